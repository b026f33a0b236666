/-! The class's readers beside the reference's: MEASURES, LAWS. -/
def SE (M P : Mem) : Prop := (M 6 1 = P 114 2 ∧ 0 ≤ M 6 1 ∧ M 6 1 ≤ 2) ∧ (M 6 2 = P 114 6 ∧ 0 ≤ M 6 2 ∧ M 6 2 ≤ 1) ∧ (M 6 1 = 0 → M 6 3 = P 114 7 + 1) ∧ (M 6 1 ≠ 0 → M 6 3 = P 114 7 ∧ M 6 4 = P 114 4 ∧ M 6 5 = P 114 8) ∧ (1 ≤ M 6 3 ∧ M 6 3 ≤ 4) ∧ ∀ k, 0 ≤ k → k < 24 → M 7 k = P 117 k
def xeA (M : Mem) (c : Int) : Mem := mu (mu (mu M 6 4 (colS c)) 6 5 (-1)) 6 1 1
def xeB (M : Mem) (d : Int) : Mem := mu (mu (mu M 6 5 d) 7 (M 6 2 * 12 + d * 3 + M 6 4) (M 7 (M 6 2 * 12 + d * 3 + M 6 4) + 1)) 6 1 2
def xeC (M : Mem) (c : Int) : Mem := mu (if c = 43 then mu M 6 3 (M 6 3 + 1) else mu (mu M 6 2 1) 6 3 1) 6 1 0
theorem xe_A (M : Mem) (c : Int) : XR M (xeA M c) := (((XR.rf M).pu _ (by omega)).pu _ (by omega)).pu _ (by omega)
theorem xe_B (M : Mem) (c : Int) : XR M (xeB M c) := (((XR.rf M).pu _ (by omega)).pu _ (by omega)).pu _ (by omega)
theorem xe_C (M : Mem) (c : Int) : XR M (xeC M c) := by
  unfold xeC
  refine XR.pu ?_ _ (by omega)
  split
  · exact (XR.rf M).pu _ (by omega)
  · exact ((XR.rf M).pu _ (by omega)).pu _ (by omega)
def xeX (M : Mem) (c : Int) : Prop := (c = 43 ∧ M 6 3 < 4) ∨ (c = 47 ∧ M 6 2 = 0)
theorem se_A {M P : Mem} {c : Int} (hS : SE M P) (hG : GM P) (hp : M 6 1 = 0) : (gmOk P c ↔ colS c ≠ -1) ∧ (colS c ≠ -1 → SE (xeA M c) (gmM P c)) := by
  obtain ⟨h1, h2, h3, h4, h5, h6⟩ := hS
  refine ⟨by unfold gmOk; omega, fun hf => ?_⟩
  unfold gmM
  rw [if_pos (by omega)]
  have e : ∀ o k, gmA P c o k = if o = 114 ∧ k = 2 then 1 else if o = 114 ∧ k = 7 then P 114 7 + 1 else if o = 114 ∧ k = 8 then -1 else if o = 114 ∧ k = 4 then colS c else P o k := fun o k => rfl
  have x : ∀ o k, xeA M c o k = if o = 6 ∧ k = 1 then 1 else if o = 6 ∧ k = 5 then -1 else if o = 6 ∧ k = 4 then colS c else M o k := fun o k => rfl
  have h7 := h3 hp
  exact ⟨by simp [e, x], by simp [e, x]; omega, fun q => by simp [x] at q, fun _ => by simp [e, x]; omega, by simp [x]; omega, fun k k0 k1 => by simp [e, x]; exact h6 k k0 k1⟩
theorem se_B {M P : Mem} {c : Int} (hS : SE M P) (hG : GM P) (hp : M 6 1 ≠ 0) (hc : 48 ≤ c ∧ c ≤ 57) : (gmOk P c ↔ (M 6 5 < c - 48 ∧ c - 48 < 4)) ∧ (M 6 5 < c - 48 ∧ c - 48 < 4 → SE (xeB M (c - 48)) (gmM P c)) := by
  obtain ⟨h1, h2, h3, h4, h5, h6⟩ := hS
  have h7 := h4 hp
  have hg := hG.1.2.2.2 (by omega)
  refine ⟨by unfold gmOk gmX gmY; omega, fun hf => ?_⟩
  unfold gmM
  rw [if_neg (by omega), if_pos (by omega)]
  have e : ∀ o k, gmB P c o k = if o = 114 ∧ k = 2 then 2 else if o = 117 ∧ k = 12 * P 114 6 + 3 * (c - 48) + P 114 4 then P 117 (12 * P 114 6 + 3 * (c - 48) + P 114 4) + 1 else if o = 114 ∧ k = 8 then c - 48 else P o k := fun o k => rfl
  have x : ∀ o k, xeB M (c - 48) o k = if o = 6 ∧ k = 1 then 2 else if o = 7 ∧ k = M 6 2 * 12 + (c - 48) * 3 + M 6 4 then M 7 (M 6 2 * 12 + (c - 48) * 3 + M 6 4) + 1 else if o = 6 ∧ k = 5 then c - 48 else M o k := fun o k => rfl
  refine ⟨by simp [e, x], by simp [e, x]; omega, fun q => by simp [x] at q, fun _ => by simp [e, x]; omega, by simp [x]; omega, fun k k0 k1 => ?_⟩
  have ek : M 6 2 * 12 + (c - 48) * 3 + M 6 4 = 12 * P 114 6 + 3 * (c - 48) + P 114 4 := by omega
  have h9 := h6 k k0 k1
  have h10 := h6 (12 * P 114 6 + 3 * (c - 48) + P 114 4) (by omega) (by omega)
  rw [ek] at x
  rw [e, x]
  clear h1 h2 h3 h4 h5 h6 e x hf hg h7 hG
  grind
theorem se_C {M P : Mem} {c : Int} (hS : SE M P) (hp : M 6 1 ≠ 0) (hc : ¬ (48 ≤ c ∧ c ≤ 57)) : (gmOk P c ↔ (M 6 1 = 2 ∧ xeX M c)) ∧ (M 6 1 = 2 ∧ xeX M c → SE (xeC M c) (gmM P c)) := by
  obtain ⟨h1, h2, h3, h4, h5, h6⟩ := hS
  have h7 := h4 hp
  refine ⟨by unfold gmOk gmX gmY xeX; omega, fun hf => ?_⟩
  have hx := hf.2
  unfold xeX at hx
  unfold gmM
  rw [if_neg (by omega), if_neg (by omega)]
  have e : ∀ o k, gmC P c o k = if o = 114 ∧ k = 2 then 0 else if o = 114 ∧ k = 7 then (if c = 47 ∧ P 114 6 = 0 then 0 else P 114 7) else if o = 114 ∧ k = 6 then P 114 6 + (if c = 47 ∧ P 114 6 = 0 then 1 else 0) else P o k := fun o k => rfl
  by_cases y : c = 43
  · have x : ∀ o k, xeC M c o k = if o = 6 ∧ k = 1 then 0 else if o = 6 ∧ k = 3 then M 6 3 + 1 else M o k := fun o k => by unfold xeC; rw [if_pos y]; rfl
    have n : ¬ (c = 47 ∧ P 114 6 = 0) := by omega
    rw [if_neg n, if_neg n] at e
    exact ⟨by simp [e, x], by simp [e, x]; omega, fun _ => by simp [e, x]; omega, fun q => by simp [x] at q, by simp [x]; omega, fun k k0 k1 => by simp [e, x]; exact h6 k k0 k1⟩
  · have x : ∀ o k, xeC M c o k = if o = 6 ∧ k = 1 then 0 else if o = 6 ∧ k = 3 then 1 else if o = 6 ∧ k = 2 then 1 else M o k := fun o k => by unfold xeC; rw [if_neg y]; rfl
    have n : c = 47 ∧ P 114 6 = 0 := by omega
    rw [if_pos n, if_pos n] at e
    exact ⟨by simp [e, x], by simp [e, x]; omega, fun _ => by simp [e, x], fun q => by simp [x] at q, by simp [x], fun k k0 k1 => by simp [e, x]; exact h6 k k0 k1⟩
def fil (M : Mem) (o n v : Int) : Mem := fun o' k => if o' = o ∧ 0 ≤ k ∧ k < n then v else M o' k
theorem fil_0 (M : Mem) (o v : Int) : fil M o 0 v = M := by funext a b; simp only [fil]; rw [if_neg (by omega)]
theorem fil_s {M : Mem} {o i v : Int} (h : 0 ≤ i) : mu (fil M o i v) o i v = fil M o (i + 1) v := by funext a b; simp only [mu, fil]; grind
def xeZ (M : Mem) : Mem := mu (mu (mu (fil M 7 24 0) 6 1 0) 6 2 0) 6 3 1
theorem se_beg (M M0 : Mem) : SE (xeZ M) (rd0 M0) := by
  have e2 : rd0 M0 114 2 = 0 := by simp [rd0, zr, rdP, mu]
  have e6 : rd0 M0 114 6 = 0 := by simp [rd0, zr, rdP, mu]
  have e7 : rd0 M0 114 7 = 0 := by simp [rd0, zr, rdP, mu]
  have x1 : xeZ M 6 1 = 0 := by simp [xeZ, mu]
  have x2 : xeZ M 6 2 = 0 := by simp [xeZ, mu]
  have x3 : xeZ M 6 3 = 1 := by simp [xeZ, mu]
  refine ⟨by omega, by omega, fun _ => by omega, fun q => by omega, by omega, fun k k0 k1 => ?_⟩
  have a : xeZ M 7 k = 0 := by simp [xeZ, mu, fil]; omega
  have b : rd0 M0 117 k = 0 := by simp [rd0, zr]; omega
  rw [a, b]
theorem xe_beg (M : Mem) : XR M (xeZ M) := by
  refine (((XR.pu ?_ _ (by omega)).pu _ (by omega)).pu _ (by omega))
  intro o k n
  simp only [fil]
  rw [if_neg (by omega)]
/-! LAWS -/
def SW (M P : Mem) : Prop := (M 8 4 = 0 ∨ M 8 4 = 1) ∧ (M 8 1 = P 114 7 ∧ 0 ≤ M 8 1 ∧ M 8 1 ≤ 5 ∧ (M 8 4 = 0 → M 8 1 ≤ 4)) ∧
  (M 8 4 = 0 → (P 114 2 = 0 ∧ M 8 3 = 0 ∧ M 8 2 = 0) ∨ (P 114 2 = 1 ∧ M 8 3 = P 114 4 ∧ (1 ≤ M 8 3 ∧ M 8 3 ≤ 3) ∧ M 8 2 = P 114 3)) ∧
  (M 8 4 = 1 → (P 114 2 = 2 ∧ M 8 3 = 0 ∧ M 8 2 = 0) ∨ (P 114 2 = 3 ∧ M 8 3 = 1 ∧ M 8 2 = P 114 3 ∧ 1 ≤ M 8 2 ∧ M 8 2 ≤ 9) ∨ (P 114 2 = 4 ∧ M 8 2 = P 114 3 ∧ ((M 8 3 = 1 ∧ M 8 2 = 0) ∨ M 8 3 = 2))) ∧
  (0 ≤ M 8 2 ∧ M 8 2 ≤ 999) ∧ ∀ i, 0 ≤ i → i < P 114 7 → M 9 i = P 118 i
def xwB (M : Mem) : Int := if 0 < M 8 1 ∧ M 8 1 ≤ 5 then M 9 (M 8 1 - 1) else 0
theorem xwB_e {M P : Mem} (hS : SW M P) : xwB M = lwB P := by
  obtain ⟨h1, h2, h3, h4, h5, h6⟩ := hS
  unfold xwB lwB
  by_cases z : P 114 7 = 0
  · rw [if_neg (by omega), if_pos z]
  · rw [if_pos (by omega), if_neg z, h2.1]; exact h6 _ (by omega) (by omega)
def xwG (M : Mem) (d : Int) : Mem := mu (mu M 8 2 (M 8 2 * 10 + d)) 8 3 (M 8 3 + 1)
def xwE (M : Mem) : Mem := mu (mu (mu (mu M 9 (M 8 1) (M 8 2)) 8 1 (M 8 1 + 1)) 8 2 0) 8 3 0
def xwR (n v : Int) : Int := if n = 1 then (v * 10 + 9) * 10 + 9 else if n = 2 then v * 10 + 9 else v
theorem xw_G (M : Mem) (d : Int) : XR M (xwG M d) := ((XR.rf M).pu _ (by omega)).pu _ (by omega)
theorem xw_E (M : Mem) : XR M (xwE M) := ((((XR.rf M).pu _ (by omega)).pu _ (by omega)).pu _ (by omega)).pu _ (by omega)
/-- a digit of a bound -/
theorem sw_A {M P : Mem} {c : Int} (hS : SW M P) (hG : GW P) (hp : M 8 4 = 0) (hc : 48 ≤ c ∧ c ≤ 57) :
    (lwOk P c ↔ (¬ (M 8 3 = 3 ∨ (M 8 3 = 0 ∧ c - 48 = 0)) ∧ xwB M < xwR (M 8 3 + 1) (M 8 2 * 10 + (c - 48)))) ∧ (¬ (M 8 3 = 3 ∨ (M 8 3 = 0 ∧ c - 48 = 0)) → SW (xwG M (c - 48)) (lwM P c)) := by
  have hb := xwB_e hS
  obtain ⟨h1, h2, h3, h4, h5, h6⟩ := hS
  have h7 := h3 hp
  have g1 := hG.2.2.1
  clear h1 h3 h4 hG
  have e1 : P 114 2 = 0 → lwN P = 1 := fun q => if_pos q
  have e2 : ¬ P 114 2 = 0 → lwN P = P 114 4 + 1 := fun q => if_neg q
  have e3 : P 114 2 = 0 → lwV P c = c - 48 := fun q => if_pos q
  have e4 : ¬ P 114 2 = 0 → lwV P c = 10 * P 114 3 + c - 48 := fun q => if_neg q
  constructor
  · have e5 : lwN P = M 8 3 + 1 := by omega
    have e6 : lwV P c = M 8 2 * 10 + (c - 48) := by omega
    have er : ∀ a v : Int, rchS a v = xwR a v := fun a v => by
      unfold rchS xwR
      by_cases z : a = 1
      · rw [if_pos z, if_pos z]; omega
      · rw [if_neg z, if_neg z]
        by_cases z2 : a = 2
        · rw [if_pos z2, if_pos z2]; omega
        · rw [if_neg z2, if_neg z2]
    have i1 : lwOk P c ↔ okA P c := ⟨fun q => by
      rcases q with q | q | q
      · exact q.2.2
      · exact absurd hc q.2.1
      · omega, fun q => Or.inl ⟨by omega, hc, q⟩⟩
    rw [i1]
    unfold okA
    rw [e5, e6, ← hb, er]
    clear e1 e2 e3 e4 e5 e6 er i1 h6 h5 h2 hb g1
    have w : (P 114 2 = 1 ∨ c ≠ 48) ∧ M 8 3 + 1 < 4 ↔ ¬ (M 8 3 = 3 ∨ (M 8 3 = 0 ∧ c - 48 = 0)) := by omega
    rw [← w, and_assoc]
  · intro hf
    unfold lwM
    rw [if_pos (by omega)]
    have e : ∀ o k, lwA P c o k = if o = 114 ∧ k = 2 then 1 else if o = 114 ∧ k = 3 then lwV P c else if o = 114 ∧ k = 4 then lwN P else P o k := fun o k => rfl
    have x : ∀ o k, xwG M (c - 48) o k = if o = 8 ∧ k = 3 then M 8 3 + 1 else if o = 8 ∧ k = 2 then M 8 2 * 10 + (c - 48) else M o k := fun o k => rfl
    have y2 : lwA P c 114 2 = 1 := by simp [e]
    have y3 : lwA P c 114 3 = lwV P c := by simp [e]
    have y4 : lwA P c 114 4 = lwN P := by simp [e]
    have y7 : lwA P c 114 7 = P 114 7 := by simp [e]
    have e5 : lwN P = M 8 3 + 1 := by omega
    have e6 : lwV P c = M 8 2 * 10 + (c - 48) := by omega
    have x1 : xwG M (c - 48) 8 1 = M 8 1 := by simp [x]
    have x2 : xwG M (c - 48) 8 2 = M 8 2 * 10 + (c - 48) := by simp [x]
    have x3 : xwG M (c - 48) 8 3 = M 8 3 + 1 := by simp [x]
    have x4 : xwG M (c - 48) 8 4 = M 8 4 := by simp [x]
    clear e1 e2 e3 e4 hb
    rcases h7 with h7 | h7
    all_goals refine ⟨by omega, by omega, fun _ => by omega, fun _ => by omega, by omega, fun i i0 i1 => ?_⟩
    all_goals rw [y7] at i1
    all_goals simp [e, x]
    all_goals exact h6 i i0 i1
/-- the end of a bound -/
theorem sw_B {M P : Mem} {c : Int} (hS : SW M P) (hG : GW P) (hp : M 8 4 = 0) (hc : ¬ (48 ≤ c ∧ c ≤ 57)) :
    (lwOk P c ↔ (M 8 3 ≠ 0 ∧ xwB M < M 8 2) ∧ ((c = 44 ∧ M 8 2 < 999 ∧ M 8 1 + 1 < 5) ∨ c = 59)) ∧
    ((M 8 3 ≠ 0 ∧ xwB M < M 8 2) → c = 44 → M 8 1 + 1 < 5 → SW (xwE M) (lwM P c)) ∧ ((M 8 3 ≠ 0 ∧ xwB M < M 8 2) → c = 59 → SW (xwE (mu M 8 4 1)) (lwM P c)) := by
  have hb := xwB_e hS
  obtain ⟨h1, h2, h3, h4, h5, h6⟩ := hS
  have h7 := h3 hp
  clear h1 h3 h4 hG
  have ok : lwOk P c ↔ (M 8 3 ≠ 0 ∧ xwB M < M 8 2) ∧ ((c = 44 ∧ M 8 2 < 999 ∧ M 8 1 + 1 < 5) ∨ c = 59) := by
    have i1 : lwOk P c ↔ okB P c := ⟨fun q => by
      rcases q with q | q | q
      · exact absurd q.2.1 hc
      · exact q.2.2
      · omega, fun q => Or.inr (Or.inl ⟨by omega, hc, q⟩)⟩
    rw [i1]
    unfold okB
    rw [← hb]
    clear i1 h6 hb
    rcases h7 with h7 | h7 <;> omega
  have key : (M 8 3 ≠ 0 ∧ xwB M < M 8 2) → ∀ o k, lwM P c o k = if o = 114 ∧ k = 2 then (if c = 59 then 2 else 0) else if o = 114 ∧ k = 7 then P 114 7 + 1 else if o = 118 ∧ k = P 114 7 then P 114 3 else P o k := fun hk o k => by
    unfold lwM
    rw [if_neg (by omega), if_pos (by omega)]
    unfold lwBM
    rw [if_pos (by rw [← hb]; omega)]
    rfl
  refine ⟨ok, fun hk h44 h5' => ?_, fun hk h59 => ?_⟩
  · have e := key hk
    have x : ∀ o k, xwE M o k = if o = 8 ∧ k = 3 then 0 else if o = 8 ∧ k = 2 then 0 else if o = 8 ∧ k = 1 then M 8 1 + 1 else if o = 9 ∧ k = M 8 1 then M 8 2 else M o k := fun o k => rfl
    have y2 : lwM P c 114 2 = 0 := by rw [e, if_pos ⟨rfl, rfl⟩, if_neg (by omega)]
    have y7 : lwM P c 114 7 = P 114 7 + 1 := by simp [e]
    have x1 : xwE M 8 1 = M 8 1 + 1 := by simp [x]
    have x2 : xwE M 8 2 = 0 := by simp [x]
    have x3 : xwE M 8 3 = 0 := by simp [x]
    have x4 : xwE M 8 4 = M 8 4 := by simp [x]
    refine ⟨by omega, by omega, fun _ => by omega, fun _ => by omega, by omega, fun i i0 i1 => ?_⟩
    rw [y7] at i1
    have h9 : i < P 114 7 → M 9 i = P 118 i := fun q => h6 i i0 q
    have h10 : M 8 2 = P 114 3 := by omega
    have h11 := h2.1
    have h12 : ¬ i = P 114 7 → i < P 114 7 := by omega
    rw [e, x]
    clear h2 h5 h6 e x h7 key ok y2 y7 x1 x2 x3 x4 hb
    grind
  · have e := key hk
    have x : ∀ o k, xwE (mu M 8 4 1) o k = if o = 8 ∧ k = 3 then 0 else if o = 8 ∧ k = 2 then 0 else if o = 8 ∧ k = 1 then M 8 1 + 1 else if o = 9 ∧ k = M 8 1 then M 8 2 else if o = 8 ∧ k = 4 then 1 else M o k := fun o k => by simp [xwE, mu]
    have y2 : lwM P c 114 2 = 2 := by rw [e, if_pos ⟨rfl, rfl⟩, if_pos h59]
    have y7 : lwM P c 114 7 = P 114 7 + 1 := by simp [e]
    have x1 : xwE (mu M 8 4 1) 8 1 = M 8 1 + 1 := by simp [x]
    have x2 : xwE (mu M 8 4 1) 8 2 = 0 := by simp [x]
    have x3 : xwE (mu M 8 4 1) 8 3 = 0 := by simp [x]
    have x4 : xwE (mu M 8 4 1) 8 4 = 1 := by simp [x]
    refine ⟨by omega, by omega, fun _ => by omega, fun _ => by omega, by omega, fun i i0 i1 => ?_⟩
    rw [y7] at i1
    have h9 : i < P 114 7 → M 9 i = P 118 i := fun q => h6 i i0 q
    have h10 : M 8 2 = P 114 3 := by omega
    have h11 := h2.1
    have h12 : ¬ i = P 114 7 → i < P 114 7 := by omega
    rw [e, x]
    clear h2 h5 h6 e x h7 key ok y2 y7 x1 x2 x3 x4 hb
    grind
/-- GIVE -/
theorem sw_C {M P : Mem} {c : Int} (hS : SW M P) (hG : GW P) (hp : M 8 4 = 1) : (lwOk P c ↔ ((48 ≤ c ∧ c ≤ 57) ∧ ¬ (M 8 3 = 2 ∨ (M 8 3 = 1 ∧ M 8 2 = 0)))) ∧ ((48 ≤ c ∧ c ≤ 57) ∧ ¬ (M 8 3 = 2 ∨ (M 8 3 = 1 ∧ M 8 2 = 0)) → SW (xwG M (c - 48)) (lwM P c)) := by
  obtain ⟨h1, h2, h3, h4, h5, h6⟩ := hS
  have h7 := h4 hp
  clear h1 h3 h4 hG
  have i1 : lwOk P c ↔ ((48 ≤ c ∧ c ≤ 57) ∧ P 114 2 < 4) := ⟨fun q => by
      rcases q with q | q | q
      · omega
      · omega
      · exact q.2, fun q => Or.inr (Or.inr ⟨by omega, q⟩)⟩
  refine ⟨by rw [i1]; omega, fun hf => ?_⟩
  unfold lwM
  rw [if_neg (by omega), if_neg (by omega)]
  have e : ∀ o k, lwC P c o k = if o = 114 ∧ k = 2 then (if P 114 2 = 2 ∧ c ≠ 48 then 3 else 4) else if o = 114 ∧ k = 3 then (if P 114 2 = 2 then c - 48 else 10 * P 114 3 + c - 48) else P o k := fun o k => rfl
  have x : ∀ o k, xwG M (c - 48) o k = if o = 8 ∧ k = 3 then M 8 3 + 1 else if o = 8 ∧ k = 2 then M 8 2 * 10 + (c - 48) else M o k := fun o k => rfl
  have y2 : lwC P c 114 2 = if P 114 2 = 2 ∧ c ≠ 48 then 3 else 4 := by simp [e]
  have y3 : lwC P c 114 3 = if P 114 2 = 2 then c - 48 else 10 * P 114 3 + c - 48 := by simp [e]
  have y7 : lwC P c 114 7 = P 114 7 := by simp [e]
  have x1 : xwG M (c - 48) 8 1 = M 8 1 := by simp [x]
  have x2 : xwG M (c - 48) 8 2 = M 8 2 * 10 + (c - 48) := by simp [x]
  have x3 : xwG M (c - 48) 8 3 = M 8 3 + 1 := by simp [x]
  have x4 : xwG M (c - 48) 8 4 = M 8 4 := by simp [x]
  have r : (P 114 2 = 2 ∧ c ≠ 48 → lwC P c 114 2 = 3) ∧ (¬ (P 114 2 = 2 ∧ c ≠ 48) → lwC P c 114 2 = 4) := ⟨fun q => by rw [y2, if_pos q], fun q => by rw [y2, if_neg q]⟩
  have r3 : (P 114 2 = 2 → lwC P c 114 3 = c - 48) ∧ (¬ P 114 2 = 2 → lwC P c 114 3 = 10 * P 114 3 + c - 48) := ⟨fun q => by rw [y3, if_pos q], fun q => by rw [y3, if_neg q]⟩
  clear y2 y3 i1
  rcases h7 with h7 | h7 | h7
  all_goals refine ⟨by omega, by omega, fun _ => by omega, fun _ => by omega, by omega, fun i i0 i1 => ?_⟩
  all_goals rw [y7] at i1
  all_goals simp [e, x]
  all_goals exact h6 i i0 i1
def xwZ (M : Mem) : Mem := mu (mu (mu (mu M 8 1 0) 8 2 0) 8 3 0) 8 4 0
theorem sw_beg (M M0 : Mem) : SW (xwZ M) (rd0 M0) := by
  have e2 : rd0 M0 114 2 = 0 := by simp [rd0, zr, rdP, mu]
  have e7 : rd0 M0 114 7 = 0 := by simp [rd0, zr, rdP, mu]
  have x1 : xwZ M 8 1 = 0 := by simp [xwZ, mu]
  have x2 : xwZ M 8 2 = 0 := by simp [xwZ, mu]
  have x3 : xwZ M 8 3 = 0 := by simp [xwZ, mu]
  have x4 : xwZ M 8 4 = 0 := by simp [xwZ, mu]
  exact ⟨by omega, by omega, fun _ => by omega, fun q => by omega, by omega, fun i i0 i1 => by omega⟩
theorem xw_beg (M : Mem) : XR M (xwZ M) := ((((XR.rf M).pu _ (by omega)).pu _ (by omega)).pu _ (by omega)).pu _ (by omega)
theorem tk_no {q A : Prop} {M M' : Mem} (n : ¬ q) (hx : XR M M') : (0 : Int) = b2i q ∧ XR M M' ∧ (q → A) := ⟨b2i_0 n, hx, fun z => absurd z n⟩
theorem tk_yes {q A : Prop} {M M' : Mem} (n : q) (hx : XR M M') (a : A) : (1 : Int) = b2i q ∧ XR M M' ∧ (q → A) := ⟨b2i_1 n, hx, fun _ => a⟩
theorem tk_q {q q' A : Prop} {M M' : Mem} (i : q ↔ q') (hx : XR M M') (a : q' → A) : b2i q' = b2i q ∧ XR M M' ∧ (q → A) := ⟨b2i_iff i.symm, hx, fun z => a (i.mp z)⟩
theorem xwR_s {i g : Int} (h0 : 1 ≤ i) (h1 : i < 3) : xwR (i + 1) (g * 10 + 9) = xwR i g := by
  unfold xwR
  rcases (by omega : i = 1 ∨ i = 2) with rfl | rfl
  · rw [if_neg (by omega), if_pos (by omega), if_pos rfl]
  · rw [if_neg (by omega), if_neg (by omega), if_neg (by omega), if_pos rfl]
theorem xwR_3 (g : Int) : xwR 3 g = g := by unfold xwR; rw [if_neg (by omega), if_neg (by omega)]
theorem sw_dig {M P : Mem} (hS : SW M P) (hG : GW P) (hp : M 8 4 = 0) : (0 ≤ M 8 3 ∧ M 8 3 ≤ 3) ∧ (M 8 3 = 0 → M 8 2 = 0) ∧ (M 8 3 = 1 → M 8 2 ≤ 9) ∧ (M 8 3 = 2 → M 8 2 ≤ 99) := by
  have h7 := hS.2.2.1 hp
  have g1 := hG.2.2.1
  omega

