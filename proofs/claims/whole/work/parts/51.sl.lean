/-! The class's readers beside the reference's: LAMPS. -/
def XR (M M1 : Mem) : Prop := ∀ o k : Int, ¬ (3 ≤ o ∧ o ≤ 9) → M1 o k = M o k
theorem XR.rf (M : Mem) : XR M M := fun _ _ _ => rfl
theorem XR.tr {M M1 M2 : Mem} (h : XR M M1) (h2 : XR M1 M2) : XR M M2 := fun o k n => (h2 o k n).trans (h o k n)
theorem XR.pu {M M1 : Mem} (h : XR M M1) {o k : Int} (v : Int) (hs : 3 ≤ o ∧ o ≤ 9) : XR M (mu M1 o k v) := fun o' k' n => by
  have e : ¬ (o' = o ∧ k' = k) := fun q => n (by rw [q.1]; exact hs)
  show (if o' = o ∧ k' = k then v else M1 o' k') = _
  rw [if_neg e]; exact h o' k' n
theorem XR.row {M M1 : Mem} (h : XR M M1) {o : Int} (ho : ¬ (3 ≤ o ∧ o ≤ 9)) : M1 o = M o := by funext k; exact h o k ho
def dgS (c : Int) : Int := if 48 ≤ c ∧ c ≤ 57 then c - 48 else -1
theorem dgS_rng (c : Int) : -1 ≤ dgS c ∧ dgS c ≤ 9 := by unfold dgS; split <;> omega
theorem dgS_y {c : Int} (h : 48 ≤ c ∧ c ≤ 57) : dgS c = c - 48 := if_pos h
theorem dgS_n {c : Int} (h : ¬ (48 ≤ c ∧ c ≤ 57)) : dgS c = -1 := if_neg h
theorem dgS_i {c : Int} (h : dgS c ≠ -1) : 48 ≤ c ∧ c ≤ 57 := by unfold dgS at h; split at h <;> omega
def SL (M P : Mem) : Prop :=
  ((M 3 2 = 0 ∧ P 114 2 = 0) ∨ (M 3 2 = 1 ∧ P 114 2 = 1) ∨ (M 3 2 = 2 ∧ P 114 2 = 2) ∨ (M 3 2 = 3 ∧ (P 114 2 = 3 ∨ P 114 2 = 4))) ∧
  (1 ≤ M 3 2 → M 3 3 = P 114 4 ∧ 0 ≤ M 3 3 ∧ M 3 3 ≤ 2) ∧ (2 ≤ M 3 2 → M 3 4 = P 114 5 ∧ (M 3 4 = 1 ∨ M 3 4 = -1)) ∧
  (M 3 2 = 3 → M 3 5 = P 114 3 ∧ (0 ≤ M 3 5 ∧ M 3 5 ≤ 20) ∧ (P 114 2 = 3 ↔ (M 3 5 = 1 ∨ M 3 5 = 2))) ∧
  (∀ i, 0 ≤ i → i < 3 → M 5 i = bit (P 114 10) i) ∧ (∀ i, 0 ≤ i → i < 3 → M 4 i = P 116 i)
def xlF (M : Mem) (c : Int) : Prop := colS c ≠ -1 ∧ M 5 (colS c) = 0
def xlC (M : Mem) (c : Int) : Mem := mu (mu (mu M 3 3 (colS c)) 5 (colS c) 1) 3 2 1
def xlS (M : Mem) (c : Int) : Mem := mu (mu M 3 4 (if c = 43 then 1 else -1)) 3 2 2
def xlD (M : Mem) (v : Int) : Mem := mu (mu (mu M 3 5 v) 4 (M 3 3) (M 3 4 * v)) 3 2 3
theorem bit_or {a n i : Int} (h0 : 0 ≤ a ∧ a ≤ 7) (hn : 0 ≤ n ∧ n ≤ 2) (hi : 0 ≤ i ∧ i < 3) : bit (or32 a (shl32 1 n)) i = if i = n then 1 else bit a i := by
  rcases (by omega : n = 0 ∨ n = 1 ∨ n = 2) with rfl | rfl | rfl <;> rcases (by omega : i = 0 ∨ i = 1 ∨ i = 2) with rfl | rfl | rfl <;> rcases (by omega : a = 0 ∨ a = 1 ∨ a = 2 ∨ a = 3 ∨ a = 4 ∨ a = 5 ∨ a = 6 ∨ a = 7) with rfl | rfl | rfl | rfl | rfl | rfl | rfl | rfl <;> decide
theorem colS_dg {c : Int} (h : 48 ≤ c ∧ c ≤ 57) : colS c = -1 := by unfold colS; grind
theorem xlF_i {M P : Mem} {c : Int} (hS : SL M P) : xlF M c ↔ glF P c := by
  obtain ⟨-, -, -, -, h5, -⟩ := hS
  have hc := colS_rng c
  unfold xlF glF
  constructor
  · rintro ⟨a, b⟩; exact ⟨a, by rw [← h5 _ (by omega) (by omega)]; exact b⟩
  · rintro ⟨a, b⟩; exact ⟨a, by rw [h5 _ (by omega) (by omega)]; exact b⟩
theorem sl_col {M P : Mem} {c : Int} (hS : SL M P) (hG : GL P) (hp : M 3 2 = 0 ∨ (M 3 2 = 3 ∧ ¬ (48 ≤ c ∧ c ≤ 57))) : (glOk P c ↔ xlF M c) ∧ (xlF M c → SL (xlC M c) (glM P c)) := by
  have hi := xlF_i (c := c) hS
  have hc := colS_rng c
  obtain ⟨h1, h2, h3, h4, h5, h6⟩ := hS
  have ns : ¬ (P 114 2 = 3 ∧ 48 ≤ c ∧ c ≤ 57) := by omega
  have s2 : P 114 2 = 0 ∨ 2 < P 114 2 := by omega
  refine ⟨?_, fun hf => ?_⟩
  · rw [hi]
    unfold glOk
    constructor
    · rintro (q | q | q | q)
      · omega
      · exact q.2.2
      · omega
      · omega
    · intro q; exact Or.inr (Or.inl ⟨ns, s2, q⟩)
  · have hg := hi.mp hf
    have hf0 := hf.1
    unfold glM
    rw [if_neg ns, if_pos s2]
    have e : ∀ o k, glB P c o k = if o = 114 ∧ k = 2 then 1 else if o = 114 ∧ k = 10 then or32 (P 114 10) (if b2i (glF P c) = 1 then shl32 1 (colS c) else 0) else if o = 114 ∧ k = 4 then colS c else P o k := fun o k => rfl
    rw [if_pos (b2i_1 hg).symm] at e
    have x : ∀ o k, xlC M c o k = if o = 3 ∧ k = 2 then 1 else if o = 5 ∧ k = colS c then 1 else if o = 3 ∧ k = 3 then colS c else M o k := fun o k => rfl
    refine ⟨by simp [e, x], fun _ => by simp [e, x]; omega, fun q => by simp [x] at q, fun q => by simp [x] at q, fun i i0 i1 => ?_, fun i i0 i1 => by simp [e, x]; exact h6 i i0 i1⟩
    have e10 : glB P c 114 10 = or32 (P 114 10) (shl32 1 (colS c)) := by simp [e]
    rw [e10, bit_or hG.2.1 (by omega) ⟨i0, i1⟩, ← h5 i i0 i1]
    simp [x]
theorem sl_sign {M P : Mem} {c : Int} (hS : SL M P) (hp : M 3 2 = 1) : (glOk P c ↔ (c = 43 ∨ c = 45)) ∧ (c = 43 ∨ c = 45 → SL (xlS M c) (glM P c)) := by
  obtain ⟨h1, h2, h3, h4, h5, h6⟩ := hS
  refine ⟨by unfold glOk; omega, fun hf => ?_⟩
  unfold glM
  rw [if_neg (by omega), if_neg (by omega), if_pos (by omega)]
  have e : ∀ o k, glC P c o k = if o = 114 ∧ k = 2 then 2 else if o = 114 ∧ k = 5 then (if c = 43 then 1 else -1) else P o k := fun o k => rfl
  have x : ∀ o k, xlS M c o k = if o = 3 ∧ k = 2 then 2 else if o = 3 ∧ k = 4 then (if c = 43 then 1 else -1) else M o k := fun o k => rfl
  have h7 := h2 (by omega)
  refine ⟨by simp [e, x], fun _ => by simp [e, x]; omega, fun _ => by simp [e, x]; omega, fun q => by simp [x] at q, fun i i0 i1 => by simp [e, x]; exact h5 i i0 i1, fun i i0 i1 => by simp [e, x]; exact h6 i i0 i1⟩
theorem sl_dig {M P : Mem} {c : Int} (hS : SL M P) (hp : M 3 2 = 2) : (glOk P c ↔ (48 ≤ c ∧ c ≤ 57)) ∧ (48 ≤ c ∧ c ≤ 57 → SL (xlD M (c - 48)) (glM P c)) := by
  obtain ⟨h1, h2, h3, h4, h5, h6⟩ := hS
  refine ⟨by unfold glOk; omega, fun hf => ?_⟩
  unfold glM
  rw [if_neg (by omega), if_neg (by omega), if_neg (by omega)]
  have h7 := h2 (by omega)
  have h8 := h3 (by omega)
  have e : ∀ o k, glD P c o k = if o = 114 ∧ k = 2 then (if c = 49 ∨ c = 50 then 3 else 4) else if o = 116 ∧ k = P 114 4 then P 114 5 * (c - 48) else if o = 114 ∧ k = 3 then c - 48 else P o k := fun o k => rfl
  have x : ∀ o k, xlD M (c - 48) o k = if o = 3 ∧ k = 2 then 3 else if o = 4 ∧ k = M 3 3 then M 3 4 * (c - 48) else if o = 3 ∧ k = 5 then c - 48 else M o k := fun o k => rfl
  refine ⟨by simp [e, x]; omega, fun _ => by simp [e, x]; omega, fun _ => by simp [e, x]; omega, fun _ => by simp [e, x]; omega, fun i i0 i1 => by simp [e, x]; exact h5 i i0 i1, fun i i0 i1 => ?_⟩
  have h9 := h6 i i0 i1
  rw [e, x]
  clear h1 h2 h3 h4 h5 h6 e x
  grind
theorem sl_dig2 {M P : Mem} {c : Int} (hS : SL M P) (hp : M 3 2 = 3) (hc : 48 ≤ c ∧ c ≤ 57) : (glOk P c ↔ (M 3 5 ≠ 0 ∧ M 3 5 * 10 + (c - 48) ≤ 20)) ∧ (M 3 5 ≠ 0 ∧ M 3 5 * 10 + (c - 48) ≤ 20 → SL (xlD M (M 3 5 * 10 + (c - 48))) (glM P c)) := by
  have hcl := colS_dg hc
  obtain ⟨h1, h2, h3, h4, h5, h6⟩ := hS
  have h9 := h4 hp
  refine ⟨?_, fun hf => ?_⟩
  · have nf : ¬ glF P c := fun q => q.1 hcl
    unfold glOk
    constructor
    · rintro (q | q | q | q)
      · omega
      · exact absurd q.2.2 nf
      · omega
      · omega
    · intro q; left; omega
  · have h3' : P 114 2 = 3 := h9.2.2.mpr (by omega)
    unfold glM
    rw [if_pos ⟨h3', hc⟩]
    have h7 := h2 (by omega)
    have h8 := h3 (by omega)
    have e : ∀ o k, glA P c o k = if o = 114 ∧ k = 2 then 4 else if o = 116 ∧ k = P 114 4 then P 114 5 * (10 * P 114 3 + c - 48) else if o = 114 ∧ k = 3 then 10 * P 114 3 + c - 48 else P o k := fun o k => rfl
    have x : ∀ o k, xlD M (M 3 5 * 10 + (c - 48)) o k = if o = 3 ∧ k = 2 then 3 else if o = 4 ∧ k = M 3 3 then M 3 4 * (M 3 5 * 10 + (c - 48)) else if o = 3 ∧ k = 5 then M 3 5 * 10 + (c - 48) else M o k := fun o k => rfl
    have ev : M 3 5 * 10 + (c - 48) = 10 * P 114 3 + c - 48 := by omega
    rw [ev]
    rw [ev] at x
    refine ⟨by simp [e, x], fun _ => by simp [e, x]; omega, fun _ => by simp [e, x]; omega, fun _ => by simp [e, x]; omega, fun i i0 i1 => by simp [e, x]; exact h5 i i0 i1, fun i i0 i1 => ?_⟩
    have h10 := h6 i i0 i1
    rw [e, x]
    clear h1 h2 h3 h4 h5 h6 e x
    grind
theorem sl_dead {M P : Mem} (hS : SL M P) : 0 ≤ M 3 2 ∧ M 3 2 ≤ 3 := by have := hS.1; omega
theorem xl_C (M : Mem) (c : Int) : XR M (xlC M c) := (((XR.rf M).pu _ (by omega)).pu _ (by omega)).pu _ (by omega)
theorem xl_S (M : Mem) (c : Int) : XR M (xlS M c) := ((XR.rf M).pu _ (by omega)).pu _ (by omega)
theorem xl_D (M : Mem) (v : Int) : XR M (xlD M v) := (((XR.rf M).pu _ (by omega)).pu _ (by omega)).pu _ (by omega)
def TKL (M P : Mem) (c r : Int) (M' : Mem) : Prop := r = b2i (glOk P c) ∧ XR M M' ∧ (glOk P c → SL M' (glM P c))
theorem tk_col {M P M' : Mem} {c : Int} (hS : SL M P) (hG : GL P) (hp : M 3 2 = 0 ∨ (M 3 2 = 3 ∧ ¬ (48 ≤ c ∧ c ≤ 57))) (h : (xlF M c → M' = xlC M c) ∧ (¬ xlF M c → M' = M)) : TKL M P c (b2i (xlF M c)) M' := by
  have z := sl_col (c := c) hS hG hp
  refine ⟨b2i_iff z.1.symm, ?_, fun q => ?_⟩
  · by_cases f : xlF M c
    · rw [h.1 f]; exact xl_C M c
    · rw [h.2 f]; exact XR.rf M
  · have f := z.1.mp q
    rw [h.1 f]; exact z.2 f
theorem tk_sign {M P M' : Mem} {c : Int} (hS : SL M P) (hp : M 3 2 = 1) (h : M' = (if c = 43 ∨ c = 45 then mu (mu M 3 4 (if c = 43 then 1 else -1)) 3 2 2 else M)) : TKL M P c (b2i (c = 43 ∨ c = 45)) M' := by
  have z := sl_sign (c := c) hS hp
  refine ⟨b2i_iff z.1.symm, ?_, fun q => ?_⟩
  · by_cases f : c = 43 ∨ c = 45
    · rw [h, if_pos f]; exact xl_S M c
    · rw [h, if_neg f]; exact XR.rf M
  · have f := z.1.mp q
    rw [h, if_pos f]; exact z.2 f
theorem tk_dig {M P M' : Mem} {c : Int} (hS : SL M P) (hp : M 3 2 = 2) (h : M' = (if dgS c ≠ -1 ∧ 0 * 10 + dgS c ≤ 20 then mu (mu (mu M 3 5 (0 * 10 + dgS c)) 4 (M 3 3) (M 3 4 * (0 * 10 + dgS c))) 3 2 3 else M)) : TKL M P c (b2i (dgS c ≠ -1 ∧ 0 * 10 + dgS c ≤ 20)) M' := by
  have z := sl_dig (c := c) hS hp
  have hd := dgS_rng c
  have i : (48 ≤ c ∧ c ≤ 57) ↔ (dgS c ≠ -1 ∧ 0 * 10 + dgS c ≤ 20) := ⟨fun q => by rw [dgS_y q]; omega, fun q => dgS_i q.1⟩
  refine ⟨b2i_iff (i.symm.trans z.1.symm), ?_, fun q => ?_⟩
  · by_cases f : dgS c ≠ -1 ∧ 0 * 10 + dgS c ≤ 20
    · rw [h, if_pos f]; exact xl_D M _
    · rw [h, if_neg f]; exact XR.rf M
  · have f := z.1.mp q
    rw [h, if_pos (i.mp f), dgS_y f, show (0 : Int) * 10 + (c - 48) = c - 48 by omega]; exact z.2 f
theorem tk_b0 {M P : Mem} {c : Int} (hS : SL M P) (hp : M 3 2 = 3) (hc : 48 ≤ c ∧ c ≤ 57) (h0 : M 3 5 = 0) : TKL M P c 0 M := by
  have z := (sl_dig2 hS hp hc).1
  have n : ¬ glOk P c := fun q => (z.mp q).1 h0
  exact ⟨b2i_0 n, XR.rf M, fun q => absurd q n⟩
theorem tk_b {M P M' : Mem} {c : Int} (hS : SL M P) (hp : M 3 2 = 3) (hc : 48 ≤ c ∧ c ≤ 57) (h0 : M 3 5 ≠ 0) (h : M' = (if dgS c ≠ -1 ∧ M 3 5 * 10 + dgS c ≤ 20 then mu (mu (mu M 3 5 (M 3 5 * 10 + dgS c)) 4 (M 3 3) (M 3 4 * (M 3 5 * 10 + dgS c))) 3 2 3 else M)) : (dgS c ≠ -1 ∧ M 3 5 * 10 + dgS c ≤ 20 → TKL M P c 1 M') ∧ (¬ (dgS c ≠ -1 ∧ M 3 5 * 10 + dgS c ≤ 20) → TKL M P c 0 M') := by
  have z := sl_dig2 hS hp hc
  have e := dgS_y hc
  constructor
  · intro f
    rw [h, if_pos f]
    have g : M 3 5 ≠ 0 ∧ M 3 5 * 10 + (c - 48) ≤ 20 := ⟨h0, by rw [← e]; exact f.2⟩
    rw [e]
    exact ⟨b2i_1 (z.1.mpr g), xl_D M _, fun _ => z.2 g⟩
  · intro f
    rw [h, if_neg f]
    have n : ¬ glOk P c := fun q => f ⟨by rw [e]; omega, by rw [e]; exact (z.1.mp q).2⟩
    exact ⟨b2i_0 n, XR.rf M, fun q => absurd q n⟩
theorem sl_beg (M M0 : Mem) : SL (mu (zr (zr M 4 3) 5 3) 3 2 0) (rd0 M0) := by
  have e2 : rd0 M0 114 2 = 0 := by simp [rd0, zr, rdP, mu]
  have e10 : rd0 M0 114 10 = 0 := by simp [rd0, zr, rdP, mu]
  have x2 : mu (zr (zr M 4 3) 5 3) 3 2 0 3 2 = 0 := by simp [mu]
  refine ⟨by omega, fun q => by omega, fun q => by omega, fun q => by omega, fun i i0 i1 => ?_, fun i i0 i1 => ?_⟩
  · rw [e10]
    have : mu (zr (zr M 4 3) 5 3) 3 2 0 5 i = 0 := by simp [mu, zr]; omega
    rw [this]
    unfold bit
    simp
  · have a : mu (zr (zr M 4 3) 5 3) 3 2 0 4 i = 0 := by simp [mu, zr]; omega
    have b : rd0 M0 116 i = 0 := by simp [rd0, zr, rdP, mu]; intro z; omega
    rw [a, b]
theorem xl_beg (M : Mem) : XR M (mu (zr (zr M 4 3) 5 3) 3 2 0) := by
  refine XR.pu (fun o k n => ?_) _ (by omega)
  simp only [zr]
  rw [if_neg (by omega), if_neg (by omega)]

