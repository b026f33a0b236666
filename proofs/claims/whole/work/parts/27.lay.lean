/-! The tables of choices. -/
def OW (M M1 : Mem) : Prop := ∀ o : Int, o ≠ 131 → M1 o = M o
theorem OW.rf (M : Mem) : OW M M := fun _ _ => rfl
theorem OW.mu {M M1 : Mem} (h : OW M M1) (k v : Int) : OW M (mu M1 131 k v) := fun o ho => by rw [mu_o M1 k v ho]; exact h o ho
theorem OW.tr {M M1 M2 : Mem} (h : OW M M1) (h2 : OW M1 M2) : OW M M2 := fun o ho => (h2 o ho).trans (h o ho)
def OT (M M1 : Mem) : Prop := ∀ o k : Int, ¬ ((131 ≤ o ∧ o ≤ 133) ∨ (o = 114 ∧ (k = 37 ∨ k = 38))) → M1 o k = M o k
theorem OT.rf (M : Mem) : OT M M := fun _ _ _ => rfl
theorem OT.mu {M M1 : Mem} (h : OT M M1) {o k : Int} (v : Int) (hs : (131 ≤ o ∧ o ≤ 133) ∨ (o = 114 ∧ (k = 37 ∨ k = 38))) : OT M (mu M1 o k v) := fun o' k' n => by
  have e : ¬ (o' = o ∧ k' = k) := fun q => n (by rw [q.1, q.2]; exact hs)
  show (if o' = o ∧ k' = k then v else M1 o' k') = _
  rw [if_neg e]; exact h o' k' n
theorem OT.ow {M M1 M2 : Mem} (h : OT M M1) (h2 : OW M1 M2) : OT M M2 := fun o k n => by rw [h2 o (by omega)]; exact h o k n
theorem OT.row {M M1 : Mem} (h : OT M M1) {o : Int} (ho : o ≠ 114 ∧ ¬ (131 ≤ o ∧ o ≤ 133)) : M1 o = M o := by funext k; exact h o k (by omega)
theorem OT.fld {M M1 : Mem} (h : OT M M1) {k : Int} (hk : k ≠ 37 ∧ k ≠ 38) : M1 114 k = M 114 k := h 114 k (by omega)
theorem OT.sm {M M1 : Mem} (h : OT M M1) : SM M M1 := fun o k n => h o k (fun q => n (by unfold scrM; omega))
theorem OT.e_LK {M M1 : Mem} (h : OT M M1) (hL : LK M) : LK M1 := by
  unfold LK at hL ⊢
  rw [h.fld (k := 29) (by omega), h.row (o := 127) (by omega), h.row (o := 128) (by omega), h.row (o := 129) (by omega), h.row (o := 130) (by omega)]
  exact hL
theorem OT.e_agM {M M1 : Mem} (h : OT M M1) : agM M1 = agM M := by
  funext i
  show agP _ _ _ _ i = agP _ _ _ _ i
  rw [h.fld (k := 29) (by omega), h.row (o := 127) (by omega), h.row (o := 128) (by omega)]
theorem OT.e_stM {M M1 : Mem} (h : OT M M1) : stM M1 = stM M := by
  show stP _ _ _ _ _ = stP _ _ _ _ _
  rw [h.fld (k := 29) (by omega), h.row (o := 127) (by omega), h.row (o := 128) (by omega), h.row (o := 129) (by omega)]
def FH (M : Mem) (g : Int) (i : Nat) (k s : Int) : Int := FP one1 (M 127) (agM M) g del i k s
theorem OT.e_FH {M M1 : Mem} (h : OT M M1) : FH M1 = FH M := by
  funext g i k s
  show FP _ _ _ _ _ _ _ _ = FP _ _ _ _ _ _ _ _
  rw [h.row (o := 127) (by omega), h.e_agM]
def zf (M : Mem) (n : Int) : Mem := fun o j => if o = 131 ∧ 0 ≤ j ∧ j < n then 0 else M o j
theorem zf_s {M : Mem} {z : Int} (h : 0 ≤ z) : mu (zf M z) 131 z 0 = zf M (z + 1) := by
  funext o j
  simp only [mu, zf]
  grind
def tabW (M M1 : Mem) (g : Int) (i : Nat) : Prop := ∀ k s : Int, 0 ≤ k → k ≤ 16 → 0 ≤ s → s < 513 → M1 131 (513 * k + s) = FH M g i k (s - 256)
def tabX (M M1 : Mem) (g : Int) (i : Nat) (kk ss : Int) : Prop := ∀ k s : Int, 0 ≤ k → k ≤ 16 → 0 ≤ s → s < 513 → M1 131 (513 * k + s) = if kk < k ∨ (k = kk ∧ s < ss) then FH M g (i + 1) k (s - 256) else FH M g i k (s - 256)
theorem FH_supp {M : Mem} (hL : LK M) {g : Int} {i : Nat} (hi : i ≤ (M 114 29).toNat) {k s : Int} (h : s < -(15 * k) ∨ 15 * k < s) : FH M g i k s = 0 := by
  have w := hL.1
  refine FP_supp (A := 15) (B := 0) (by omega) (fun x hx => by unfold del; rw [if_neg (by omega)]) i (fun j a b => ?_) k s (by omega)
  exact agM_rng hL a (by omega)
theorem FH_mem {M : Mem} {g : Int} {i : Nat} (hm : M 127 i = g) (k s : Int) : FH M g (i + 1) k s = FH M g i k s + FH M g i (k - 1) (s - agM M i) := by
  unfold FH
  rw [FP, if_pos ⟨rfl, hm⟩]
theorem FH_non {M : Mem} {g : Int} {i : Nat} (hm : M 127 i ≠ g) (k s : Int) : FH M g (i + 1) k s = FH M g i k s := by
  unfold FH
  rw [FP, if_neg (fun q => hm q.2)]
theorem tab_0 {M : Mem} (g : Int) : tabW M (mu (zf M 8721) 131 256 1) g 0 := by
  intro k s h0 h1 h2 h3
  have e : FH M g 0 k (s - 256) = if k = 0 then del (s - 256) else 0 := rfl
  rw [e]
  unfold del
  simp only [mu, zf]
  by_cases c : k = 0 ∧ s = 256
  · obtain ⟨rfl, rfl⟩ := c; rfl
  · rw [if_neg (by omega)]
    rw [if_pos (by refine ⟨trivial, by omega, by omega⟩)]
    by_cases d : k = 0
    · rw [if_pos d, if_neg (by omega)]
    · rw [if_neg d]
theorem tab_in {M M1 : Mem} {g so : Int} {i : Nat} (h : tabW M M1 g i) (hm : M 127 i = g) (hs : so = cP one1 (M 127) g i + 1) : tabX M M1 g i so 0 := by
  intro k s h0 h1 h2 h3
  rw [h k s h0 h1 h2 h3]
  by_cases c : so < k ∨ (k = so ∧ s < 0)
  · rw [if_pos c, FH_mem hm]
    have z1 : FH M g i k (s - 256) = 0 := FP_cnt i _ (by omega)
    have z2 : FH M g i (k - 1) (s - 256 - agM M i) = 0 := FP_cnt i _ (by omega)
    omega
  · rw [if_neg c]
theorem edge {M : Mem} (hL : LK M) {g : Int} {i : Nat} (hi : i < (M 114 29).toNat) (hm : M 127 i = g) {k s : Int} (hk : 1 ≤ k) (hk2 : k ≤ 16) (h : s < 16 ∨ 497 ≤ s) : FH M g (i + 1) k (s - 256) = FH M g i k (s - 256) := by
  have w := hL.1
  have a := agM_rng hL (i := (i : Int)) (by omega) (by omega)
  rw [FH_mem hm, FH_supp hL (i := i) (by omega) (k := k - 1) (s := s - 256 - agM M i) (by omega), Int.add_zero]
theorem tab_16 {M M1 : Mem} (hL : LK M) {g k : Int} {i : Nat} (hi : i < (M 114 29).toNat) (hm : M 127 i = g) (hk : 1 ≤ k) (hk2 : k ≤ 16) (h : tabX M M1 g i k 0) : tabX M M1 g i k 16 := by
  intro q s h0 h1 h2 h3
  rw [h q s h0 h1 h2 h3]
  by_cases c : q = k ∧ s < 16
  · rw [if_neg (by omega), if_pos (by omega), c.1, edge hL hi hm hk hk2 (Or.inl c.2)]
  · by_cases d : k < q
    · rw [if_pos (by omega), if_pos (by omega)]
    · rw [if_neg (by omega), if_neg (by omega)]
theorem tab_497 {M M1 : Mem} (hL : LK M) {g k : Int} {i : Nat} (hi : i < (M 114 29).toNat) (hm : M 127 i = g) (hk : 1 ≤ k) (hk2 : k ≤ 16) (h : tabX M M1 g i k 497) : tabX M M1 g i (k - 1) 0 := by
  intro q s h0 h1 h2 h3
  rw [h q s h0 h1 h2 h3]
  by_cases c : q = k
  · subst c
    rw [if_pos (show q - 1 < q ∨ (q = q - 1 ∧ s < 0) by omega)]
    by_cases d : s < 497
    · rw [if_pos (by omega)]
    · rw [if_neg (by omega), edge hL hi hm hk hk2 (Or.inr (by omega))]
  · by_cases d : k < q
    · rw [if_pos (by omega), if_pos (by omega)]
    · rw [if_neg (by omega), if_neg (by omega)]
theorem tab_out {M M1 : Mem} {g : Int} {i : Nat} (hm : M 127 i = g) (h : tabX M M1 g i 0 0) : tabW M M1 g (i + 1) := by
  intro k s h0 h1 h2 h3
  rw [h k s h0 h1 h2 h3]
  by_cases c : 0 < k
  · rw [if_pos (by omega)]
  · rw [if_neg (by omega), FH_mem hm]
    have e : k = 0 := by omega
    have z : FH M g i (k - 1) (s - 256 - agM M i) = 0 := FP_neg i _ (by omega)
    omega
theorem tab_non {M M1 : Mem} {g : Int} {i : Nat} (hm : M 127 i ≠ g) (h : tabW M M1 g i) : tabW M M1 g (i + 1) := fun k s h0 h1 h2 h3 => by rw [h k s h0 h1 h2 h3, FH_non hm]
theorem tab_s {M M1 : Mem} {g k s v : Int} {i : Nat} (hm : M 127 i = g) (hv : v = agM M i) (hv2 : -15 ≤ v ∧ v ≤ 15) (hk : 1 ≤ k) (hk2 : k ≤ 16) (hs : 16 ≤ s) (hs2 : s < 497) (h : tabX M M1 g i k s) : tabX M (mu M1 131 (513 * k + s) (M1 131 (513 * k + s) + M1 131 (513 * (k - 1) + s - v))) g i k (s + 1) := by
  intro q u h0 h1 h2 h3
  by_cases c : q = k ∧ u = s
  · obtain ⟨rfl, rfl⟩ := c
    rw [mu_same, if_pos (by omega), h q u h0 h1 h2 h3, if_neg (by omega), FH_mem hm]
    have e : M1 131 (513 * (q - 1) + u - v) = FH M g i (q - 1) (u - 256 - agM M i) := by
      have h5 := h (q - 1) (u - v) (by omega) (by omega) (by omega) (by omega)
      rw [if_neg (by omega)] at h5
      rw [show 513 * (q - 1) + u - v = 513 * (q - 1) + (u - v) by omega, h5, hv]
      congr 1; omega
    rw [e]
  · rw [mu_k _ _ _ (by omega), h q u h0 h1 h2 h3]
    by_cases d : k < q ∨ (q = k ∧ u < s)
    · rw [if_pos d, if_pos (by omega)]
    · rw [if_neg d, if_neg (by omega)]

