/-! One hand dealt. -/
theorem tb_memI {M1 M : Mem} {cb nb sd f own q : Int} {g : Nat} (hq : 0 ≤ q) (h : tbX M1 (upF (FT M cb nb g sd q.toNat) own 0) f) (hm : bit cb q = 1 ∧ M 101 q = g) (ho : own = sd * agP 16 (bit cb) (M 101) (M 102) q) : tbX M1 (FT M cb nb g sd (q + 1).toNat) f := by
  rw [toN_s hq]
  refine tb_mem h ?_ ?_
  · rw [Int.toNat_of_nonneg hq]; exact hm
  · rw [Int.toNat_of_nonneg hq]; exact ho
theorem tb_noI {M1 M : Mem} {cb nb sd f q : Int} {g : Nat} (hq : 0 ≤ q) (h : tbX M1 (FT M cb nb g sd q.toNat) f) (hm : ¬ (bit cb q = 1 ∧ M 101 q = g)) : tbX M1 (FT M cb nb g sd (q + 1).toNat) f := by
  rw [toN_s hq]
  refine tb_no h ?_
  rw [Int.toNat_of_nonneg hq]; exact hm
theorem tbX.af {M1 M2 : Mem} {F : Int → Int → Int} {f : Int} (h : tbX M1 F f) (h2 : ∀ k s, 0 ≤ k → k ≤ f → 0 ≤ s → s < 129 → M2 (104 + k) s = M1 (104 + k) s) : tbX M2 F f := fun k s a b c d => by rw [h2 k s a b c d]; exact h k s a b c d
/-- rows emptied -/
def ZR (M M1 : Mem) (k : Int) : Prop := AF M M1 ∧ (∀ s, M1 104 s = M 104 s) ∧ ∀ j s, 1 ≤ j → j < k → 0 ≤ s → s < 129 → M1 (104 + j) s = 0
theorem ZR.go {M M1 : Mem} {k : Int} (h : ZR M M1 k) (hk : 1 ≤ k) (hk2 : k ≤ 8) : ZR M (fil M1 (104 + k) 129 0) (k + 1) := by
  obtain ⟨h1, h2, h3⟩ := h
  refine ⟨fun o j n => ?_, fun s => ?_, fun j s j0 j1 s0 s1 => ?_⟩
  · show (if o = 104 + k ∧ 0 ≤ j ∧ j < 129 then (0 : Int) else M1 o j) = _
    rw [if_neg (by omega)]; exact h1 o j n
  · show (if (104 : Int) = 104 + k ∧ 0 ≤ s ∧ s < 129 then (0 : Int) else M1 104 s) = _
    rw [if_neg (by omega)]; exact h2 s
  · show (if 104 + j = 104 + k ∧ 0 ≤ s ∧ s < 129 then (0 : Int) else M1 (104 + j) s) = 0
    by_cases e : j = k
    · rw [if_pos ⟨by omega, s0, s1⟩]
    · rw [if_neg (by omega)]; exact h3 j s j0 (by omega) s0 s1
theorem hand_end {M M2 : Mem} {cb nb sd f : Int} {g : Nat} (hX : tbX M2 (FT M cb nb g sd 16) f) (hf : 0 ≤ f) (h : (sd = 1 ∧ f = kP (bit cb) (M 101) (bit nb) g 16) ∨ (sd = -1 ∧ f = cP (bit cb) (M 101) g 16 - kP (bit cb) (M 101) (bit nb) g 16)) : ∀ s, 0 ≤ s → s < 129 → cpy M2 (104 + f) 0 (104 + 0) 0 129 104 s = DT M cb nb (g + 1) (s - 64) := fun s s0 s1 => by
  show (if (104 : Int) = 104 + 0 ∧ 0 ≤ s ∧ s < 0 + 129 then M2 (104 + f) (0 + (s - 0)) else M2 104 s) = _
  rw [if_pos ⟨by omega, s0, by omega⟩, show 0 + (s - 0) = s by omega, hX f s hf (Int.le_refl _) s0 s1]
  exact DP_side h (s - 64)
theorem hand_same {M : Mem} {cb nb f : Int} {g : Nat} (h : f = kP (bit cb) (M 101) (bit nb) g 16 ∨ f = cP (bit cb) (M 101) g 16 - kP (bit cb) (M 101) (bit nb) g 16) (hf : f = 0) (x : Int) : DT M cb nb (g + 1) x = DT M cb nb g x :=
  DP_same (by omega) x
theorem HF.mu8 {M M1 : Mem} (h : HF M M1) (v : Int) : HF M (mu M1 100 8 v) := fun o' k' n => by
  show (if o' = 100 ∧ k' = 8 then v else M1 o' k') = _
  rw [if_neg (by omega)]; exact h o' k' n
theorem kf_eq {f k c : Int} (h : f = k ∨ f = c - k) : f * (c - f) = k * (c - k) := by
  rcases h with h | h
  · rw [h]
  · rw [h, show c - (c - k) = k by omega, Int.mul_comm]

