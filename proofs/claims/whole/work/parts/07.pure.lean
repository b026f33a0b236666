/-! Plain numbers. -/
def b2i (q : Prop) [Decidable q] : Int := if q then 1 else 0
theorem b2i_t {q : Prop} [Decidable q] (h : b2i q ≠ 0) : q := by
  unfold b2i at h
  by_cases hq : q
  · exact hq
  · rw [if_neg hq] at h; exact absurd rfl h
theorem b2i_f {q : Prop} [Decidable q] (h : b2i q = 0) : ¬ q := by
  unfold b2i at h
  intro hq
  rw [if_pos hq] at h
  exact absurd h (by decide)
theorem b2i_1 {q : Prop} [Decidable q] (h : q) : (1 : Int) = b2i q := by unfold b2i; rw [if_pos h]
theorem b2i_0 {q : Prop} [Decidable q] (h : ¬ q) : (0 : Int) = b2i q := by unfold b2i; rw [if_neg h]
theorem b2i_i32 (q : Prop) [Decidable q] : i32 (b2i q) := by
  unfold b2i
  by_cases hq : q
  · rw [if_pos hq]; decide
  · rw [if_neg hq]; decide
theorem b2i_01 (q : Prop) [Decidable q] : b2i q = 0 ∨ b2i q = 1 := by
  unfold b2i
  by_cases hq : q
  · rw [if_pos hq]; exact Or.inr rfl
  · rw [if_neg hq]; exact Or.inl rfl
theorem b2i_iff {q r : Prop} [Decidable q] [Decidable r] (h : q ↔ r) : b2i q = b2i r := by
  unfold b2i
  by_cases hq : q
  · rw [if_pos hq, if_pos (h.mp hq)]
  · rw [if_neg hq, if_neg (fun x => hq (h.mpr x))]
