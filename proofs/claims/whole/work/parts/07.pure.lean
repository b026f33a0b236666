/-! Plain numbers. -/
noncomputable def b2i (q : Prop) : Int := @ite Int q (Classical.propDecidable q) 1 0
theorem b2i_t {q : Prop} (h : b2i q ≠ 0) : q := by
  unfold b2i at h
  by_cases hq : q
  · exact hq
  · rw [if_neg hq] at h; exact absurd rfl h
theorem b2i_f {q : Prop} (h : b2i q = 0) : ¬ q := by
  unfold b2i at h
  intro hq
  rw [if_pos hq] at h
  exact absurd h (by decide)
theorem b2i_1 {q : Prop} (h : q) : (1 : Int) = b2i q := by unfold b2i; rw [if_pos h]
theorem b2i_0 {q : Prop} (h : ¬ q) : (0 : Int) = b2i q := by unfold b2i; rw [if_neg h]
theorem b2i_i32 (q : Prop) : i32 (b2i q) := by
  unfold b2i
  by_cases hq : q
  · rw [if_pos hq]; decide
  · rw [if_neg hq]; decide
theorem b2i_01 (q : Prop) : b2i q = 0 ∨ b2i q = 1 := by
  unfold b2i
  by_cases hq : q
  · rw [if_pos hq]; exact Or.inr rfl
  · rw [if_neg hq]; exact Or.inl rfl
theorem b2i_eq {b : Int} {q : Prop} (h : b = b2i q) : (b = 1 ∧ q) ∨ (b = 0 ∧ ¬ q) := by
  by_cases hq : q
  · exact Or.inl ⟨h.trans (b2i_1 hq).symm, hq⟩
  · exact Or.inr ⟨h.trans (b2i_0 hq).symm, hq⟩
theorem b2i_of {b : Int} {q : Prop} (h : b = 0 ∨ b = 1) (h2 : b = 1 ↔ q) : b = b2i q := by
  by_cases hq : q
  · rw [← b2i_1 hq]; exact h2.mpr hq
  · rw [← b2i_0 hq]
    rcases h with h | h
    · exact h
    · exact absurd (h2.mp h) hq
theorem b2i_iff {q r : Prop} (h : q ↔ r) : b2i q = b2i r := by
  unfold b2i
  by_cases hq : q
  · rw [if_pos hq, if_pos (h.mp hq)]
  · rw [if_neg hq, if_neg (fun x => hq (h.mpr x))]
theorem g_teq {p : Program} {l : Launch} {e : Env} {R : Room} {s : State} {m : MethodId} {args : Array Value} {below : List Frame} {meth : Method} {c : Code} {kc ks : Nat} {Q : State → Prop} {t : TT} {D : va_G} {al : Int → Nat} {A : Nat → Prop} {pc : Nat} {ls : List (Option Value)} {st : List Value} {M : Mem} {a b : Int} (h : a = b) (k : Gd p l e R s m args below meth c kc ks Q t D al A pc ls (.int (iN b) :: st) M) : Gd p l e R s m args below meth c kc ks Q t D al A pc ls (.int (iN a) :: st) M := h ▸ k
theorem g_teql {p : Program} {l : Launch} {e : Env} {R : Room} {s : State} {m : MethodId} {args : Array Value} {below : List Frame} {meth : Method} {c : Code} {kc ks : Nat} {Q : State → Prop} {t : TT} {D : va_G} {al : Int → Nat} {A : Nat → Prop} {pc : Nat} {ls : List (Option Value)} {st : List Value} {M : Mem} {a b : Int} (h : a = b) (k : Gd p l e R s m args below meth c kc ks Q t D al A pc ls (.long (jN b) :: st) M) : Gd p l e R s m args below meth c kc ks Q t D al A pc ls (.long (jN a) :: st) M := h ▸ k
