/-! How a letter is taken: LAMPS. -/
theorem colS_rng (c : Int) : -1 ≤ colS c ∧ colS c ≤ 2 := by unfold colS; grind
def GL (M : Mem) : Prop := (0 ≤ M 114 2 ∧ M 114 2 ≤ 4) ∧ (0 ≤ M 114 10 ∧ M 114 10 ≤ 7) ∧ (1 ≤ M 114 2 ∧ M 114 2 ≤ 3 → 0 ≤ M 114 4 ∧ M 114 4 ≤ 2) ∧ (M 114 2 = 3 → 0 ≤ M 114 3 ∧ M 114 3 ≤ 9) ∧ (2 ≤ M 114 2 ∧ M 114 2 ≤ 3 → M 114 5 = 1 ∨ M 114 5 = -1) ∧ (∀ i, 0 ≤ i → i < 3 → -20 ≤ M 116 i ∧ M 116 i ≤ 20)
def glF (M : Mem) (c : Int) : Prop := colS c ≠ -1 ∧ bit (M 114 10) (colS c) = 0
def glOk (M : Mem) (c : Int) : Prop := (M 114 2 = 3 ∧ (48 ≤ c ∧ c ≤ 57) ∧ 10 * M 114 3 + c - 48 ≤ 20) ∨ (¬ (M 114 2 = 3 ∧ 48 ≤ c ∧ c ≤ 57) ∧ (M 114 2 = 0 ∨ 2 < M 114 2) ∧ glF M c) ∨ (M 114 2 = 1 ∧ (c = 43 ∨ c = 45)) ∨ (M 114 2 = 2 ∧ 48 ≤ c ∧ c ≤ 57)
def glA (M : Mem) (c : Int) : Mem := mu (mu (mu M 114 3 (10 * M 114 3 + c - 48)) 116 (M 114 4) (M 114 5 * (10 * M 114 3 + c - 48))) 114 2 4
noncomputable def glB (M : Mem) (c : Int) : Mem := mu (mu (mu M 114 4 (colS c)) 114 10 (or32 (M 114 10) (if b2i (glF M c) = 1 then shl32 1 (colS c) else 0))) 114 2 1
def glC (M : Mem) (c : Int) : Mem := mu (mu M 114 5 (if c = 43 then 1 else -1)) 114 2 2
def glD (M : Mem) (c : Int) : Mem := mu (mu (mu M 114 3 (c - 48)) 116 (M 114 4) (M 114 5 * (c - 48))) 114 2 (if c = 49 ∨ c = 50 then 3 else 4)
noncomputable def glM (M : Mem) (c : Int) : Mem := if M 114 2 = 3 ∧ 48 ≤ c ∧ c ≤ 57 then glA M c else if M 114 2 = 0 ∨ 2 < M 114 2 then glB M c else if M 114 2 = 1 then glC M c else glD M c
theorem seen_or {a n : Int} (h0 : 0 ≤ a ∧ a ≤ 7) (hn : 0 ≤ n ∧ n ≤ 2) : 0 ≤ or32 a (shl32 1 n) ∧ or32 a (shl32 1 n) ≤ 7 := by
  rcases (by omega : n = 0 ∨ n = 1 ∨ n = 2) with rfl | rfl | rfl <;> rcases (by omega : a = 0 ∨ a = 1 ∨ a = 2 ∨ a = 3 ∨ a = 4 ∨ a = 5 ∨ a = 6 ∨ a = 7) with rfl | rfl | rfl | rfl | rfl | rfl | rfl | rfl <;> decide
theorem glM_GL {M : Mem} {c : Int} (h : GL M) (ho : glOk M c) : GL (glM M c) := by
  obtain ⟨h1, h2, h3, h4, h5, h6⟩ := h
  have hc := colS_rng c
  unfold glM
  by_cases a : M 114 2 = 3 ∧ 48 ≤ c ∧ c ≤ 57
  · rw [if_pos a]
    have h7 := h3 (by omega)
    have h8 := h5 (by omega)
    have h9 : 10 * M 114 3 + c - 48 ≤ 20 := by rcases ho with q | q | q | q <;> omega
    have h10 := h4 a.1
    have e : ∀ o k, glA M c o k = if o = 114 ∧ k = 2 then 4 else if o = 116 ∧ k = M 114 4 then M 114 5 * (10 * M 114 3 + c - 48) else if o = 114 ∧ k = 3 then 10 * M 114 3 + c - 48 else M o k := fun o k => rfl
    have hv : -20 ≤ M 114 5 * (10 * M 114 3 + c - 48) ∧ M 114 5 * (10 * M 114 3 + c - 48) ≤ 20 := by rcases h8 with q | q <;> rw [q] <;> omega
    refine ⟨by simp [e], by simp [e]; omega, fun q => by simp [e] at q, fun q => by simp [e] at q, fun q => by simp [e] at q, fun i i0 i1 => ?_⟩
    rw [e, if_neg (by omega)]
    split
    · exact hv
    · rw [if_neg (by omega)]; exact h6 i i0 i1
  · rw [if_neg a]
    by_cases b : M 114 2 = 0 ∨ 2 < M 114 2
    · rw [if_pos b]
      have hf : glF M c := by rcases ho with q | q | q | q; all_goals first | exact q.2.2 | (exfalso; omega)
      have e : ∀ o k, glB M c o k = if o = 114 ∧ k = 2 then 1 else if o = 114 ∧ k = 10 then or32 (M 114 10) (if b2i (glF M c) = 1 then shl32 1 (colS c) else 0) else if o = 114 ∧ k = 4 then colS c else M o k := fun o k => rfl
      have hs := seen_or (a := M 114 10) (n := colS c) h2 (by have := hf.1; omega)
      rw [if_pos (b2i_1 hf).symm] at e
      have := hf.1
      exact ⟨by simp [e], by simp [e]; omega, fun q => by simp [e]; omega, fun q => by simp [e] at q, fun q => by simp [e] at q, fun i i0 i1 => by simp [e]; exact h6 i i0 i1⟩
    · rw [if_neg b]
      by_cases d : M 114 2 = 1
      · rw [if_pos d]
        have e : ∀ o k, glC M c o k = if o = 114 ∧ k = 2 then 2 else if o = 114 ∧ k = 5 then (if c = 43 then 1 else -1) else M o k := fun o k => rfl
        have := h3 (by omega)
        exact ⟨by simp [e], by simp [e]; omega, fun q => by simp [e]; omega, fun q => by simp [e] at q, fun q => by simp [e]; omega, fun i i0 i1 => by simp [e]; exact h6 i i0 i1⟩
      · rw [if_neg d]
        have h7 := h3 (by omega)
        have h8 := h5 (by omega)
        have hg : 48 ≤ c ∧ c ≤ 57 := by rcases ho with q | q | q | q <;> omega
        have e : ∀ o k, glD M c o k = if o = 114 ∧ k = 2 then (if c = 49 ∨ c = 50 then 3 else 4) else if o = 116 ∧ k = M 114 4 then M 114 5 * (c - 48) else if o = 114 ∧ k = 3 then c - 48 else M o k := fun o k => rfl
        have hv : -20 ≤ M 114 5 * (c - 48) ∧ M 114 5 * (c - 48) ≤ 20 := by rcases h8 with q | q <;> rw [q] <;> omega
        have hk : (if c = 49 ∨ c = 50 then (3 : Int) else 4) = 3 ∨ (if c = 49 ∨ c = 50 then (3 : Int) else 4) = 4 := by split <;> simp
        refine ⟨by simp [e]; omega, by simp [e]; omega, fun q => by simp [e]; omega, fun q => by simp [e]; omega, fun q => by simp [e]; omega, fun i i0 i1 => ?_⟩
        rw [e, if_neg (by omega)]
        split
        · exact hv
        · rw [if_neg (by omega)]; exact h6 i i0 i1

