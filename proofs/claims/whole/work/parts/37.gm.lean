/-! How a letter is taken: MEASURES. -/
def gmR (M : Mem) : Prop := ∀ s d n : Int, 0 ≤ s → s ≤ 1 → 0 ≤ d → d ≤ 3 → 0 ≤ n → n ≤ 2 → 0 ≤ M 117 (12 * s + 3 * d + n) ∧ (s < M 114 6 → M 117 (12 * s + 3 * d + n) ≤ 4) ∧ (M 114 6 < s → M 117 (12 * s + 3 * d + n) = 0) ∧ (s = M 114 6 → M 117 (12 * s + 3 * d + n) ≤ M 114 7 ∧ (M 114 2 ≠ 0 → n ≠ M 114 4 ∨ M 114 8 < d → M 117 (12 * s + 3 * d + n) ≤ M 114 7 - 1))
def GMs (M : Mem) : Prop := (0 ≤ M 114 2 ∧ M 114 2 ≤ 2) ∧ (0 ≤ M 114 6 ∧ M 114 6 ≤ 1) ∧ (M 114 2 = 0 → 0 ≤ M 114 7 ∧ M 114 7 ≤ 3) ∧ (M 114 2 ≠ 0 → (1 ≤ M 114 7 ∧ M 114 7 ≤ 4) ∧ (0 ≤ M 114 4 ∧ M 114 4 ≤ 2) ∧ (-1 ≤ M 114 8 ∧ M 114 8 ≤ 3))
def GM (M : Mem) : Prop := GMs M ∧ gmR M
def gmX (M : Mem) (c : Int) : Prop := c = 43 ∧ M 114 7 < 4
def gmY (M : Mem) (c : Int) : Prop := c = 47 ∧ M 114 6 = 0
def gmOk (M : Mem) (c : Int) : Prop := (M 114 2 = 0 ∧ colS c ≠ -1) ∨ (M 114 2 ≠ 0 ∧ (48 ≤ c ∧ c ≤ 51) ∧ M 114 8 < c - 48) ∨ (M 114 2 = 2 ∧ (gmX M c ∨ gmY M c))
def gmA (M : Mem) (c : Int) : Mem := mu (mu (mu (mu M 114 4 (colS c)) 114 8 (-1)) 114 7 (M 114 7 + 1)) 114 2 1
def gmB (M : Mem) (c : Int) : Mem := mu (mu (mu M 114 8 (c - 48)) 117 (12 * M 114 6 + 3 * (c - 48) + M 114 4) (M 117 (12 * M 114 6 + 3 * (c - 48) + M 114 4) + 1)) 114 2 2
def gmC (M : Mem) (c : Int) : Mem := mu (mu (mu M 114 6 (M 114 6 + (if c = 47 ∧ M 114 6 = 0 then 1 else 0))) 114 7 (if c = 47 ∧ M 114 6 = 0 then 0 else M 114 7)) 114 2 0
def gmM (M : Mem) (c : Int) : Mem := if M 114 2 = 0 then gmA M c else if 48 ≤ c ∧ c ≤ 51 then gmB M c else gmC M c
theorem gmM_GM {M : Mem} {c : Int} (h : GM M) (ho : gmOk M c) : GM (gmM M c) := by
  obtain ⟨⟨h1, h2, h3, h4⟩, hr⟩ := h
  have hc := colS_rng c
  unfold gmM
  by_cases a : M 114 2 = 0
  · rw [if_pos a]
    have hn : colS c ≠ -1 := by rcases ho with q | q | q <;> first | exact q.2 | (exfalso; omega)
    have h5 := h3 a
    have e : ∀ o k, gmA M c o k = if o = 114 ∧ k = 2 then 1 else if o = 114 ∧ k = 7 then M 114 7 + 1 else if o = 114 ∧ k = 8 then -1 else if o = 114 ∧ k = 4 then colS c else M o k := fun o k => rfl
    have e2 : gmA M c 114 2 = 1 := by simp [e]
    have e4 : gmA M c 114 4 = colS c := by simp [e]
    have e6 : gmA M c 114 6 = M 114 6 := by simp [e]
    have e7 : gmA M c 114 7 = M 114 7 + 1 := by simp [e]
    have e8 : gmA M c 114 8 = -1 := by simp [e]
    refine ⟨⟨by omega, by omega, by omega, fun _ => by omega⟩, fun s d n s0 s1 d0 d1 n0 n1 => ?_⟩
    have z := hr s d n s0 s1 d0 d1 n0 n1
    have e9 : gmA M c 117 (12 * s + 3 * d + n) = M 117 (12 * s + 3 * d + n) := by simp [e]
    rw [e9, e6, e7]
    generalize M 117 (12 * s + 3 * d + n) = x at *
    exact ⟨z.1, z.2.1, z.2.2.1, fun q => by have := (z.2.2.2 q).1; exact ⟨by omega, fun _ _ => by omega⟩⟩
  · rw [if_neg a]
    have h5 := h4 a
    by_cases b : 48 ≤ c ∧ c ≤ 51
    · rw [if_pos b]
      have hl : M 114 8 < c - 48 := by
        rcases ho with q | q | q
        · omega
        · exact q.2.2
        · unfold gmX gmY at q; omega
      have e : ∀ o k, gmB M c o k = if o = 114 ∧ k = 2 then 2 else if o = 117 ∧ k = 12 * M 114 6 + 3 * (c - 48) + M 114 4 then M 117 (12 * M 114 6 + 3 * (c - 48) + M 114 4) + 1 else if o = 114 ∧ k = 8 then c - 48 else M o k := fun o k => rfl
      have e2 : gmB M c 114 2 = 2 := by simp [e]
      have e4 : gmB M c 114 4 = M 114 4 := by simp [e]
      have e6 : gmB M c 114 6 = M 114 6 := by simp [e]
      have e7 : gmB M c 114 7 = M 114 7 := by simp [e]
      have e8 : gmB M c 114 8 = c - 48 := by simp [e]
      refine ⟨⟨by omega, by omega, by omega, fun _ => by omega⟩, fun s d n s0 s1 d0 d1 n0 n1 => ?_⟩
      have z := hr s d n s0 s1 d0 d1 n0 n1
      by_cases q : s = M 114 6 ∧ d = c - 48 ∧ n = M 114 4
      · obtain ⟨q1, q2, q3⟩ := q
        have e9 : gmB M c 117 (12 * s + 3 * d + n) = M 117 (12 * s + 3 * d + n) + 1 := by
          rw [e, if_neg (by omega), if_pos (by omega), q1, q2, q3]
        rw [e9, e6, e7, e2, e4, e8]
        have z2 := (z.2.2.2 q1).2 a (by omega)
        refine ⟨by omega, fun _ => by omega, fun _ => by omega, fun _ => ⟨by omega, fun _ _ => by omega⟩⟩
      · have e9 : gmB M c 117 (12 * s + 3 * d + n) = M 117 (12 * s + 3 * d + n) := by
          rw [e, if_neg (by omega), if_neg (by omega), if_neg (by omega)]
        rw [e9, e6, e7, e2, e4, e8]
        refine ⟨z.1, z.2.1, z.2.2.1, fun q1 => ⟨(z.2.2.2 q1).1, fun _ q2 => (z.2.2.2 q1).2 a (by omega)⟩⟩
    · rw [if_neg b]
      have hx : M 114 2 = 2 ∧ (gmX M c ∨ gmY M c) := by
        rcases ho with q | q | q
        · omega
        · omega
        · exact q
      unfold gmX gmY at hx
      have e : ∀ o k, gmC M c o k = if o = 114 ∧ k = 2 then 0 else if o = 114 ∧ k = 7 then (if c = 47 ∧ M 114 6 = 0 then 0 else M 114 7) else if o = 114 ∧ k = 6 then M 114 6 + (if c = 47 ∧ M 114 6 = 0 then 1 else 0) else M o k := fun o k => rfl
      have e2 : gmC M c 114 2 = 0 := by simp [e]
      by_cases y : c = 47 ∧ M 114 6 = 0
      · have e6 : gmC M c 114 6 = M 114 6 + 1 := by rw [e, if_neg (by decide), if_neg (by decide), if_pos (by decide), if_pos y]
        have e7 : gmC M c 114 7 = 0 := by rw [e, if_neg (by decide), if_pos (by decide), if_pos y]
        refine ⟨⟨by omega, by omega, by omega, fun _ => by omega⟩, fun s d n s0 s1 d0 d1 n0 n1 => ?_⟩
        have z := hr s d n s0 s1 d0 d1 n0 n1
        have e9 : gmC M c 117 (12 * s + 3 * d + n) = M 117 (12 * s + 3 * d + n) := by simp [e]
        rw [e9, e6, e7, e2]
        refine ⟨z.1, fun q => ?_, fun q => z.2.2.1 (by omega), fun q => ⟨?_, fun w => absurd rfl w⟩⟩
        · have := (z.2.2.2 (by omega)).1; omega
        · have := z.2.2.1 (by omega); omega
      · have e6 : gmC M c 114 6 = M 114 6 := by simp [e, y]
        have e7 : gmC M c 114 7 = M 114 7 := by simp [e, y]
        refine ⟨⟨by omega, by omega, by omega, fun _ => by omega⟩, fun s d n s0 s1 d0 d1 n0 n1 => ?_⟩
        have z := hr s d n s0 s1 d0 d1 n0 n1
        have e9 : gmC M c 117 (12 * s + 3 * d + n) = M 117 (12 * s + 3 * d + n) := by simp [e]
        rw [e9, e6, e7, e2]
        exact ⟨z.1, z.2.1, z.2.2.1, fun q => ⟨(z.2.2.2 q).1, fun w => absurd rfl w⟩⟩

