/-! How a letter is taken: LAWS. -/
theorem g_teqN {p : Program} {l : Launch} {e : Env} {R : Room} {s : State} {m : MethodId} {args : Array Value} {below : List Frame} {meth : Method} {c : Code} {kc ks : Nat} {Q : State → Prop} {t : TT} {D : va_G} {al : Int → Nat} {A : Nat → Prop} {pc : Nat} {ls : List (Option Value)} {st : List Value} {M : Mem} {a b : Int} (h : iN a = iN b) (k : Gd p l e R s m args below meth c kc ks Q t D al A pc ls (.int (iN b) :: st) M) : Gd p l e R s m args below meth c kc ks Q t D al A pc ls (.int (iN a) :: st) M := by rw [h]; exact k
def wr (a : Int) : Int := (iN a).toInt
theorem wr_N (a : Int) : iN a = iN (wr a) := (iN_of _).symm
theorem wr_rng (a : Int) : i32 (wr a) := by
  have h1 := Int32.le_toInt (iN a)
  have h2 := Int32.toInt_lt (iN a)
  exact ⟨by unfold wr; omega, by unfold wr; omega⟩
theorem wr_id {a : Int} (h : i32 a) : wr a = a := iN_toInt h
def GW (M : Mem) : Prop := (0 ≤ M 114 2 ∧ M 114 2 ≤ 4) ∧ (0 ≤ M 114 7 ∧ M 114 7 ≤ 5 ∧ (M 114 2 < 2 → M 114 7 ≤ 4) ∧ (2 ≤ M 114 2 → 1 ≤ M 114 7)) ∧ (M 114 2 = 1 → (1 ≤ M 114 4 ∧ M 114 4 ≤ 3) ∧ (0 ≤ M 114 3 ∧ M 114 3 ≤ 999) ∧ (M 114 4 = 1 → M 114 3 ≤ 9) ∧ (M 114 4 = 2 → M 114 3 ≤ 99)) ∧ (M 114 2 = 3 → 0 ≤ M 114 3 ∧ M 114 3 ≤ 9) ∧ (M 114 2 = 4 → 0 ≤ M 114 3 ∧ M 114 3 ≤ 99) ∧ (∀ i, 0 ≤ i → i < 5 → 0 ≤ M 118 i ∧ M 118 i ≤ 999)
def lwB (M : Mem) : Int := if M 114 7 = 0 then 0 else M 118 (M 114 7 - 1)
def lwN (M : Mem) : Int := if M 114 2 = 0 then 1 else M 114 4 + 1
def lwV (M : Mem) (c : Int) : Int := if M 114 2 = 0 then c - 48 else 10 * M 114 3 + c - 48
def rchS (n v : Int) : Int := if n = 1 then 100 * v + 99 else if n = 2 then 10 * v + 9 else v
def lwA (M : Mem) (c : Int) : Mem := mu (mu (mu M 114 4 (lwN M)) 114 3 (lwV M c)) 114 2 1
def lwBM (M : Mem) (c : Int) : Mem := mu (if M 114 2 = 1 ∧ lwB M < M 114 3 then mu (mu M 118 (M 114 7) (M 114 3)) 114 7 (M 114 7 + 1) else M) 114 2 (if c = 59 then 2 else 0)
def lwC (M : Mem) (c : Int) : Mem := mu (mu M 114 3 (if M 114 2 = 2 then c - 48 else 10 * M 114 3 + c - 48)) 114 2 (if M 114 2 = 2 ∧ c ≠ 48 then 3 else 4)
def okA (M : Mem) (c : Int) : Prop := (M 114 2 = 1 ∨ c ≠ 48) ∧ lwN M < 4 ∧ lwB M < rchS (lwN M) (lwV M c)
def okB (M : Mem) (c : Int) : Prop := (M 114 2 = 1 ∧ lwB M < M 114 3) ∧ ((c = 44 ∧ M 114 7 < 4 ∧ M 114 3 < 999) ∨ c = 59)
def lwOk (M : Mem) (c : Int) : Prop := (M 114 2 < 2 ∧ (48 ≤ c ∧ c ≤ 57) ∧ okA M c) ∨ (M 114 2 < 2 ∧ ¬ (48 ≤ c ∧ c ≤ 57) ∧ okB M c) ∨ (2 ≤ M 114 2 ∧ (48 ≤ c ∧ c ≤ 57) ∧ M 114 2 < 4)
def lwM (M : Mem) (c : Int) : Mem := if M 114 2 < 2 ∧ 48 ≤ c ∧ c ≤ 57 then lwA M c else if M 114 2 < 2 then lwBM M c else lwC M c
theorem lwB_rng {M : Mem} (h : GW M) : 0 ≤ lwB M ∧ lwB M ≤ 999 := by
  have := h.2.1
  unfold lwB
  split
  · omega
  · exact h.2.2.2.2.2 _ (by omega) (by omega)
theorem rch_rng {M : Mem} {c : Int} (h : GW M) (a : M 114 2 < 2) (hc : 48 ≤ c ∧ c ≤ 57) (hn : lwN M < 4) : 0 ≤ rchS (lwN M) (lwV M c) ∧ rchS (lwN M) (lwV M c) ≤ 999 := by
  obtain ⟨h1, h2, h3, h4, h5, h6⟩ := h
  unfold lwN at *
  unfold lwV rchS
  by_cases z : M 114 2 = 0
  · rw [if_pos z, if_pos z, if_pos rfl]; omega
  · have h7 := h3 (by omega)
    rw [if_neg z] at hn ⊢
    rw [if_neg z, if_neg (by omega)]
    split <;> omega
theorem lwM_GW {M : Mem} {c : Int} (h : GW M) (ho : lwOk M c) : GW (lwM M c) := by
  have hb := lwB_rng h
  obtain ⟨h1, h2, h3, h4, h5, h6⟩ := h
  unfold lwM
  by_cases a : M 114 2 < 2 ∧ 48 ≤ c ∧ c ≤ 57
  · rw [if_pos a]
    have hk : okA M c := by rcases ho with q | q | q; all_goals first | exact q.2.2 | (exfalso; omega)
    unfold okA lwN lwV at hk
    have e : ∀ o k, lwA M c o k = if o = 114 ∧ k = 2 then 1 else if o = 114 ∧ k = 3 then lwV M c else if o = 114 ∧ k = 4 then lwN M else M o k := fun o k => rfl
    have e2 : lwA M c 114 2 = 1 := by simp [e]
    have e3 : lwA M c 114 3 = lwV M c := by simp [e]
    have e4 : lwA M c 114 4 = lwN M := by simp [e]
    have e7 : lwA M c 114 7 = M 114 7 := by simp [e]
    have e8 : ∀ i, lwA M c 118 i = M 118 i := fun i => by simp [e]
    unfold lwN at e4
    unfold lwV at e3
    by_cases z : M 114 2 = 0
    · rw [if_pos z] at e3 e4
      exact ⟨by omega, by omega, fun _ => by omega, fun _ => by omega, fun _ => by omega, fun i i0 i1 => by rw [e8]; exact h6 i i0 i1⟩
    · rw [if_neg z] at e3 e4
      rw [if_neg z] at hk
      have h7 := h3 (by omega)
      exact ⟨by omega, by omega, fun _ => by omega, fun _ => by omega, fun _ => by omega, fun i i0 i1 => by rw [e8]; exact h6 i i0 i1⟩
  · rw [if_neg a]
    by_cases b : M 114 2 < 2
    · rw [if_pos b]
      have hk : okB M c := by rcases ho with q | q | q; all_goals first | exact q.2.2 | (exfalso; omega)
      unfold okB at hk
      have h7 := h3 hk.1.1
      have e : ∀ o k, lwBM M c o k = if o = 114 ∧ k = 2 then (if c = 59 then 2 else 0) else if o = 114 ∧ k = 7 then M 114 7 + 1 else if o = 118 ∧ k = M 114 7 then M 114 3 else M o k := fun o k => by unfold lwBM; rw [if_pos hk.1]; rfl
      have e2 : lwBM M c 114 2 = if c = 59 then 2 else 0 := by simp [e]
      have e7 : lwBM M c 114 7 = M 114 7 + 1 := by simp [e]
      have e8 : ∀ i, lwBM M c 118 i = if i = M 114 7 then M 114 3 else M 118 i := fun i => by simp [e]
      by_cases z : c = 59
      · rw [if_pos z] at e2
        exact ⟨by omega, by omega, fun _ => by omega, fun _ => by omega, fun _ => by omega, fun i i0 i1 => by
          rw [e8]
          split
          · omega
          · exact h6 i i0 i1⟩
      · rw [if_neg z] at e2
        exact ⟨by omega, by omega, fun _ => by omega, fun _ => by omega, fun _ => by omega, fun i i0 i1 => by
          rw [e8]
          split
          · omega
          · exact h6 i i0 i1⟩
    · rw [if_neg b]
      have hk : (48 ≤ c ∧ c ≤ 57) ∧ M 114 2 < 4 := by rcases ho with q | q | q; all_goals first | exact q.2 | (exfalso; omega)
      have e : ∀ o k, lwC M c o k = if o = 114 ∧ k = 2 then (if M 114 2 = 2 ∧ c ≠ 48 then 3 else 4) else if o = 114 ∧ k = 3 then (if M 114 2 = 2 then c - 48 else 10 * M 114 3 + c - 48) else M o k := fun o k => rfl
      have e2 : lwC M c 114 2 = if M 114 2 = 2 ∧ c ≠ 48 then 3 else 4 := by simp [e]
      have e3 : lwC M c 114 3 = if M 114 2 = 2 then c - 48 else 10 * M 114 3 + c - 48 := by simp [e]
      have e7 : lwC M c 114 7 = M 114 7 := by simp [e]
      have e8 : ∀ i, lwC M c 118 i = M 118 i := fun i => by simp [e]
      by_cases z : M 114 2 = 2
      · rw [if_pos z] at e3
        by_cases y : c = 48
        · rw [if_neg (by omega)] at e2
          exact ⟨by omega, by omega, fun _ => by omega, fun _ => by omega, fun _ => by omega, fun i i0 i1 => by rw [e8]; exact h6 i i0 i1⟩
        · rw [if_pos (by omega)] at e2
          exact ⟨by omega, by omega, fun _ => by omega, fun _ => by omega, fun _ => by omega, fun i i0 i1 => by rw [e8]; exact h6 i i0 i1⟩
      · rw [if_neg z] at e3
        rw [if_neg (by omega)] at e2
        have h7 := h4 (by omega)
        exact ⟨by omega, by omega, fun _ => by omega, fun _ => by omega, fun _ => by omega, fun i i0 i1 => by rw [e8]; exact h6 i i0 i1⟩

