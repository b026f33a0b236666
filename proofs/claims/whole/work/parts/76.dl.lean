/-! A dealing: what it reads. -/
theorem DT_cg {M M1 : Mem} (h1 : M1 101 = M 101) (h2 : M1 102 = M 102) (cb nb : Int) (g : Nat) (x : Int) : DT M1 cb nb g x = DT M cb nb g x := by unfold DT; rw [h1, h2]
theorem RT_cg {M M1 : Mem} (h1 : M1 101 = M 101) (cb nb : Int) (g : Nat) : RT4 M1 cb nb g = RT4 M cb nb g := by unfold RT4; rw [h1]
theorem ST_cg {M M1 : Mem} (h1 : M1 101 = M 101) (h2 : M1 102 = M 102) (cb nb : Int) : stT M1 cb nb = stT M cb nb := by unfold stT; rw [h1, h2]
theorem LT_cg {M M1 : Mem} (h1 : M1 101 = M 101) (h2 : M1 102 = M 102) (cb nb : Int) : lowT M1 cb nb = lowT M cb nb := by unfold lowT; rw [h1, h2]
theorem UT_cg {M M1 : Mem} (h1 : M1 101 = M 101) (h2 : M1 102 = M 102) (cb nb : Int) : upT M1 cb nb = upT M cb nb := by unfold upT; rw [h1, h2]
theorem MB.ofI (M : Mem) (cb : Int) {h : Int} (h0 : 0 ≤ h) : MB M cb (ofS M cb h 16) h.toNat := by
  have e := MB.of M cb h.toNat
  rw [Int.toNat_of_nonneg h0] at e
  exact e
/-- the first row: one way to deal nothing -/
theorem DT_0 (M : Mem) (cb nb : Int) (s : Int) : DT M cb nb 0 (s - 64) = if s = 64 then 1 else 0 := by
  show (if s - 64 = 0 then (1 : Int) else 0) = _
  by_cases c : s = 64
  · rw [if_pos c, if_pos (by omega)]
  · rw [if_neg c, if_neg (by omega)]
/-- what a dealing leaves -/
def DL (M : Mem) (cb nb : Int) (M1 : Mem) : Prop := OF M M1 ∧ M1 100 2 = stT M cb nb ∧ M1 100 3 = upT M cb nb ∧ M1 100 4 = lowT M cb nb
theorem DL.fr {M M1 : Mem} {cb nb : Int} (h : DL M cb nb M1) : OF M M1 := h.1
def DB (M : Mem) (cb nb : Int) (M1 : Mem) (h : Nat) : Prop := ∀ s, 0 ≤ s → s < 129 → M1 104 s = DT M cb nb h (s - 64)
theorem DB.st (M : Mem) (cb nb v w : Int) : DB M cb nb (mu (mu (mu (fil M (104 + 0) 129 0) (104 + 0) 64 1) 100 8 v) 100 2 w) 0 := fun s a b => by
  rw [DT_0, mu_o _ _ _ (by decide), mu_o _ _ _ (by decide)]
  show (if (104 : Int) = 104 + 0 ∧ s = 64 then 1 else (if (104 : Int) = 104 + 0 ∧ 0 ≤ s ∧ s < 129 then 0 else M 104 s)) = _
  by_cases c : s = 64
  · rw [if_pos ⟨rfl, c⟩, if_pos c]
  · rw [if_neg (fun z => c z.2), if_pos ⟨rfl, a, b⟩, if_neg c]
theorem OF.st (M : Mem) (v w : Int) : OF M (mu (mu (mu (fil M (104 + 0) 129 0) (104 + 0) 64 1) 100 8 v) 100 2 w) := by
  refine OF.pu (OF.pu (fun o k n => ?_) v (by omega)) w (by omega)
  show (if o = 104 + 0 ∧ k = 64 then 1 else (if o = 104 + 0 ∧ 0 ≤ k ∧ k < 129 then 0 else M o k)) = _
  rw [if_neg (by omega), if_neg (by omega)]

