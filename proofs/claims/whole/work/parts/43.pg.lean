/-! What a page becomes. -/
def lampP (M : Mem) (f : Int) (Mf : Mem) (r : Int) (M' : Mem) : Prop := if f < M 114 1 ∨ Mf 114 2 < 3 then r = -103 ∧ M' = Mf else if M 114 13 = 4 then r = -104 ∧ M' = Mf else r = M 114 13 ∧ M' = mu (mu (cpR Mf 119 116 (3 * M 114 13) 3) 114 13 (M 114 13 + 1)) 114 1 0
def measP (M : Mem) (f : Int) (Mf : Mem) (r : Int) (M' : Mem) : Prop := if f < M 114 1 ∨ Mf 114 2 ≠ 2 ∨ Mf 114 6 ≠ 1 then r = -103 ∧ M' = Mf else if M 114 15 = 4 then r = -104 ∧ M' = Mf else r = M 114 15 ∧ M' = mu (mu (cpR Mf 120 117 (24 * M 114 15) 24) 114 15 (M 114 15 + 1)) 114 1 0
def lawP (M : Mem) (f : Int) (Mf : Mem) (r : Int) (M' : Mem) : Prop := if f < M 114 1 ∨ Mf 114 2 < 3 then r = -103 ∧ M' = Mf else r = Mf 114 7 ∧ M' = mu (mu (cpR (mu Mf 114 17 (Mf 114 7)) 121 118 0 5) 114 19 (Mf 114 3)) 114 1 0
theorem cpR_o {M : Mem} {r src base n o k : Int} (h : o ≠ r) : cpR M r src base n o k = M o k := by simp only [cpR]; rw [if_neg (fun q => h q.1)]
theorem FR.in {k f : Int} {M Mf : Mem} (h : FR k M f Mf) (hf : ¬ f < M 114 1) : rdI k Mf := by
  rcases h.2.2.1 with q | q
  · exact q.2.2
  · omega

