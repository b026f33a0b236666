/-! What the class's calls on texts do. -/
def lampX (M : Mem) (f : Int) (Mx : Mem) (r : Int) (M' : Mem) : Prop := if f < M 114 1 ∨ Mx 3 2 ≠ 3 then r = -103 ∧ M' = Mx else if M 114 13 = 4 then r = -104 ∧ M' = Mx else r = M 114 13 ∧ M' = mu (mu (cpy Mx 4 0 (11 + M 114 13) 0 3) 1 1 0) 0 13 (M 114 13 + 1)
def measX (M : Mem) (f : Int) (Mx : Mem) (r : Int) (M' : Mem) : Prop := if f < M 114 1 ∨ Mx 6 1 ≠ 2 ∨ Mx 6 2 ≠ 1 then r = -103 ∧ M' = Mx else if M 114 15 = 4 then r = -104 ∧ M' = Mx else r = M 114 15 ∧ M' = mu (mu (cpy Mx 7 0 (18 + M 114 15) 0 24) 1 1 0) 0 15 (M 114 15 + 1)
def lawX (M : Mem) (f : Int) (Mx : Mem) (r : Int) (M' : Mem) : Prop := if f < M 114 1 ∨ ¬ (Mx 8 4 = 1 ∧ 0 < Mx 8 3) then r = -103 ∧ M' = Mx else r = Mx 8 1 ∧ M' = mu (mu (mu (cpy Mx 9 0 23 0 5) 22 1 (Mx 8 1)) 22 2 (Mx 8 2)) 1 1 0
def icX (M : Mem) (y a b : Int) : Mem := if a = -1 then fgX M y else tlX M y a b
theorem ifn {α : Type} {q : Prop} (h : ¬ q) (x y : α) : (if b2i q = 1 then x else y) = y := if_neg (by rw [← b2i_0 h]; decide)
theorem ify {α : Type} {q : Prop} (h : q) (x y : α) : (if b2i q = 1 then x else y) = x := if_pos (b2i_1 h).symm

