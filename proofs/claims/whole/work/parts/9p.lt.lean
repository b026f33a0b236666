/-! The tables' words give the kinds of arrays. -/
theorem lw_tys {s : State} {args : Array Value} (htb : ∀ w ∈ tb, w.before args s = true) (hO : mzO s) : ∃ t : TT, ∀ (k : Nat) (q : ClassId × FieldType), (tys t)[k]? = some q → ArrOfT s q.1 q.2 ∧ va_RA s q.1 q.2 := by
  obtain ⟨cI, kI, aI, i1, i2, i3⟩ := Cond.arrayClass_spec (htb _ wd_105)
  obtain ⟨cJ, kJ, aJ, j1, j2, j3⟩ := Cond.arrayClass_spec (htb _ wd_993)
  obtain ⟨cZ, kZ, aZ, z1, z2, z3⟩ := Cond.arrayClass_spec (htb _ wd_135)
  obtain ⟨comp, cA, kA, h1, h2, h3, h4⟩ := hO
  refine ⟨(cI, cJ, cZ, cA), fun k q hk => ?_⟩
  have hl : k < 4 := (List.getElem?_eq_some_iff.mp hk).1
  rcases (by omega : k = 0 ∨ k = 1 ∨ k = 2 ∨ k = 3) with rfl | rfl | rfl | rfl
  · cases hk
    exact ⟨fun n z => ⟨fun k h => (by cases h), kI, i2, aI, i3⟩, i1⟩
  · cases hk
    exact ⟨fun n z => ⟨fun k h => (by cases h), kJ, j2, aJ, j3⟩, j1⟩
  · cases hk
    exact ⟨fun n z => ⟨fun k h => (by cases h), kZ, z2, aZ, z3⟩, z1⟩
  · cases hk
    exact ⟨fun n z => ⟨fun k h => (by cases h), kA, h2, comp, h3⟩, h4⟩

