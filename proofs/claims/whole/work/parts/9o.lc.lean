/-! The tables' words give the classes. -/
theorem lw_cls {s : State} {args : Array Value} (htb : ∀ w ∈ tb, w.before args s = true) : ∃ D : va_G, ∀ (c : Nat) (q : vw_C), vwCl[c]? = some q → u_Kn s q.1 q.2.1 q.2.2 (D.1 c) (D.2 c) := by
  have h : ∀ c : Nat, ∃ d : ClassId × (Nat → Nat), ∀ q : vw_C, vwCl[c]? = some q → u_Kn s q.1 q.2.1 q.2.2 d.1 d.2 := by
    intro c
    by_cases hc : c < 10
    · rcases (by omega : c = 0 ∨ c = 1 ∨ c = 2 ∨ c = 3 ∨ c = 4 ∨ c = 5 ∨ c = 6 ∨ c = 7 ∨ c = 8 ∨ c = 9) with rfl | rfl | rfl | rfl | rfl | rfl | rfl | rfl | rfl | rfl
      · obtain ⟨cC, iS, hu⟩ := u_known htb fc0.2.1 (htb _ wd_251)
        exact ⟨(cC, iS), fun q hq => by cases hq; exact hu⟩
      · obtain ⟨cC, iS, hu⟩ := u_known htb fc1.2.1 (htb _ wd_107)
        exact ⟨(cC, iS), fun q hq => by cases hq; exact hu⟩
      · obtain ⟨cC, iS, hu⟩ := u_known htb fc2.2.1 (htb _ wd_190)
        exact ⟨(cC, iS), fun q hq => by cases hq; exact hu⟩
      · obtain ⟨cC, iS, hu⟩ := u_known htb fc3.2.1 (htb _ wd_163)
        exact ⟨(cC, iS), fun q hq => by cases hq; exact hu⟩
      · obtain ⟨cC, iS, hu⟩ := u_known htb fc4.2.1 (htb _ wd_137)
        exact ⟨(cC, iS), fun q hq => by cases hq; exact hu⟩
      · obtain ⟨cC, iS, hu⟩ := u_known htb fc5.2.1 (htb _ wd_91)
        exact ⟨(cC, iS), fun q hq => by cases hq; exact hu⟩
      · obtain ⟨cC, iS, hu⟩ := u_known htb fc6.2.1 (htb _ wd_293)
        exact ⟨(cC, iS), fun q hq => by cases hq; exact hu⟩
      · obtain ⟨cC, iS, hu⟩ := u_known htb fc7.2.1 (htb _ wd_207)
        exact ⟨(cC, iS), fun q hq => by cases hq; exact hu⟩
      · obtain ⟨cC, iS, hu⟩ := u_known htb fc8.2.1 (htb _ wd_83)
        exact ⟨(cC, iS), fun q hq => by cases hq; exact hu⟩
      · obtain ⟨cC, iS, hu⟩ := u_known htb fc9.2.1 (htb _ wd_822)
        exact ⟨(cC, iS), fun q hq => by cases hq; exact hu⟩
    · exact ⟨(0, fun _ => 0), fun q hq => absurd (List.getElem?_eq_some_iff.mp hq).1 (by show ¬ c < 10; exact hc)⟩
  obtain ⟨f, hf⟩ := Classical.axiomOfChoice h
  exact ⟨(fun c => (f c).1, fun c => (f c).2), hf⟩

