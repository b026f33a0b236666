/-! A table of arrays made at once: the array classes that it wants. -/
def mzO (s : State) : Prop := ∃ (comp c : ClassId) (k : Class), s.vm.findClass "[I" = some comp ∧ s.vm.classes[c]? = some k ∧ k.kind = .array comp (.array .int) ∧ s.vm.findClass "[[I" = some c
theorem mzO.moved {s U : State} (h : s.vm.Alike U.vm) (x : mzO s) : mzO U := by
  obtain ⟨comp, c, k, h1, h2, h3, h4⟩ := x
  obtain ⟨k1, h5, h6⟩ := h.2.2 _ _ h2
  exact ⟨comp, c, k1, by rw [h.findClass]; exact h1, h5, by rw [h6]; exact h3, by rw [h.findClass]; exact h4⟩
theorem mz_over {args : Array Value} {s : State} (h : (Cond.arrayOver (.array .int)).before args s = true) : mzO s := by
  have w : (Cond.arrayOver (.array .int)).value args s none s [] = some true := beq_iff_eq.mp h
  unfold Cond.value at w
  obtain ⟨b, hb, w⟩ := Option.bind_eq_some_iff.mp w
  obtain ⟨a, ha, w⟩ := Option.bind_eq_some_iff.mp w
  obtain ⟨k, hk, w⟩ := Option.map_eq_some_iff.mp w
  obtain ⟨i, hi⟩ := Array.findIdx?_eq_some_iff_getElem.mp ha
  have hp := hi.1
  rw [(Array.getElem?_eq_some_iff.mp hk).2] at hp
  refine ⟨b, a, k, hb, hk, ?_⟩
  generalize k.kind = q at w hp ⊢
  cases q with
  | array b2 ty =>
    have h1 : b2 = b := beq_iff_eq.mp hp
    have h2 := Bool.and_eq_true_iff.mp w
    have h3 : ty = .array .int := of_decide_eq_true h2.1
    exact ⟨by rw [h1, h3], of_decide_eq_true h2.2⟩
  | _ => cases w
