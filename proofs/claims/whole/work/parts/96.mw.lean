/-! A table of arrays made at once: the machine's own steps. -/
theorem mz_fit {ty : FieldType} (h : ty.isReference = true) (v : Value) (hv : v = .null ∨ ∃ a, v = .ref a) : fits ty v = true := by
  rcases hv with rfl | ⟨a, rfl⟩ <;> cases ty <;> simp [FieldType.isReference] at h <;> rfl
section
variable {E : CtlPost} {e : Env} {d : Bool} {acts : List Action} {s : State}
theorem mz_arr {c comp : ClassId} {k : Class} {type : FieldType} {len : Nat} {init : Value} (hk : s.vm.classes[c]? = some k) (hkind : k.kind = .array comp type)
    (hlim : ¬ len > e.platform.arrayLengthLimit) (hhp : ¬ len * componentBytes type > e.platform.maxHeapBytes) (hfit : fits type init = true) (hdef : init.isDefault = true) {Q : Addr → Pre}
    (h1 : s.heap.size < e.platform.maxCells) (h2 : s.slotsUsed + len ≤ e.platform.maxSlots)
    (hq : Q s.heap.size d acts (s.pushCell { cls := c, slots := Array.replicate len init, vm := .none })) : wp (Jvm.newArray c len init) Q E e d acts s := by
  have hf : ∀ i v, (Array.replicate len init)[i]? = some v → s.fitsSlot c .none i v = true := fun i v hv => by
    rw [Array.getElem?_replicate] at hv
    by_cases q : i < len
    · rw [if_pos q] at hv
      cases hv
      simp [State.fitsSlot, State.slotType?, hk, hkind, hfit]
    · rw [if_neg q] at hv; cases hv
  have hall : ((Array.replicate len init).all (·.isDefault)) = true := by
    rw [Array.all_replicate]
    by_cases q : len = 0 <;> simp [q, hdef]
  have hda : allocActs (Array.replicate len init) s.heap.size acts = acts := by
    unfold allocActs
    rw [if_pos hall]
  simp only [Jvm.newArray, Jvm.arrayFits, wp_bind', W.ask, W.ite, hlim, if_false, wp_pure', W.theClass, hk, hkind, hhp, W.alloc, W.stop, Option.some.injEq, exists_eq_left', Array.size_replicate, hda]
  rw [if_neg (by omega)]
  exact ⟨h1, h2, hf, hq⟩
theorem mz_in {comp cc : ClassId} {kc : Class} {type : FieldType} {m : Int32} {M : Nat} (hM : m.toNatClampNeg = M) (hkc : s.vm.classes[comp]? = some kc) (hkindc : kc.kind = .array cc type) (hm : ¬ m < 0)
    (hl2 : ¬ M > e.platform.arrayLengthLimit) (hh2 : ¬ M * componentBytes type > e.platform.maxHeapBytes) (hdf : fits type (defaultValue type) = true) (hdd : (defaultValue type).isDefault = true)
    (h1 : s.heap.size < e.platform.maxCells) (h2 : s.slotsUsed + M ≤ e.platform.maxSlots) {Q : Addr → Pre} (hq : Q s.heap.size d acts (s.pushCell (mzI comp M (defaultValue type)))) : wp (multianewarray.make comp [m]) Q E e d acts s := by
  subst hM
  rw [multianewarray.make]
  simp only [wp_bind', W.ite, hm, if_false, wp_pure', W.theClass, hkc, hkindc, Option.some.injEq, exists_eq_left']
  exact mz_arr hkc hkindc hl2 hh2 hdf hdd h1 h2 hq
end
section
variable {E : CtlPost} {e : Env}
/-- one round after the other, by what is left -/
theorem mz_loop {T : State} {cA comp cc : ClassId} {k kc : Class} {t0 type : FieldType} {m : Int32} {N M : Nat} (hM : m.toNatClampNeg = M) (hk : T.vm.classes[cA]? = some k) (hkind : k.kind = .array comp t0) (href : t0.isReference = true)
    (hkc : T.vm.classes[comp]? = some kc) (hkindc : kc.kind = .array cc type) (hm : ¬ m < 0) (hl2 : ¬ M > e.platform.arrayLengthLimit) (hh2 : ¬ M * componentBytes type > e.platform.maxHeapBytes)
    (hdf : fits type (defaultValue type) = true) (hdd : (defaultValue type).isDefault = true) (hc : T.heap.size + 1 + N ≤ e.platform.maxCells) (hs : T.slotsUsed + N + N * M ≤ e.platform.maxSlots) {Q : PUnit → Pre}
    (hq : ∀ d acts, Q PUnit.unit d acts (mzS T cA comp N M (defaultValue type) N)) : ∀ (r i : Nat), i + r = N → ∀ (d : Bool) (acts : List Action),
    wp (forIn (List.range' i r 1) PUnit.unit (fun (i : Nat) (_ : PUnit) => do
      let a ← multianewarray.make comp [m]
      writeLoc T.heap.size i (.ref a)
      Pure.pure (ForInStep.yield PUnit.unit))) Q E e d acts (mzS T cA comp N M (defaultValue type) i)
  | 0, i, h, d, acts => by
    rw [List.range'_zero]
    simp only [List.forIn_nil, wp_pure']
    rw [show i = N by omega]
    exact hq d acts
  | r + 1, i, h, d, acts => by
    obtain ⟨f1, f2, f3, f4⟩ := mzS_f T cA comp N M (defaultValue type) i
    have hlt : T.heap.size < (mzS T cA comp N M (defaultValue type) i).heap.size := by rw [f1]; omega
    have hmul : i * M + M ≤ N * M := by
      have := Nat.mul_le_mul_right M (show i + 1 ≤ N by omega)
      rw [Nat.succ_mul] at this; exact this
    rw [List.range'_succ]
    simp only [List.forIn_cons, wp_bind']
    refine mz_in hM (by rw [f3]; exact hkc) hkindc hm hl2 hh2 hdf hdd (by rw [f1]; omega) (by rw [f4]; omega) ?_
    simp only [wp_bind', W.writeLoc, wp_pure']
    have ih := mz_loop hM hk hkind href hkc hkindc hm hl2 hh2 hdf hdd hc hs hq r (i + 1) (by omega)
    refine ⟨mzC cA N T.heap.size i, by rw [State.heap_pushCell_of_lt (h := hlt)]; exact f2, by simp [mzC], by rw [mzC_n]; omega, ?_, ?_⟩
    · simp [State.fitsSlot, State.slotType?, mzC, f3, hk, hkind, mz_fit href _ (Or.inr ⟨_, rfl⟩)]
    · rw [f1, show T.heap.size + 1 + i = T.heap.size + 1 + i from rfl, mzC_s cA N T.heap.size i (by omega)]
      exact ih _ _
end

