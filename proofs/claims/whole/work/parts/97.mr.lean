/-! A table of arrays made at once: the row. -/
section
variable {E : CtlPost} {e : Env} {d : Bool} {acts : List Action}
theorem mz_make {T : State} {cA comp cc : ClassId} {k kc : Class} {t0 type : FieldType} {n m : Int32} {N M : Nat} (hN : n.toNatClampNeg = N) (hM : m.toNatClampNeg = M) (hk : T.vm.classes[cA]? = some k) (hkind : k.kind = .array comp t0) (href : t0.isReference = true)
    (hkc : T.vm.classes[comp]? = some kc) (hkindc : kc.kind = .array cc type) (hn : ¬ n < 0) (hm : ¬ m < 0) (hl1 : ¬ N > e.platform.arrayLengthLimit) (hh1 : ¬ N * componentBytes t0 > e.platform.maxHeapBytes) (hl2 : ¬ M > e.platform.arrayLengthLimit) (hh2 : ¬ M * componentBytes type > e.platform.maxHeapBytes)
    (hdf : fits type (defaultValue type) = true) (hdd : (defaultValue type).isDefault = true) (hc : T.heap.size + 1 + N ≤ e.platform.maxCells) (hs : T.slotsUsed + N + N * M ≤ e.platform.maxSlots) {Q : Addr → Pre}
    (hq : ∀ d acts, Q T.heap.size d acts (mzS T cA comp N M (defaultValue type) N)) : wp (multianewarray.make cA [n, m]) Q E e d acts T := by
  subst hN
  have hfind : ([m].find? (· < 0)) = none := by simp [hm]
  rw [multianewarray.make]
  simp only [wp_bind', W.ite, hn, if_false, wp_pure', W.theClass, hk, hkind, Option.some.injEq, exists_eq_left']
  refine mz_arr hk hkind hl1 hh1 (mz_fit href _ (Or.inl rfl)) rfl (by omega) (by have := Nat.zero_le (n.toNatClampNeg * M); omega) ?_
  simp only [hfind]
  rw [ite_self, wp_bind', Std.Legacy.Range.forIn_eq_forIn_range']
  have hsz : ([:n.toNatClampNeg] : Std.Legacy.Range).size = n.toNatClampNeg := by simp [Std.Legacy.Range.size]
  rw [hsz, ← mzC_0 cA n.toNatClampNeg T.heap.size]
  exact mz_loop (E := E) hM hk hkind href hkc hkindc hm hl2 hh2 hdf hdd hc hs (fun d acts => by simp only [wp_pure']; exact hq d acts) n.toNatClampNeg 0 (by omega) _ _
end
def mzO (s : State) : Prop := ∃ (comp c : ClassId) (k : Class), s.vm.findClass "[I" = some comp ∧ s.vm.classes[c]? = some k ∧ k.kind = .array comp (.array .int) ∧ s.vm.findClass "[[I" = some c
theorem mzO.moved {s U : State} (h : s.vm.Alike U.vm) (x : mzO s) : mzO U := by
  obtain ⟨comp, c, k, h1, h2, h3, h4⟩ := x
  obtain ⟨k1, h5, h6⟩ := h.2.2 _ _ h2
  exact ⟨comp, c, k1, by rw [h.findClass]; exact h1, h5, by rw [h6]; exact h3, by rw [h.findClass]; exact h4⟩
theorem mz_over {args : Array Value} {s : State} (h : (Cond.arrayOver (.array .int)).before args s = true) : mzO s := by
  have h : (Cond.arrayOver (.array .int)).holds args s none s [] = true := h
  simp only [Cond.holds, Cond.value, beq_iff_eq] at h
  cases hc : s.vm.findClass (FieldType.array .int).toString with
  | none => simp [hc] at h
  | some comp =>
    simp only [hc, Option.bind_some, Option.bind_eq_some_iff, Option.map_eq_some_iff] at h
    obtain ⟨c, hi, k, hk, hb⟩ := h
    obtain ⟨hlt, hp, -⟩ := Array.findIdx?_eq_some_iff_getElem.mp hi
    have hkk : s.vm.classes[c] = k := (Array.getElem?_eq_some_iff.mp hk).2
    rw [hkk] at hp
    cases hkind : k.kind with
    | array component ty =>
      rw [hkind] at hb hp
      simp at hb hp
      exact ⟨comp, c, k, hc, hk, by rw [hkind, hp, hb.1], hb.2⟩
    | _ => rw [hkind] at hb; simp at hb
section
variable {p : Program} {l : Launch} {e : Env} {R : Room} {s : State} {m : MethodId} {args : Array Value} {below : List Frame} {meth : Method} {c : Code} {T : State} {locs : List Loc} {cells slots : Nat}
theorem mz_stand (X : Stand p l e R s m args below meth c T locs cells slots) (cA comp N M : Nat) (dv : Value) : ∀ i, i ≤ N → Stand p l e R s m args below meth c (mzS T cA comp N M dv i) (locs ++ (List.range i).map fun j => ⟨T.heap.size, j⟩) (cells + 1 + i) (slots + N + i * M)
  | 0, _ => by
    have h := X.pushed (mzC cA N T.heap.size 0)
    rw [mzC_n] at h
    simpa [mzS] using h
  | i + 1, hi => by
    have Xi := mz_stand X cA comp N M dv i (by omega)
    obtain ⟨f1, f2, f3, f4⟩ := mzS_f T cA comp N M dv i
    have hlt : T.heap.size < (mzS T cA comp N M dv i).heap.size := by rw [f1]; omega
    have hcell : ((mzS T cA comp N M dv i).pushCell (mzI comp M dv)).heap[T.heap.size]? = some (mzC cA N T.heap.size i) := by rw [State.heap_pushCell_of_lt (h := hlt)]; exact f2
    have h := (Xi.pushed (mzI comp M dv)).stored hcell i (.ref (T.heap.size + 1 + i))
    rw [mzC_s cA N T.heap.size i (by omega)] at h
    have e1 : (mzI comp M dv).slots.size = M := by simp [mzI]
    rw [e1] at h
    have e2 : (locs ++ (List.range (i + 1)).map fun j => (⟨T.heap.size, j⟩ : Loc)) = (locs ++ (List.range i).map fun j => (⟨T.heap.size, j⟩ : Loc)) ++ [⟨T.heap.size, i⟩] := by simp [List.range_succ, List.append_assoc]
    have e3 : slots + N + (i + 1) * M = slots + N + i * M + M := by rw [Nat.succ_mul]; omega
    rw [e2, e3]
    exact h
end
theorem mz_top (T : State) (f : JFrame) (cA comp N M : Nat) (dv : Value) : ∀ i, mzS (T.setTop f) cA comp N M dv i = (mzS T cA comp N M dv i).setTop f
  | 0 => by simp [mzS, State.heap_setTop, State.pushCell_setTop]
  | i + 1 => by
    rw [mzS, mz_top T f cA comp N M dv i, mzS]
    simp [State.heap_setTop, State.pushCell_setTop, State.setCell_setTop]

