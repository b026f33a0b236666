/-! A table of arrays made at once: the row of a walk. -/
theorem mz_old (T : State) (cA comp N M : Nat) (dv : Value) {a : Nat} (ha : a < T.heap.size) : ∀ i, (mzS T cA comp N M dv i).heap[a]? = T.heap[a]?
  | 0 => State.heap_pushCell_of_lt _ _ ha
  | i + 1 => by
    obtain ⟨f1, f2, -, -⟩ := mzS_f T cA comp N M dv i
    have hlt : a < (mzS T cA comp N M dv i).heap.size := Nat.lt_of_lt_of_le ha (by rw [f1]; omega)
    rw [mzS, State.heap_setCell_other (Nat.ne_of_gt ha), State.heap_pushCell_of_lt (h := hlt), mz_old T cA comp N M dv ha i]
theorem mz_inn (T : State) (cA comp N M : Nat) (dv : Value) : ∀ i j, j < i → (mzS T cA comp N M dv i).heap[T.heap.size + 1 + j]? = some (mzI comp M dv)
  | 0, j, h => by omega
  | i + 1, j, h => by
    obtain ⟨f1, f2, -, -⟩ := mzS_f T cA comp N M dv i
    have hne : T.heap.size ≠ T.heap.size + 1 + j := Nat.ne_of_lt (by omega)
    rw [mzS, State.heap_setCell_other hne]
    by_cases e : j = i
    · subst e
      have z : T.heap.size + 1 + j = (mzS T cA comp N M dv j).heap.size := f1.symm
      rw [z]; simp
    · have hlt : T.heap.size + 1 + j < (mzS T cA comp N M dv i).heap.size := by rw [f1]; omega
      rw [State.heap_pushCell_of_lt (h := hlt)]
      exact mz_inn T cA comp N M dv i j (by omega)
section
variable {p : Program} {l : Launch} {e : Env} {R : Room} {s : State} {m : MethodId} {args : Array Value} {below : List Frame} {meth : Method} {c : Code} {H : Heap} {locs : List Loc} {cells slots : Nat} {Q : State → Prop}
theorem mz_row {cc : ByteArray} (hexec : p.tables.exec = Jvm.exec) (hb : c.code = cc) {own : String} {index : Nat} (hown : s.vm.findClass own = some m.cls) (hclink : (Cond.classLink own index "[[I").before args s = true) (hover : mzO s) (harr : (Cond.arrayClass .int).before args s = true)
    {g : JFrame} (hg : g.method = m) (hdg : decode cc g.pc = .ok (.multianewarray index 2, 4)) {n k : Int32} {N K : Nat} (hN : n.toNatClampNeg = N) (hK : k.toNatClampNeg = K) {rest : List Value} (hstack : g.stack = .int k :: .int n :: rest) (hn : ¬ n < 0) (hk : ¬ k < 0) (hb1 : N * 4 ≤ 536870912) (hb2 : K * 4 ≤ 536870912)
    (hcells : cells + (1 + N) ≤ R.cells) (hslots : slots + (N + N * K) ≤ R.slots) (hfr : s.heap.size ≤ H.size)
    (kk : ∀ (cA comp : ClassId) (H' : Heap), s.vm.findClass "[[I" = some cA → s.vm.findClass "[I" = some comp → H'.size = H.size + 1 + N → (∀ q, q < H.size → H'[q]? = H[q]?) → H'[H.size]? = some (mzC cA N H.size N) → (∀ j, j < N → H'[H.size + 1 + j]? = some (mzI comp K (.int 0))) →
      W p l e R s m args below meth c H' locs (cells + 1 + N) (slots + N + N * K) Q { g with pc := g.pc + 4, stack := .ref H.size :: rest }) : W p l e R s m args below meth c H locs cells slots Q g := by
  intro T hT X
  subst hT
  subst hb
  subst hg
  have hpl : e.platform.magicAccessors = ({} : Platform).magicAccessors := by rw [X.admits.platform]
  obtain ⟨comp, cA, kA, hcomp, hkA, hkindA, hnameA⟩ := hover
  obtain ⟨comp2, kC, c0, hcomp2, hkC, hkindC⟩ := Cond.arrayClass_spec harr
  obtain rfl : comp2 = comp := Option.some.inj (hcomp2.symm.trans hcomp)
  obtain ⟨c1, hfc1, hcl⟩ := Cond.classLink_spec hown hclink e.platform hpl
  obtain rfl : cA = c1 := Option.some.inj (hnameA.symm.trans hfc1)
  obtain ⟨hg1, hwarm, hready⟩ := State.classEntry (e := e) X.warmed hcl
  generalize T.vm.noted g.method.cls index (.cls cA) = vm1 at hg1 hwarm hready
  have hal : s.vm.Alike vm1 := hwarm.alike
  obtain ⟨kA1, hkA1, heA⟩ := hal.2.2 _ _ hkA
  obtain ⟨kC1, hkC1, heC⟩ := hal.2.2 _ _ hkC
  have hkindA1 : kA1.kind = .array comp2 (.array .int) := by rw [heA]; exact hkindA
  have hkindC1 : kC1.kind = .array c0 .int := by rw [heC]; exact hkindC
  have X1 := X.noted hwarm
  obtain ⟨hr1, hr2⟩ := X.roomAbove hcells hslots
  have XF := mz_stand X1 cA comp2 N K (defaultValue .int) N (Nat.le_refl N)
  obtain ⟨f1, f2, f3, f4⟩ := mzS_f (T.setVm vm1) cA comp2 N K (defaultValue .int) N
  obtain ⟨t, a1, b1⟩ := kk cA comp2 (mzS (T.setVm vm1) cA comp2 N K (defaultValue .int) N).heap hnameA hcomp f1 (fun q hq => mz_old (T.setVm vm1) cA comp2 N K (defaultValue .int) hq N) f2 (fun j hj => mz_inn (T.setVm vm1) cA comp2 N K (defaultValue .int) N j hj) _ rfl (Stand.forget XF (fun q hq => by
    obtain ⟨j, -, rfl⟩ := List.mem_map.mp hq
    exact hfr))
  refine ⟨t, ?_, b1⟩
  have hl1 : ¬ N > e.platform.arrayLengthLimit := by rw [Launch.admits_arrayLengthLimit X.admits]; omega
  have hh1 : ¬ N * componentBytes (.array .int) > e.platform.maxHeapBytes := by
    rw [Launch.admits_maxHeapBytes X.admits]; show ¬ N * 4 > 536870912; omega
  have hl2 : ¬ K > e.platform.arrayLengthLimit := by rw [Launch.admits_arrayLengthLimit X.admits]; omega
  have hh2 : ¬ K * componentBytes .int > e.platform.maxHeapBytes := by
    rw [Launch.admits_maxHeapBytes X.admits]; show ¬ K * 4 > 536870912; omega
  jvm_step X.here [hexec, hdg]
  simp only [multianewarray.sem, wp_bind', W.resolveClassAt_links (State.method?_setTop g X.here.top) hg1]
  rw [W.popN, if_neg (by decide)]
  refine ⟨g, State.topJava?_setTop' (s := T.setVm vm1) g X.here.top, [.int n, .int k], rest, rfl, hstack, ?_⟩
  simp only [List.mapM_cons, List.mapM_nil, wp_bind', wp_pure']
  refine mz_make (k := kA1) (kc := kC1) (comp := comp2) (cc := c0) (t0 := .array .int) (type := .int) hN hK hkA1 hkindA1 rfl hkC1 hkindC1 hn hk hl1 hh1 hl2 hh2 rfl rfl (by show T.heap.size + 1 + _ ≤ _; omega) (by show T.slotsUsed + _ + _ ≤ _; omega) (fun d acts => ?_)
  have eS : ((T.setTop g).setVm vm1).setTop { g with stack := rest } = (T.setVm vm1).setTop { g with stack := rest } := by
    show ((T.setVm vm1).setTop g).setTop _ = _
    rw [State.setTop_setTop]
  rw [eS, mz_top]
  simp only [wp_bind', W.mark, W.pushRef, State.topJava?_setTop' _ XF.here.top, Option.some.injEq, exists_eq_left', State.setTop_setTop, State.heap_setTop]
  intro acts
  simp [jvm, XF.here.top]
  exact a1
end

