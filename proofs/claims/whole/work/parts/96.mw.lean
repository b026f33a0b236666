/-! A table of int arrays made at once: the machine's own steps. -/
theorem tb_ref {ty : FieldType} (h : ty.isReference = true) (a : Addr) : fits ty (.ref a) = true := by
  cases ty <;> first | rfl | exact absurd h (by decide)
section
variable {p : Program} {l : Launch} {e : Env} {R : Room} {s : State} {m : MethodId} {args : Array Value} {below : List Frame} {meth : Method} {c : Code} {T : State} {locs : List Loc} {kc ks : Nat} {E : CtlPost} {d : Bool} {acts : List Action} {g : JFrame} {Q : Addr → Pre}
/-- an array, of elements of four bytes, where a walk stands -/
theorem tb_new (X : Stand p l e R s m args below meth c T locs kc ks) {a b n : Nat} {k : Class} {ty : FieldType} {v : Value} (h1 : T.vm.classes[a]? = some k) (h2 : k.kind = .array b ty) (h3 : fits ty v = true) (h4 : componentBytes ty = 4) (hn : n * 4 ≤ 536870912) (hc : kc + 1 ≤ R.cells) (hs : ks + n ≤ R.slots)
    (hq : ∀ acts, Q T.heap.size d acts ((T.pushCell (arrV a n (fun _ => v))).setTop g)) : wp (Jvm.newArray a n v) Q E e d acts (T.setTop g) := by
  have hr := X.roomAbove hc hs
  refine W.newArray_of (s := T.setTop g) h1 h2 ?_ ?_ hr.1 hr.2 h3 (fun acts2 => ?_)
  · rw [Launch.admits_arrayLengthLimit X.admits]; omega
  · rw [Launch.admits_maxHeapBytes X.admits, h4]; omega
  · have w := hq acts2
    rw [← arrV_new] at w
    exact w
/-- one length: an int array -/
theorem tb_one (X : Stand p l e R s m args below meth c T locs kc ks) {b b2 K : Nat} {k : Class} {i : Int32} (h1 : T.vm.classes[b]? = some k) (h2 : k.kind = .array b2 .int) (hi : ¬ i < 0) (hK : i.toNatClampNeg = K) (hn : K * 4 ≤ 536870912) (hc : kc + 1 ≤ R.cells) (hs : ks + K ≤ R.slots)
    (hq : ∀ acts, Q T.heap.size d acts ((T.pushCell (arrV b K (fun _ => .int 0))).setTop g)) : wp (multianewarray.make b [i]) Q E e d acts (T.setTop g) := by
  unfold multianewarray.make
  simp only [wp_bind', W.ite, hi, if_false, wp_pure', W.theClass, State.vm_setTop, h1, h2, Option.some.injEq, exists_eq_left', hK]
  exact tb_new X h1 h2 rfl rfl hn hc hs hq
/-- two lengths: the table, and a round for each of its places -/
theorem tb_two (X : Stand p l e R s m args below meth c T locs kc ks) {a b b2 N K : Nat} {k k2 : Class} {o i : Int32} (h1 : T.vm.classes[a]? = some k) (h2 : k.kind = .array b (.array .int)) (h3 : T.vm.classes[b]? = some k2) (h4 : k2.kind = .array b2 .int)
    (ho : ¬ o < 0) (hN : o.toNatClampNeg = N) (hi : ¬ i < 0) (hK : i.toNatClampNeg = K) (hn : N * 4 ≤ 536870912) (hn2 : K * 4 ≤ 536870912) (hc : kc + (1 + N) ≤ R.cells) (hs : ks + (N + N * K) ≤ R.slots)
    (hq : ∀ d acts, Q T.heap.size d acts ((tbU a b N K (.int 0) T N).setTop g)) : wp (multianewarray.make a [o, i]) Q E e d acts (T.setTop g) := by
  have hf : List.find? (fun q : Int32 => decide (q < 0)) [i] = none := by simp [hi]
  have hz : (Std.Legacy.Range.mk 0 N 1 (by decide)).size = N := by simp [Std.Legacy.Range.size]
  unfold multianewarray.make
  simp only [wp_bind', W.ite, ho, if_false, wp_pure', W.theClass, State.vm_setTop, h1, h2, Option.some.injEq, exists_eq_left', hN]
  refine tb_new X h1 h2 rfl rfl hn (by omega) (by omega) (fun acts2 => ?_)
  rw [← tbF_0 T.heap.size]
  simp only [hf, ite_self, wp_bind', Std.Legacy.Range.forIn_eq_forIn_range', hz]
  refine wp_forIn_inv (fun r U => ∃ n, n + r.length = N ∧ r = List.range' n r.length 1 ∧ U = (tbU a b N K (.int 0) T n).setTop g) _ _ ⟨0, by simp, by simp, rfl⟩ ?_ ?_
  · intro x r U d3 acts3 Q3 hI next
    obtain ⟨n, e1, e2, rfl⟩ := hI
    rw [List.length_cons] at e1
    rw [List.length_cons, List.range'_succ] at e2
    obtain ⟨rfl, e3⟩ := List.cons.inj e2
    have hm : x * K + K ≤ N * K := by
      rw [← Nat.succ_mul]
      exact Nat.mul_le_mul_right K (by omega)
    obtain ⟨⟨L, hL, Y⟩, hv, hz1, -, ht, -⟩ := tb_all X a b N K (.int 0) x
    simp only [wp_bind']
    refine tb_one Y (by rw [hv]; exact h3) h4 hi hK hn2 (by omega) (by omega) (fun acts4 => ?_)
    simp only [wp_bind', W.writeLoc, wp_pure']
    refine ⟨arrV a N (tbF T.heap.size x), (State.heap_pushCell_of_lt _ _ (show T.heap.size < (tbU a b N K (.int 0) T x).heap.size by omega)).trans ht, by simp [arrV], by rw [arrV_size]; omega, ?_, next _ _ _ ⟨x + 1, by omega, e3, ?_⟩⟩
    · simp [State.fitsSlot, State.slotType?, arrV, hv, h1, h2]
      rfl
    · rw [hz1, arrV_store, tbF_s, tbU_s]
      rfl
  · intro U d3 acts3 hI
    obtain ⟨n, e1, -, rfl⟩ := hI
    obtain rfl : n = N := e1
    simp only [wp_pure']
    exact hq _ _
end
