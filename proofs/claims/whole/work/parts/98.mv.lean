/-! A table of int arrays made at once: the row of a walk. -/
section
variable {p : Program} {l : Launch} {e : Env} {R : Room} {s : State} {m : MethodId} {args : Array Value} {below : List Frame} {meth : Method} {c : Code} {H : Heap} {locs : List Loc} {cells slots : Nat} {Q : State → Prop}
theorem mz_row {cc : ByteArray} (hexec : p.tables.exec = Jvm.exec) (hb : c.code = cc) {own : String} {index : Nat} (hown : s.vm.findClass own = some m.cls) (hclink : (Cond.classLink own index "[[I").before args s = true) (hover : mzO s) (harr : (Cond.arrayClass .int).before args s = true)
    {g : JFrame} (hg : g.method = m) (hdg : decode cc g.pc = .ok (.multianewarray index 2, 4)) {n k : Int32} {N K : Nat} (hN : n.toNatClampNeg = N) (hK : k.toNatClampNeg = K) {rest : List Value} (hstack : g.stack = .int k :: .int n :: rest) (hn : ¬ n < 0) (hk : ¬ k < 0) (hb1 : N * 4 ≤ 536870912) (hb2 : K * 4 ≤ 536870912)
    (hcells : cells + (1 + N) ≤ R.cells) (hslots : slots + (N + N * K) ≤ R.slots) (hfr : s.heap.size ≤ H.size)
    (kk : ∀ (cA comp : ClassId) (H' : Heap), s.vm.findClass "[[I" = some cA → s.vm.findClass "[I" = some comp → H'.size = H.size + 1 + N → (∀ q, q < H.size → H'[q]? = H[q]?) → H'[H.size]? = some (arrV cA N (tbF H.size N)) → (∀ j, j < N → H'[H.size + 1 + j]? = some (arrV comp K (fun _ => .int 0))) →
      W p l e R s m args below meth c H' locs (cells + 1 + N) (slots + N + N * K) Q { g with pc := g.pc + 4, stack := .ref H.size :: rest }) : W p l e R s m args below meth c H locs cells slots Q g := by
  rintro T rfl X
  subst hb hg
  obtain ⟨b, a, ka, f1, f2, f3, f4⟩ := hover
  obtain ⟨b1, kb, b2, g1, g2, g3⟩ := Cond.arrayClass_spec harr
  obtain rfl : b1 = b := Option.some.inj (g1.symm.trans f1)
  obtain ⟨a1, q1, q2⟩ := Cond.classLink_spec hown hclink e.platform (by rw [X.admits.platform])
  obtain rfl : a1 = a := Option.some.inj (q1.symm.trans f4)
  obtain ⟨w1, w2, -⟩ := State.classEntry (e := e) X.warmed q2
  have Y := X.noted w2
  generalize T.vm.noted g.method.cls index (.cls a1) = v at w1 w2 Y
  obtain ⟨ka2, u1, u2⟩ := w2.alike.2.2 _ _ f2
  obtain ⟨kb2, u3, u4⟩ := w2.alike.2.2 _ _ g2
  obtain ⟨⟨L, hL, Z⟩, -, r1, r2, r3, r4⟩ := tb_all Y a1 b1 N K (.int 0) N
  rw [← Nat.add_assoc] at Z
  obtain ⟨t, t1, t2⟩ := kk a1 b1 _ f4 f1 r1 r2 r3 r4 _ rfl (Z.forget fun q h => by rw [hL q h]; exact hfr)
  refine ⟨t, ?_, t2⟩
  jvm_step X.here [hexec, hdg]
  simp only [multianewarray.sem, wp_bind', W.resolveClassAt_links (State.method?_setTop g X.here.top) w1]
  refine (popN_top (s := T.setVm v) (args := [.int n, .int k]) (rest := rest) X.here.top hstack).mpr ?_
  simp only [List.mapM_cons, List.mapM_nil, wp_bind', wp_pure']
  refine tb_two Y u1 (by rw [u2]; exact f3) u3 (by rw [u4]; exact g3) hn hN hk hK hb1 hb2 hcells hslots (fun d2 acts2 => ?_)
  simp only [wp_bind', W.mark, W.pushRef, State.topJava?_setTop' _ Z.here.top, Option.some.injEq, exists_eq_left', State.setTop_setTop]
  intro acts3
  simp [jvm, Z.here.top]
  exact t1
end
