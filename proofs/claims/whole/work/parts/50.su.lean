/-! A static method called by the name of a class that inherits it; bits counted. -/
theorem su_wp {E : CtlPost} {Q : Unit → Pre} {e : Env} {d : Bool} {acts : List Action} {s : State} {f : JFrame} {index ci : Nat} {cn : ClassId} {y : MethodId} {v1 v2 : Vm} {kn ky : Class} {my : Method} {nm ds : String} {as rest : List Value}
    (ht : s.topJava?.isSome) (hp : e.platform.polymorphicOnlyByInvokevirtual = true) (a1 : ((memberRef f.method.cls index).ask e.toSetting s.vm).1 = .ok (ci, nm, ds, false))
    (b1 : (Jvm.resolveClass f.method.cls ci).Gives e.toSetting s.vm (.ok cn) v1) (z1 : v1.classes.size ≤ s.vm.classes.size) (c1 : v1.classes[cn]? = some kn) (n1 : (kn.methods.any fun q => q.name == nm && !q.isStatic && signaturePolymorphic kn q) = false)
    (b2 : (Jvm.resolveMethod f.method.cls index).Gives e.toSetting v1 (.ok y) v2) (z2 : v2.classes.size ≤ v1.classes.size) (c2 : v2.classes[y.cls]? = some ky) (m2 : v2.method? y = some my) (n2 : signaturePolymorphic ky my = false)
    (hst : my.isStatic = true) (hin : ky.init = .initialized) (hl : as.length = my.sig.parameters.length) (hk : f.stack = as.reverse ++ rest) :
    wp (invokestatic.sem index) Q E e d acts (s.setTop f) ↔ E (.invoke y as.toArray) (.initLock y.cls false :: acts) ((s.setVm v2).setTop { f with stack := rest }) := by
  have r1 : ∀ {G : ClassId → Pre} {d : Bool} {acts : List Action}, wp (Jvm.resolveClassAt ci) G E e d acts (s.setTop f) ↔ G cn d acts ((s.setVm v1).setTop f) := fun {G d acts} =>
    W.resolveClassAt_links (State.method?_setTop f ht) b1 z1
  have r2 : ∀ {G : MethodId → Pre} {d : Bool} {acts : List Action}, wp (Jvm.resolveMethodAt index) G E e d acts ((s.setVm v1).setTop f) ↔ G y d acts ((s.setVm v2).setTop f) := fun {G d acts} =>
    W.resolveMethodAt_links (t := (s.setVm v1).setTop f) (State.method?_setTop (s := s.setVm v1) f ht) b2 z2
  have r3 : ∀ {G : List Value → Pre} {d : Bool} {acts : List Action}, wp (Jvm.popN my.sig.parameters.length) G E e d acts ((s.setVm v2).setTop f) ↔ G as (if as.length = 0 then d else true) acts ((s.setVm v2).setTop { f with stack := rest }) := fun {G d acts} => by
    rw [← hl]
    exact popN_top (s := s.setVm v2) ht hk
  unfold invokestatic.sem
  simp only [wp_bind', W.ask, hp, if_true, Seam.memberRefOf]
  simp [State.method?_setTop f ht, a1, r1, c1, n1, r2, m2, Seam.isPolymorphic, c2, n2, hst, W.ensureInit_ready (s := (s.setVm v2).setTop f) ⟨ky, c2, hin⟩, Jvm.popArgs, r3, -Array.any_eq_true]
theorem su_tab {l : Launch} {e : Env} {s : State} {vm : Vm} {args : Array Value} {own owner : String} {index : Nat} {d : ClassId} {x : MethodName} {y : MethodId} (ha : l.admits e) (hW : s.WarmedH vm) (hown : s.vm.findClass own = some d)
    (hlink : (Cond.methodLink own index x).before args s = true) (hsame : (Cond.sameMethod x.cls owner x.name x.desc).before args s = true) (hy : s.methodNamed? ⟨owner, x.name, x.desc⟩ = some y) :
    ∃ (ci : Nat) (cn : ClassId) (v1 v2 : Vm) (kn : Class) (nm ds : String), ((memberRef d index).ask e.toSetting vm).1 = .ok (ci, nm, ds, false) ∧ (Jvm.resolveClass d ci).Gives e.toSetting vm (.ok cn) v1 ∧ v1.classes.size ≤ vm.classes.size ∧ v1.classes[cn]? = some kn ∧
      (kn.methods.any fun q => q.name == nm && !q.isStatic && signaturePolymorphic kn q) = false ∧ (Jvm.resolveMethod d index).Gives e.toSetting v1 (.ok y) v2 ∧ v2.classes.size ≤ v1.classes.size ∧ s.WarmedH v2 := by
  obtain ⟨cn, kc, r, u1, u2, u3, u4, u5⟩ := Cond.sameMethod_found hsame
  obtain rfl : r = y := Option.some.inj (u5.symm.trans hy)
  obtain ⟨ci, hU, hR⟩ := Cond.methodLink_specUp hown u1 u2 u3 u4 hlink e.platform (by rw [ha.platform]) (by rw [ha.platform])
  have hE := State.methodEntryUp hW hU hR
  obtain ⟨b1, -, W1, b2⟩ := hE.classFirst
  -- the entry's parts as the tables have them now; the named class as they have it behind the first link
  obtain ⟨dk, cf, nt, nm, ds, _, _, _, w1, w2, w3, w4, -⟩ := (hW.methodLinksUp hU).here
  obtain ⟨_, _, _, _, _, kn, _, _, _, _, _, _, _, _, w5, -, w6, -⟩ := (W1.methodLinksUp hU).here
  refine ⟨ci, cn, _, _, kn, nm, ds, memberRef_ask_via w1 w2 (by rw [if_neg (by decide)]; exact w3) w4, b1, ?_, w5, ?_, b2, ?_, hE.warmed⟩
  · rw [Vm.size_noted]; exact Nat.le_refl _
  · rw [Array.any_eq_false]
    intro i hi
    rw [w6]
    simp
  · exact Nat.le_of_eq (Vm.size_noted _ _ _ _)
theorem su_call {p : Program} {l : Launch} {e : Env} {R : Room} {s : State} {m : MethodId} {args : Array Value} {below : List Frame} {meth : Method} {c : Code} {T : State} {locs : List Loc} {cells slots : Nat} (X : Stand p l e R s m args below meth c T locs cells slots) (hexec : p.tables.exec = Jvm.exec) {own owner : String} {index : Nat} {x y : MethodName} {bytes : ByteArray} {maxL : Nat} {ret : Option FieldType}
    (hown : s.vm.findClass own = some m.cls) (hlink : (Cond.methodLink own index x).before args s = true) (hsame : (Cond.sameMethod x.cls owner x.name x.desc).before args s = true) (hyx : y = ⟨owner, x.name, x.desc⟩) (hstat : (Cond.static y).before args s = true) (hinit : (Cond.initialized y.cls).before args s = true)
    (hcode : (Cond.code y bytes maxL ret).before args s = true) (hy : owner ≠ "java/lang/invoke/MethodHandle" ∧ owner ≠ "java/lang/invoke/VarHandle")
    {W : Nat} {Pre : Pt → Array Value → Prop} {Post : Pt → Array Value → Option Value → Pt → Prop} (hK : Back l R p e below s args y 3 W Pre Post)
    {g : JFrame} (hg : g.method = m) (hsize : g.locals.size = c.maxLocals) {argsL rest : List Value} (hlen : ∀ sig, parseMethodDescriptor y.desc = some sig → argsL.length = sig.parameters.length)
    (hstack : g.stack = argsL.reverse ++ rest) (hW : 2 * g.monitorRoom + (rest.map fun v => v.category).sum ≤ W) (hdg : decode c.code g.pc = .ok (.invokestatic index, 3))
    (hpre : ∀ vm₁, s.WarmedH vm₁ → Pre ⟨T.setVm vm₁, locs, cells, slots⟩ argsL.toArray) :
    ∃ (v : Option Value) (vm₁ : Vm) (B : Pt), s.WarmedH vm₁ ∧ Stand p l e R s m args below meth c B.U B.locs B.cells B.slots ∧ Post ⟨T.setVm vm₁, locs, cells, slots⟩ argsL.toArray v B ∧
      ∀ target, Steps p.tables e below (B.U.setTop { g with pc := g.pc + 3, stack := v.toList ++ rest }) target → Steps p.tables e below (T.setTop g) target := by
  obtain ⟨y1, hn⟩ := Cond.code_named hcode
  obtain ⟨my, cy, hmy, -, -, -, -, -, -, hsig⟩ := Cond.code_spec hn hcode
  obtain ⟨ky, hky, hky2⟩ := className_of_methodNamed hn
  have hst : my.isStatic = true := Cond.static_spec hn hmy hstat
  have hin : ky.init = .initialized := Cond.initialized_spec (findClass_of_methodNamed hn) hky hinit
  subst hyx
  subst hg
  obtain ⟨ci, cn, v1, v2, kn, nm, ds, a1, b1, z1, c1, n1, b2, z2, W2⟩ := su_tab X.admits X.warmed hown hlink hsame hn
  obtain ⟨k2, hk2, he2⟩ := W2.alike.2.2 _ _ hky
  have hm2 : v2.method? y1 = some my := by rw [W2.alike.method?]; exact hmy
  have hn2 : signaturePolymorphic k2 my = false := signaturePolymorphic_of_name (by rw [he2]; show ky.name ≠ _ ∧ ky.name ≠ _; rw [hky2]; exact hy) my
  have hin2 : k2.init = .initialized := by rw [he2]; exact hin
  have Y := X.noted W2
  obtain ⟨v, B, Z, hpost, go⟩ := hK g.method meth c ⟨T.setVm v2, locs, cells, slots⟩ { g with stack := rest } (.invokestatic index) y1 argsL.toArray Y rfl hsize hdg hW (Y.named hn) (hpre v2 W2)
  refine ⟨v, v2, B, W2, Z, hpost, fun target h => ?_⟩
  have hp : e.platform.polymorphicOnlyByInvokevirtual = true := by rw [X.admits.platform]
  jvm_step X.here [hexec, hdg, su_wp (s := T) (f := g) X.here.top hp a1 b1 z1 c1 n1 b2 z2 hk2 hm2 hn2 hst hin2 (hlen _ hsig) hstack]
  intro acts
  rw [doInvoke_state]
  exact go.trans h
theorem su_run {p : Program} {l : Launch} {e : Env} {R : Room} {s : State} {m : MethodId} {args : Array Value} {below : List Frame} {meth : Method} {c : Code} {H : Heap} {locs : List Loc} {cells slots : Nat} {x y : MethodName} {bytes cc : ByteArray} {maxL nL mc ms n index : Nat} {ret : Option FieldType} {ws : List Cond} {rm : Room} {Pc : Array Value → State → Prop} {Qc : Array Value → State → Outcome → State → Prop} {free : Addr → Prop} {Ts : List Cond} {own owner : String} {As rest : List Value} {g : JFrame}
    (S : CallFix p m c cc nL s args Ts own) (hM : Met l y ws rm Pc Qc mc ms free) (cw : (rm.cells = mc ∧ rm.slots = ms ∧ rm.frames + 1 ≤ R.frames ∧ 8 + (maxL + 11) + rm.locals ≤ R.locals ∧ (∀ w ∈ ws, ∀ (a' : Array Value) (U : State), s.WarmedH U.vm → w.before a' U = true) ∧ Cond.code y bytes maxL ret ∈ ws))
    (hl : (Cond.methodLink own index x).before args s = true) (hsame : (Cond.sameMethod x.cls owner x.name x.desc).before args s = true) (hyx : y = ⟨owner, x.name, x.desc⟩) (hst : (Cond.static y).before args s = true) (hini : (Cond.initialized y.cls).before args s = true) (hcode : (Cond.code y bytes maxL ret).before args s = true) (hy : owner ≠ "java/lang/invoke/MethodHandle" ∧ owner ≠ "java/lang/invoke/VarHandle") (hlen : ∀ sig, parseMethodDescriptor y.desc = some sig → n = sig.parameters.length) (hp : PreS s H Pc As)
    (hg : g.method = m) (hn : As.length = n) (hsize : g.locals.size = nL) (hstack : g.stack = As.reverse ++ rest) (hW : 2 * g.monitorRoom + (rest.map fun v => v.category).sum ≤ 8) (hdg : decode cc g.pc = .ok (.invokestatic index, 3)) (hf : cells + mc ≤ R.cells ∧ slots + ms ≤ R.slots) :
    va_Run p l e R s m args below meth c H locs cells slots mc ms g rest (Qc As.toArray) (free) := by
  obtain ⟨hrc, hrs, hfr, hlo, hws, hcw⟩ := cw
  have hK : Back l R p e below s args y 3 8 (PreOf R mc ms Pc) (PostOf Qc mc ms free) := back_of (bytes := bytes) (maxL := maxL) (ret := ret) hM hp.1 hrc hrs hfr hlo hws hcw (fun a' U hW => word_at hW (Or.inl (by first | rfl | simp [Cond.onTables, Cond.keeps, Cond.steady])) hini)
  obtain ⟨hx, hb, hml, ho, -⟩ := S
  have hPc := hp.2
  intro T hT X
  obtain ⟨v, vm₁, ⟨U', l2, c2, s2⟩, hW₁, X', ⟨g', mk, t, L, e1, e2, hq, h1, hL, h2, h3⟩, st⟩ := su_call X hx (bytes := bytes) (maxL := maxL) (ret := ret) ho hl hsame hyx hst hini hcode hy hK hg (hsize.trans hml.symm) (argsL := As) (rest := rest) (fun sig h => hn.trans (hlen sig h)) hstack hW (by rw [hb]; exact hdg)
    (fun vm₁ hW₁ => ⟨hf.1, hf.2, hPc (T.setVm vm₁) hT hW₁⟩)
  dsimp only [Pt.U, Pt.locs, Pt.cells, Pt.slots] at X' e1 e2 h1 h2 h3 st
  subst h1; subst h2; subst h3
  exact ⟨v, (T.setVm vm₁).calling g' mk As.toArray, t, U', L, hT, X', hL, e1, e2, hq, st⟩
abbrev SUC (own owner : String) (idx : Nat) (x y : MethodName) (bytes : ByteArray) (maxL : Nat) (ret : Option FieldType) (n : Nat) : Prop :=
  Cond.methodLink own idx x ∈ tb ∧ Cond.sameMethod x.cls owner x.name x.desc ∈ tb ∧ Cond.static y ∈ tb ∧ Cond.initialized y.cls ∈ tb ∧ Cond.code y bytes maxL ret ∈ tb ∧ (y = ⟨owner, x.name, x.desc⟩ ∧ owner ≠ "java/lang/invoke/MethodHandle" ∧ owner ≠ "java/lang/invoke/VarHandle" ∧ (parseMethodDescriptor y.desc).map (fun d => d.parameters.length) = some n)
section GDU
variable {p : Program} {l : Launch} {e : Env} {R : Room} {s : State} {m : MethodId} {args : Array Value} {below : List Frame} {meth : Method} {c : Code} {kc ks : Nat} {Q : State → Prop} {t : TT} {D : va_G} {al : Int → Nat} {A : Nat → Prop}
variable {cc : ByteArray} {own : String} {nL pc : Nat} {ls ls' : List (Option Value)} {st : List Value} {M : Mem}
theorem g_callTI (X : Cx p s m args c R kc ks cc own nL t D al A) {x y : MethodName} {owner : String} {bytes : ByteArray} {maxL fr lo n idx : Nat} {As rest : List Value} {rt : FieldType} {post : Int → Mem → Prop} (hM : CI l y bytes maxL rt fr lo t D al As M post) (V : SUC own owner idx x y bytes maxL (some rt) n) (hn : As.length = n) (hlen : ls.length = nL) (hR : fr + 1 ≤ R.frames ∧ 8 + (maxL + 11) + lo ≤ R.locals) (hst : st = As.reverse ++ rest) (hcat : (rest.map fun v => v.category).sum ≤ 8) (hd : decode cc pc = .ok (.invokestatic idx, 3)) (k : ∀ (r : Int) (M' : Mem), post r M' → Gd p l e R s m args below meth c kc ks Q t D al A (pc + 3) ls (.int (iN r) :: rest) M') : Gd p l e R s m args below meth c kc ks Q t D al A pc ls st M := by
  intro H locs la hP hS hv
  have hPre : ∀ U : State, U.heap = H → s.WarmedH U.vm → RepS t D al M U := fun U hU hW => ⟨by show va_P _ _ _ U.heap; rw [hU]; exact hP, va_K.moved hW.alike X.2.2.2.2.2.2.1, ws_fA (X.2.2.2.2.2.2.2.1 M), nw_warm hW X.2.2.2.2.2.1⟩
  have hAf : ∀ q, fA al q → A q := fun q hq => fA_A (X.2.2.2.2.2.2.2.1 M) hq
  have hG : GoodIn tb (Cond.code y bytes maxL (some rt) :: tb) := tb_GI (tb_cons V.2.2.2.2.1 (fun _ h => h))
  have hlen2 : ∀ sig, parseMethodDescriptor y.desc = some sig → n = sig.parameters.length := fun sig h => by
    have h2 := V.2.2.2.2.2.2.2.2
    rw [h] at h2
    exact (Option.some.inj h2).symm
  refine va_calli (su_run (As := As) (rest := rest) (nL := nL) (n := n) (owner := owner) (bytes := bytes) (maxL := maxL) (ret := some rt) ⟨X.1, X.2.1, X.2.2.1, X.2.2.2.1, X.2.2.2.2.1⟩ hM ⟨rfl, rfl, hR.1, hR.2, pay_in X.2.2.2.2.1 hG, List.mem_cons_self⟩ (X.2.2.2.2.1 _ V.1) (X.2.2.2.2.1 _ V.2.1) V.2.2.2.2.2.1 (X.2.2.2.2.1 _ V.2.2.1) (X.2.2.2.2.1 _ V.2.2.2.1) (X.2.2.2.2.1 _ V.2.2.2.2.1) ⟨V.2.2.2.2.2.2.1, V.2.2.2.2.2.2.2.1⟩ hlen2 ⟨repS_blind, fun U hU hW => ⟨rfl, hPre U hU hW⟩⟩ rfl hn (by show la.size = nL; rw [hv.1, hlen]) hst (lv_room hcat) hd ⟨by have := X.2.2.2.2.2.2.2.2.1; omega, by have := X.2.2.2.2.2.2.2.2.2; omega⟩) hS (fun q _ h => hAf q h) hAf (fun r0 u tt H1 locs1 ht hvm hw hB hz1 hk1 hS1 => ?_)
  obtain ⟨hP1, -, -, -⟩ := hB
  rw [ht] at hP1
  obtain ⟨r2, M2⟩ := u
  have hr0 := hw.1
  dsimp only at hr0 hP1
  subst hr0
  exact k r2 M2 hw.2 H1 locs1 la hP1 hS1 hv
end GDU
theorem lk_RX1_41 : SUC "RedSkies$LampReader" "RedSkies$Reader" 41 ⟨"RedSkies$LampReader", "colourOf", "(I)I"⟩ yX7_colourOf cX7_colourOf 1 (some FieldType.int) 1 := ⟨wd_407, wd_408, wd_409, wd_69, wd_410, rfl, by decide +kernel, by decide +kernel, by decide +kernel⟩
theorem lk_RX1_30 : SUC "RedSkies$LampReader" "RedSkies$Reader" 30 ⟨"RedSkies$LampReader", "digitOf", "(I)I"⟩ yX7_digitOf cX7_digitOf 1 (some FieldType.int) 1 := ⟨wd_415, wd_416, wd_417, wd_69, wd_418, rfl, by decide +kernel, by decide +kernel, by decide +kernel⟩
theorem lk_RX3_29 : SUC "RedSkies$LawReader" "RedSkies$Reader" 29 ⟨"RedSkies$LawReader", "digitOf", "(I)I"⟩ yX7_digitOf cX7_digitOf 1 (some FieldType.int) 1 := ⟨wd_430, wd_431, wd_417, wd_69, wd_418, rfl, by decide +kernel, by decide +kernel, by decide +kernel⟩
theorem lk_RX4_45 : SUC "RedSkies$MeasureReader" "RedSkies$Reader" 45 ⟨"RedSkies$MeasureReader", "colourOf", "(I)I"⟩ yX7_colourOf cX7_colourOf 1 (some FieldType.int) 1 := ⟨wd_459, wd_460, wd_409, wd_69, wd_410, rfl, by decide +kernel, by decide +kernel, by decide +kernel⟩
theorem lk_RX4_35 : SUC "RedSkies$MeasureReader" "RedSkies$Reader" 35 ⟨"RedSkies$MeasureReader", "digitOf", "(I)I"⟩ yX7_digitOf cX7_digitOf 1 (some FieldType.int) 1 := ⟨wd_461, wd_462, wd_417, wd_69, wd_418, rfl, by decide +kernel, by decide +kernel, by decide +kernel⟩
