/-! The constructors' rows: constructors called. -/
section
variable {p : Program} {l : Launch} {e : Env} {R : Room} {s : State} {m : MethodId} {args : Array Value} {below : List Frame} {meth : Method} {c : Code} {Q : State → Prop} {t : TT} {D : va_G} {B n kc ks pc : Nat} {ls : List (Option Value)} {st : List Value} {M : Mem} {S : Sts} {cc : ByteArray} {own : String} {nL : Nat}
theorem gc_objI (X : Cc p s m args c cc own nL t D) {idx x : Nat} (h1 : Cond.methodLink own idx Lib.objectInit ∈ tb) (h2 : Cond.instanceMethod Lib.objectInit ∈ tb) (h3 : Cond.code Lib.objectInit ⟨#[0xb1]⟩ 1 none ∈ tb) (hlen : ls.length = nL) (hfr : 1 ≤ R.frames) (hlo : 12 ≤ R.locals) (hd : decode cc pc = .ok (.invokespecial idx, 3)) (kk : Gc p l e R s m args below meth c Q t D B n kc ks (pc + 3) ls [] M S) : Gc p l e R s m args below meth c Q t D B n kc ks pc ls [.ref x] M S := fun H locs la hP hz hS hv => by
  refine W.objInit X.1 X.2.1 X.2.2.2.1 (X.2.2.2.2.1 _ h1) (X.2.2.2.2.1 _ h2) (X.2.2.2.2.1 _ h3) (g := F0 m pc la [.ref x]) rfl (by rw [X.2.2.1]; show la.size = nL; rw [hv.1, hlen]) rfl hd hfr (by show 2 * 0 + 0 + 12 ≤ R.locals; omega) ?_
  exact kk H locs la hP hz hS hv
theorem gc_initL (X : Cc p s m args c cc own nL t D) {y : MethodName} {bytes : ByteArray} {maxL fr lo mc ms o n' idx : Nat} {M' : Mem} {S' : Sts} (hM : CC l y bytes maxL fr lo t D B o n n' M M' S S' mc ms) (h1 : Cond.code y bytes maxL none ∈ tb) (h2 : Cond.initialized y.cls ∈ tb) (h3 : Cond.methodLink own idx y ∈ tb) (h4 : Cond.instanceMethod y ∈ tb) (hy1 : y.name = "<init>")
    (hd3 : y.cls ≠ "java/lang/invoke/MethodHandle" ∧ y.cls ≠ "java/lang/invoke/VarHandle" ∧ (parseMethodDescriptor y.desc).map (fun d => d.parameters.length) = some 0) (hR : fr + 1 ≤ R.frames ∧ 8 + (maxL + 11) + lo ≤ R.locals) (hc : kc + mc ≤ R.cells ∧ ks + ms ≤ R.slots) (hlen : ls.length = nL) (hcat : (st.map fun v => v.category).sum ≤ 8) (hd : decode cc pc = .ok (.invokespecial idx, 3))
    (kk : Gc p l e R s m args below meth c Q t D B n' (kc + mc) (ks + ms) (pc + 3) ls st M' S') : Gc p l e R s m args below meth c Q t D B n kc ks pc ls (.ref (alB B (o : Int)) :: st) M S := by
  intro H locs la hP hz hS hv
  have hG : GoodIn tb (Cond.code y bytes maxL none :: tb) := tb_GI (tb_cons h1 (fun _ h => h))
  refine va_callv (va_runI (As := []) (rest := st) (nL := nL) ⟨X.1, X.2.1, X.2.2.1, X.2.2.2.1, X.2.2.2.2.1⟩ hM (cwI 0 X.2.2.2.2.1 hG rfl rfl rfl (X.2.2.2.2.1 _ h2) (X.2.2.2.2.1 _ h3) (X.2.2.2.2.1 _ h4) hy1 hd3 hR) ⟨repC_blind, fun U hU hW => ⟨rfl, by rw [hU]; exact hz, by rw [hU]; exact hP, va_K.moved hW.alike X.2.2.2.2.2.2.1, nw_warm hW X.2.2.2.2.2.1, mzO.moved hW.alike X.2.2.2.2.2.2.2⟩⟩ rfl rfl (by show la.size = nL; rw [hv.1, hlen]) rfl (lv_room hcat) hd hc) hS (fun q _ h => h) (fun q h => h) (fun u tt H1 locs1 ht hvm hw hB hz1 hk1 hS1 => ?_)
  obtain ⟨z1, p1, -, -⟩ := hB
  rw [ht] at z1 p1
  exact kk H1 locs1 la p1 z1 hS1 hv
theorem gc_initN (X : Cc p s m args c cc own nL t D) {y : MethodName} {bytes : ByteArray} {maxL fr lo mc ms o n' idx : Nat} {M' : Mem} {S' : Sts} {host : String} (hM : CC l y bytes maxL fr lo t D B o n n' M M' S S' mc ms) (h1 : Cond.code y bytes maxL none ∈ tb) (h2 : Cond.initialized y.cls ∈ tb) (h3 : Cond.methodLinkNest own idx y host ∈ nw) (h4 : Cond.instanceMethod y ∈ tb) (hy1 : y.name = "<init>")
    (hd3 : y.cls ≠ "java/lang/invoke/MethodHandle" ∧ y.cls ≠ "java/lang/invoke/VarHandle" ∧ (parseMethodDescriptor y.desc).map (fun d => d.parameters.length) = some 0) (hR : fr + 1 ≤ R.frames ∧ 8 + (maxL + 11) + lo ≤ R.locals) (hc : kc + mc ≤ R.cells ∧ ks + ms ≤ R.slots) (hlen : ls.length = nL) (hcat : (st.map fun v => v.category).sum ≤ 8) (hd : decode cc pc = .ok (.invokespecial idx, 3))
    (kk : Gc p l e R s m args below meth c Q t D B n' (kc + mc) (ks + ms) (pc + 3) ls st M' S') : Gc p l e R s m args below meth c Q t D B n kc ks pc ls (.ref (alB B (o : Int)) :: st) M S := by
  intro H locs la hP hz hS hv
  have hG : GoodIn tb (Cond.code y bytes maxL none :: tb) := tb_GI (tb_cons h1 (fun _ h => h))
  refine va_callv (va_runIN (As := []) (rest := st) (nL := nL) (host := host) ⟨X.1, X.2.1, X.2.2.1, X.2.2.2.1, X.2.2.2.2.1⟩ hM ⟨va_cnB 0 X.2.2.2.2.1 hG rfl rfl rfl (X.2.2.2.2.2.1 _ h3) (X.2.2.2.2.1 _ h2) hd3 hR, hy1, X.2.2.2.2.1 _ h4⟩ ⟨repC_blind, fun U hU hW => ⟨rfl, by rw [hU]; exact hz, by rw [hU]; exact hP, va_K.moved hW.alike X.2.2.2.2.2.2.1, nw_warm hW X.2.2.2.2.2.1, mzO.moved hW.alike X.2.2.2.2.2.2.2⟩⟩ rfl rfl (by show la.size = nL; rw [hv.1, hlen]) rfl (lv_room hcat) hd hc) hS (fun q _ h => h) (fun q h => h) (fun u tt H1 locs1 ht hvm hw hB hz1 hk1 hS1 => ?_)
  obtain ⟨z1, p1, -, -⟩ := hB
  rw [ht] at z1 p1
  exact kk H1 locs1 la p1 z1 hS1 hv
end

