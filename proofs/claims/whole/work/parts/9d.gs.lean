/-! The constructors: their contracts, the small rows. -/
def RepC (t : TT) (D : va_G) (B n : Nat) (M : Mem) (S : Sts) (U : State) : Prop := U.heap.size = B + n ∧ va_P D vwCl (wsG n t (alB B) M S) U.heap ∧ va_K D vwCl (tys t) U ∧ (∀ w ∈ nw, va_Nw w U) ∧ mzO U
theorem repC_blind {t : TT} {D : va_G} {B n : Nat} {M : Mem} {S : Sts} {av : List Value} : FrameBlind (va_Pc av (RepC t D B n M S)) := by
  intro a U g mk h
  obtain ⟨h0, hz, hP, hK, hN, hO⟩ := h
  exact ⟨h0, hz, hP, va_K.moved (u := U) (U := U.calling g mk a) (Vm.Alike.refl U.vm) hK, nw_same (s := U) (U := U.calling g mk a) rfl hN, mzO.moved (s := U) (U := U.calling g mk a) (Vm.Alike.refl U.vm) hO⟩
def QC (t : TT) (D : va_G) (B n : Nat) (M : Mem) (S : Sts) : Array Value → State → Outcome → State → Prop := va_Qv (S := Unit) (fun _ => True) (fun _ U => RepC t D B n M S U) (fun q => B ≤ q)
abbrev rmC (fr lo mc ms : Nat) : Room := { frames := fr, cells := mc, slots := ms, locals := lo }
abbrev CC (l : Launch) (y : MethodName) (cc : ByteArray) (nL fr lo : Nat) (t : TT) (D : va_G) (B o n n' : Nat) (M M' : Mem) (S S' : Sts) (mc ms : Nat) : Prop := Met l y (Cond.code y cc nL none :: tb) (rmC fr lo mc ms) (va_Pc [.ref (alB B (o : Int))] (RepC t D B n M S)) (QC t D B n' M' S') mc ms (fun q => B ≤ q)
theorem CC.of {l : Launch} {y : MethodName} {cc : ByteArray} {nL fr lo : Nat} {t : TT} {D : va_G} {B o n n' : Nat} {M M' : Mem} {S S' : Sts} {mc ms : Nat} {own : String} {ls0 : List (Option Value)} (hy : plainName y.cls = true) (ho : y.cls = own) (hi : y.name = "<init>") (hlen : (lg_sl [Value.ref (alB B (o : Int))]).length ≤ nL) (hent : entry [Value.ref (alB B (o : Int))] nL = ls0)
    (body : ∀ (p : Program) (e : Env) (s : State) (m : MethodId) (args : Array Value) (below : List Frame) (meth : Method) (c : Code), Cc p s m args c cc own nL t D → s.heap.size = B + n → meth.name = "<init>" → meth.sig.returnType = none → meth.locks = false → Gc p l e (rmC fr lo mc ms) s m args below meth c (MQ below (QC t D B n' M' S') args s mc ms (fun q => B ≤ q)) t D B n 0 0 0 ls0 [] M S) : CC l y cc nL fr lo t D B o n n' M M' S S' mc ms := by
  refine Met.ofW (cc := cc) (maxL := nL) (ret := none) hy rfl ?_
  intro p e s m args below meth c s₁ Bd hml hv
  obtain ⟨rfl, hz, hP, hK, hN, hO⟩ := hv
  have hts : ∀ w ∈ tb, w.before [Value.ref (alB B (o : Int))].toArray s = true := fun w hw => atoms_spec Bd.pre w (List.mem_cons_of_mem _ hw)
  have hown : s.vm.findClass own = some m.cls := ho ▸ findClass_of_methodNamed Bd.named
  have hin : meth.name = "<init>" := (name_of_methodNamed Bd.named Bd.method).1.trans hi
  have h := body p e s m [Value.ref (alB B (o : Int))].toArray below meth c ⟨Bd.exec, Bd.bytes, hml, hown, hts, hN, hK, hO⟩ hz hin Bd.returns Bd.notSynchronized
  rw [lg_entry_eq]
  exact h s.heap [] _ hP hz va_S.rf (hent ▸ entry_lvp _ hlen)
section
variable {p : Program} {l : Launch} {e : Env} {R : Room} {s : State} {m : MethodId} {args : Array Value} {below : List Frame} {meth : Method} {c : Code} {Q : State → Prop} {t : TT} {D : va_G} {B n kc ks pc : Nat} {ls : List (Option Value)} {st : List Value} {M : Mem} {S : Sts} {cc : ByteArray} {own : String} {nL : Nat}
theorem gc_ret (X : Cc p s m args c cc own nL t D) (hr : meth.sig.returnType = none) (hlocks : meth.locks = false) (hd : decode cc pc = .ok (.return_, 1)) : Gc p l e R s m args below meth c (MQ below (QC t D B n M S) args s kc ks (fun q => B ≤ q)) t D B n kc ks pc ls [] M S := fun H locs la hP hz hS hv =>
  W.vret X.1 X.2.1 hr (fun t' ht hW => ⟨⟨(), rfl, trivial, by show t'.heap.size = _; rw [ht]; exact hz, by show va_P _ _ _ t'.heap; rw [ht]; exact hP, va_K.moved hW.alike X.2.2.2.2.2.2.1, nw_warm hW X.2.2.2.2.2.1, mzO.moved hW.alike X.2.2.2.2.2.2.2⟩, hS.F ht⟩) hS.2.2 hd hlocks
theorem gc_aload (X : Cc p s m args c cc own nL t D) {k : Fin 4} {i : Nat} {x : Nat} (hd : decode cc pc = .ok (.aload_n k, 1)) (hi : (k : Nat) = i) (hl : ls[i]? = some (some (.ref x))) (kk : Gc p l e R s m args below meth c Q t D B n kc ks (pc + 1) ls (.ref x :: st) M S) : Gc p l e R s m args below meth c Q t D B n kc ks pc ls st M S := fun H locs la hP hz hS hv => lv_aload_n X.1 X.2.1 hd hi (hv.2.2 i _ hl) (kk H locs la hP hz hS hv)
theorem gc_dup (X : Cc p s m args c cc own nL t D) {x : Nat} (hd : decode cc pc = .ok (.dup, 1)) (kk : Gc p l e R s m args below meth c Q t D B n kc ks (pc + 1) ls (.ref x :: .ref x :: st) M S) : Gc p l e R s m args below meth c Q t D B n kc ks pc ls (.ref x :: st) M S := fun H locs la hP hz hS hv => lv_dup X.1 X.2.1 hd rfl (kk H locs la hP hz hS hv)
theorem gc_iconst (X : Cc p s m args c cc own nL t D) {a : Int} (hd : decode cc pc = .ok (.iconst a, 1)) (kk : Gc p l e R s m args below meth c Q t D B n kc ks (pc + 1) ls (.int (iN a) :: st) M S) : Gc p l e R s m args below meth c Q t D B n kc ks pc ls st M S := fun H locs la hP hz hS hv => lv_iconst X.1 X.2.1 hd rfl (kk H locs la hP hz hS hv)
theorem gc_bipush (X : Cc p s m args c cc own nL t D) {a : Int} (hd : decode cc pc = .ok (.bipush a, 2)) (h : (Int8.ofInt a).toInt32 = iN a) (kk : Gc p l e R s m args below meth c Q t D B n kc ks (pc + 2) ls (.int (iN a) :: st) M S) : Gc p l e R s m args below meth c Q t D B n kc ks pc ls st M S := fun H locs la hP hz hS hv => lv_bipush X.1 X.2.1 hd h (kk H locs la hP hz hS hv)
theorem gc_sipush (X : Cc p s m args c cc own nL t D) {a : Int} (hd : decode cc pc = .ok (.sipush a, 3)) (h : (Int16.ofInt a).toInt32 = iN a) (kk : Gc p l e R s m args below meth c Q t D B n kc ks (pc + 3) ls (.int (iN a) :: st) M S) : Gc p l e R s m args below meth c Q t D B n kc ks pc ls st M S := fun H locs la hP hz hS hv => lv_sipush X.1 X.2.1 hd h (kk H locs la hP hz hS hv)
end

