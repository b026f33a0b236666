/-! The constructors' rows: what is made. -/
abbrev Cc (p : Program) (s : State) (m : MethodId) (args : Array Value) (c : Code) (cc : ByteArray) (own : String) (nL : Nat) (t : TT) (D : va_G) : Prop :=
  p.tables.exec = Jvm.exec ∧ c.code = cc ∧ c.maxLocals = nL ∧ s.vm.findClass own = some m.cls ∧ (∀ w ∈ tb, w.before args s = true) ∧ (∀ w ∈ nw, va_Nw w s) ∧ va_K D vwCl (tys t) s ∧ mzO s
def Gc (p : Program) (l : Launch) (e : Env) (R : Room) (s : State) (m : MethodId) (args : Array Value) (below : List Frame) (meth : Method) (c : Code) (Q : State → Prop) (t : TT) (D : va_G) (B : Nat) (n kc ks pc : Nat) (ls : List (Option Value)) (st : List Value) (M : Mem) (S : Sts) : Prop :=
  ∀ (H : Heap) (locs : List Loc) (la : Array Slot), va_P D vwCl (wsG n t (alB B) M S) H → H.size = B + n → va_S (fun q => B ≤ q) s.heap H locs → lvp la ls → W p l e R s m args below meth c H locs kc ks Q (F0 m pc la st)
theorem gc_P {t : TT} {D : va_G} {B n : Nat} {M : Mem} {S : Sts} {H H1 : Heap} (hP : va_P D vwCl (wsG n t (alB B) M S) H) (hz : H.size = B + n) (ho : ∀ q, q < H.size → H1[q]? = H[q]?) (hn : va_at D vwCl (alB B (n : Int), contS t (alB B) M S (n : Int)) H1) : va_P D vwCl (wsG (n + 1) t (alB B) M S) H1 := by
  rw [wsG_s]
  refine (hP.kept (fun k q hk => ?_)).app (fun k q hk => ?_)
  · have hl := (List.getElem?_eq_some_iff.mp hk).1
    rw [wsG_len] at hl
    rw [wsG_at t (alB B) M S hl] at hk
    cases hk
    exact ho _ (by unfold alB; rw [hz]; omega)
  · have hl : k < 1 := (List.getElem?_eq_some_iff.mp hk).1
    rw [show k = 0 by omega] at hk
    cases hk
    exact hn
theorem gc_S {B : Nat} {H0 H H1 : Heap} {locs : List Loc} (hS : va_S (fun q => B ≤ q) H0 H locs) (hz : H.size ≤ H1.size) (ho : ∀ q, q < H.size → H1[q]? = H[q]?) : va_S (fun q => B ≤ q) H0 H1 locs :=
  ⟨Nat.le_trans hS.1 hz, fun q h1 h2 => (ho q (Nat.lt_of_lt_of_le h1 hS.1)).trans (hS.2.1 q h1 h2), hS.2.2⟩
section
variable {p : Program} {l : Launch} {e : Env} {R : Room} {s : State} {m : MethodId} {args : Array Value} {below : List Frame} {meth : Method} {c : Code} {Q : State → Prop} {t : TT} {D : va_G} {B n kc ks pc : Nat} {ls : List (Option Value)} {st : List Value} {M : Mem} {S : Sts} {cc : ByteArray} {own : String} {nL : Nat}
/-- an array made, of ints, booleans, longs -/
theorem gc_new0 (X : Cc p s m args c cc own nL t D) {atype : ArrayType} {ty : FieldType} (hty : newarray.typeOf atype = ty) (hw : Cond.arrayClass ty ∈ tb) {a : Int} {N : Nat} (ha : 0 ≤ a ∧ a ≤ 100000) (hN : a.toNat = N) (hb : componentBytes ty ≤ 8)
    (hat : ∀ (cA : ClassId) (H1 : Heap), s.vm.findClass ("[" ++ ty.toString) = some cA → H1[B + n]? = some (arrV cA N (fun _ => defaultValue ty)) → va_at D vwCl (alB B (n : Int), contS t (alB B) M S (n : Int)) H1)
    (hc : kc + 1 ≤ R.cells) (hs : ks + N ≤ R.slots) (hd : decode cc pc = .ok (.newarray atype, 2)) (k : Gc p l e R s m args below meth c Q t D B (n + 1) (kc + 1) (ks + N) (pc + 2) ls (.ref (alB B (n : Int)) :: st) M S) : Gc p l e R s m args below meth c Q t D B n kc ks pc ls (.int (iN a) :: st) M S := by
  intro H locs la hP hz hS hv
  subst hty
  have hi : i32 a := ⟨by omega, by omega⟩
  refine va_newaK X.1 X.2.1 (X.2.2.2.2.1 _ hw) (g := F0 m pc la (.int (iN a) :: st)) rfl hd rfl (N := N) (by rw [show (0 : Int32) = iN 0 from rfl, iN_lt hi (by decide)]; omega) (by rw [iN_clamp ⟨ha.1, by omega⟩]; exact hN) ?_ hc hs rfl (fun H1 cA e1 z1 o1 hAr hNm => ?_)
  · have h1 : N ≤ 100000 := by omega
    have h2 := Nat.mul_le_mul h1 hb
    omega
  · rw [hz] at e1
    have hr : (Value.ref H.size) = .ref (alB B (n : Int)) := by unfold alB; rw [hz]; rfl
    rw [hr]
    exact k H1 locs la (gc_P hP hz o1 (hat cA H1 hNm e1)) (by rw [z1, hz]; omega) (gc_S hS (by omega) o1) hv
theorem gc_newi (X : Cc p s m args c cc own nL t D) {a : Int} {N : Nat} (ha : 0 ≤ a ∧ a ≤ 100000) (hN : a.toNat = N) (hk : kd (n : Int) = (1, N, [])) (hz : ∀ j : Nat, M (n : Int) (j : Int) = 0) (hw : Cond.arrayClass .int ∈ tb)
    (hc : kc + 1 ≤ R.cells) (hs : ks + N ≤ R.slots) (hd : decode cc pc = .ok (.newarray .int, 2)) (k : Gc p l e R s m args below meth c Q t D B (n + 1) (kc + 1) (ks + N) (pc + 2) ls (.ref (alB B (n : Int)) :: st) M S) : Gc p l e R s m args below meth c Q t D B n kc ks pc ls (.int (iN a) :: st) M S := by
  refine gc_new0 X (ty := .int) rfl hw ha hN (by decide) (fun cA H1 hf h1 => ?_) hc hs hd k
  have hc1 : s.vm.findClass "[I" = some t.1 := (X.2.2.2.2.2.2.1.2 0 (t.1, .int) rfl).2
  obtain rfl : cA = t.1 := Option.some.inj (hf.symm.trans hc1)
  have e : contS t (alB B) M S (n : Int) = .inl (t.1, N, .inl (fun j => iN (M (n : Int) (j : Int)))) := by
    unfold contS cont
    rw [hk]
    rfl
  rw [e]
  show H1[alB B (n : Int)]? = some (vp_cell t.1 (N, .inl (fun j => iN (M (n : Int) (j : Int)))))
  have e2 : (fun j : Nat => iN (M (n : Int) (j : Int))) = fun _ => 0 := funext fun j => by rw [hz]; rfl
  rw [e2]
  exact h1
theorem gc_newz (X : Cc p s m args c cc own nL t D) {a : Int} {N : Nat} (ha : 0 ≤ a ∧ a ≤ 100000) (hN : a.toNat = N) (hk : kd (n : Int) = (2, N, [])) (hz : ∀ j : Nat, M (n : Int) (j : Int) = 0) (hw : Cond.arrayClass .boolean ∈ tb)
    (hc : kc + 1 ≤ R.cells) (hs : ks + N ≤ R.slots) (hd : decode cc pc = .ok (.newarray .boolean, 2)) (k : Gc p l e R s m args below meth c Q t D B (n + 1) (kc + 1) (ks + N) (pc + 2) ls (.ref (alB B (n : Int)) :: st) M S) : Gc p l e R s m args below meth c Q t D B n kc ks pc ls (.int (iN a) :: st) M S := by
  refine gc_new0 X (ty := .boolean) rfl hw ha hN (by decide) (fun cA H1 hf h1 => ?_) hc hs hd k
  have hc1 : s.vm.findClass "[Z" = some t.2.2.1 := (X.2.2.2.2.2.2.1.2 2 (t.2.2.1, .boolean) rfl).2
  obtain rfl : cA = t.2.2.1 := Option.some.inj (hf.symm.trans hc1)
  have e : contS t (alB B) M S (n : Int) = .inl (t.2.2.1, N, .inl (fun j => iN (M (n : Int) (j : Int)))) := by
    unfold contS cont
    rw [hk]
    rfl
  rw [e]
  show H1[alB B (n : Int)]? = some (vp_cell t.2.2.1 (N, .inl (fun j => iN (M (n : Int) (j : Int)))))
  have e2 : (fun j : Nat => iN (M (n : Int) (j : Int))) = fun _ => 0 := funext fun j => by rw [hz]; rfl
  rw [e2]
  exact h1
theorem gc_newj (X : Cc p s m args c cc own nL t D) {a : Int} {N : Nat} (ha : 0 ≤ a ∧ a ≤ 100000) (hN : a.toNat = N) (hk : kd (n : Int) = (3, N, [])) (hz : ∀ j : Nat, M (n : Int) (j : Int) = 0) (hw : Cond.arrayClass .long ∈ tb)
    (hc : kc + 1 ≤ R.cells) (hs : ks + N ≤ R.slots) (hd : decode cc pc = .ok (.newarray .long, 2)) (k : Gc p l e R s m args below meth c Q t D B (n + 1) (kc + 1) (ks + N) (pc + 2) ls (.ref (alB B (n : Int)) :: st) M S) : Gc p l e R s m args below meth c Q t D B n kc ks pc ls (.int (iN a) :: st) M S := by
  refine gc_new0 X (ty := .long) rfl hw ha hN (by decide) (fun cA H1 hf h1 => ?_) hc hs hd k
  have hc1 : s.vm.findClass "[J" = some t.2.1 := (X.2.2.2.2.2.2.1.2 1 (t.2.1, .long) rfl).2
  obtain rfl : cA = t.2.1 := Option.some.inj (hf.symm.trans hc1)
  have e : contS t (alB B) M S (n : Int) = .inl (t.2.1, N, .inr (.inl (fun j => jN (M (n : Int) (j : Int))))) := by
    unfold contS cont
    rw [hk]
    rfl
  rw [e]
  show H1[alB B (n : Int)]? = some (vp_cell t.2.1 (N, .inr (.inl (fun j => jN (M (n : Int) (j : Int))))))
  have e2 : (fun j : Nat => jN (M (n : Int) (j : Int))) = fun _ => 0 := funext fun j => by rw [hz]; rfl
  rw [e2]
  exact h1
end

