abbrev i32 (a : Int) : Prop := -2147483648 ≤ a ∧ a ≤ 2147483647
abbrev i64 (a : Int) : Prop := -9223372036854775808 ≤ a ∧ a ≤ 9223372036854775807
theorem iN_toInt {a : Int} (h : i32 a) : (iN a).toInt = a := Int32.toInt_ofInt_of_le (by omega) (by omega)
theorem jN_toInt {a : Int} (h : i64 a) : (jN a).toInt = a := Int64.toInt_ofInt_of_le (by omega) (by omega)
theorem iN_lt {a b : Int} (ha : i32 a) (hb : i32 b) : iN a < iN b ↔ a < b := by rw [Int32.lt_iff_toInt_lt, iN_toInt ha, iN_toInt hb]
theorem iN_le {a b : Int} (ha : i32 a) (hb : i32 b) : iN a ≤ iN b ↔ a ≤ b := by rw [Int32.le_iff_toInt_le, iN_toInt ha, iN_toInt hb]
theorem iN_eq {a b : Int} (ha : i32 a) (hb : i32 b) : iN a = iN b ↔ a = b := by rw [← Int32.toInt_inj, iN_toInt ha, iN_toInt hb]
theorem jN_lt {a b : Int} (ha : i64 a) (hb : i64 b) : jN a < jN b ↔ a < b := by rw [Int64.lt_iff_toInt_lt, jN_toInt ha, jN_toInt hb]
theorem jN_eq {a b : Int} (ha : i64 a) (hb : i64 b) : jN a = jN b ↔ a = b := by rw [← Int64.toInt_inj, jN_toInt ha, jN_toInt hb]
theorem iN_0 : iN 0 = 0 := rfl
theorem jN_0 : jN 0 = 0 := rfl
theorem iN_add (a b : Int) : iN (a + b) = iN a + iN b := Int32.ofInt_add a b
theorem iN_sub (a b : Int) : iN (a - b) = iN a - iN b := Int32.ofInt_sub a b
theorem iN_mul (a b : Int) : iN (a * b) = iN a * iN b := Int32.ofInt_mul a b
theorem jN_add (a b : Int) : jN (a + b) = jN a + jN b := Int64.ofInt_add a b
theorem jN_sub (a b : Int) : jN (a - b) = jN a - jN b := Int64.ofInt_sub a b
theorem jN_mul (a b : Int) : jN (a * b) = jN a * jN b := Int64.ofInt_mul a b
theorem iN_of (x : Int32) : iN x.toInt = x := Int32.ofInt_toInt x
theorem jN_of (x : Int64) : jN x.toInt = x := Int64.ofInt_toInt x
theorem i32_of (x : Int32) : i32 x.toInt := by
  have h1 := Int32.le_toInt x
  have h2 := Int32.toInt_lt x
  constructor <;> omega
theorem iN_div {a b : Int} (ha : 0 ≤ a ∧ a ≤ 2147483647) (hb : 0 < b ∧ b ≤ 2147483647) : iN (a / b) = iN a / iN b := by
  apply Int32.toInt_inj.mp
  have h1 : a / b ≤ a := Int.ediv_le_self b ha.1
  have h0 : 0 ≤ a / b := Int.ediv_nonneg ha.1 (by omega)
  rw [Int32.toInt_div, iN_toInt (a := a / b) (by constructor <;> omega), iN_toInt (a := a) (by constructor <;> omega), iN_toInt (a := b) (by constructor <;> omega), Int.tdiv_eq_ediv_of_nonneg ha.1]
  exact (Int.bmod_eq_of_le (by omega) (by omega)).symm
theorem jN_div {a b : Int} (ha : 0 ≤ a ∧ a ≤ 9223372036854775807) (hb : 0 < b ∧ b ≤ 9223372036854775807) : jN (a / b) = jN a / jN b := by
  apply Int64.toInt_inj.mp
  have h1 : a / b ≤ a := Int.ediv_le_self b ha.1
  have h0 : 0 ≤ a / b := Int.ediv_nonneg ha.1 (by omega)
  rw [Int64.toInt_div, jN_toInt (a := a / b) (by constructor <;> omega), jN_toInt (a := a) (by constructor <;> omega), jN_toInt (a := b) (by constructor <;> omega), Int.tdiv_eq_ediv_of_nonneg ha.1]
  exact (Int.bmod_eq_of_le (by omega) (by omega)).symm
theorem iN_rem {a b : Int} (ha : 0 ≤ a ∧ a ≤ 2147483647) (hb : 0 < b ∧ b ≤ 2147483647) : iN (a % b) = iN a - iN a / iN b * iN b := by
  rw [← iN_div ha hb, ← iN_mul, ← iN_sub]
  congr 1
  have h := Int.emod_def a b
  rw [h, Int.mul_comm]
theorem jN_rem {a b : Int} (ha : 0 ≤ a ∧ a ≤ 9223372036854775807) (hb : 0 < b ∧ b ≤ 9223372036854775807) : jN (a % b) = jN a - jN a / jN b * jN b := by
  rw [← jN_div ha hb, ← jN_mul, ← jN_sub]
  congr 1
  have h := Int.emod_def a b
  rw [h, Int.mul_comm]
theorem iN_i2l {a : Int} (h : i32 a) : (iN a).toInt64 = jN a := by
  apply Int64.toInt_inj.mp
  rw [jN_toInt (by constructor <;> omega)]
  exact (Int32.toInt_toInt64 _).trans (iN_toInt h)
theorem jN_l2i (a : Int) : (jN a).toInt32 = iN a := Int64.toInt32_ofInt
theorem iN_ne0 {b : Int} (h : b ≠ 0) (hb : i32 b) : ¬ iN b = 0 := fun q => h ((iN_eq (b := 0) hb (by decide)).mp q)
theorem jN_ne0 {b : Int} (h : b ≠ 0) (hb : i64 b) : ¬ jN b = 0 := fun q => h ((jN_eq (b := 0) hb (by decide)).mp q)
theorem iN_clamp {a : Int} (h : 0 ≤ a ∧ a ≤ 2147483647) : (iN a).toNatClampNeg = a.toNat := by
  show (iN a).toInt.toNat = _
  rw [iN_toInt (by constructor <;> omega)]
theorem iN_in {a : Int} {n : Nat} (h0 : 0 ≤ a) (h1 : a < n) (hn : n < 2147483648) : vp_in (iN a) n := by
  rw [vp_in_iff, iN_toInt (by constructor <;> omega)]
  exact ⟨h0, h1⟩
/-- what bits give, as numbers: no condition on the operands -/
def and32 (a b : Int) : Int := (iN a &&& iN b).toInt
def or32 (a b : Int) : Int := (iN a ||| iN b).toInt
def xor32 (a b : Int) : Int := (iN a ^^^ iN b).toInt
def shl32 (a b : Int) : Int := (iN a <<< (iN b &&& 31)).toInt
def shr32 (a b : Int) : Int := (iN a >>> (iN b &&& 31)).toInt
def ushr32 (a b : Int) : Int := ((iN a).toUInt32 >>> ((iN b).toUInt32 &&& Int32.toUInt32 31)).toInt32.toInt
def and64 (a b : Int) : Int := (jN a &&& jN b).toInt
def or64 (a b : Int) : Int := (jN a ||| jN b).toInt
def shl64 (a b : Int) : Int := (jN a <<< ((iN b).toInt64 &&& 63)).toInt
def ushr64 (a b : Int) : Int := ((jN a).toUInt64 >>> ((iN b).toInt64.toUInt64 &&& Int64.toUInt64 63)).toInt64.toInt
abbrev Cx (p : Program) (s : State) (m : MethodId) (args : Array Value) (c : Code) (R : Room) (kc ks : Nat) (cc : ByteArray) (own : String) (nL : Nat) (t : TT) (D : va_G) (al : Int → Nat) (A : Nat → Prop) : Prop :=
  p.tables.exec = Jvm.exec ∧ c.code = cc ∧ c.maxLocals = nL ∧ s.vm.findClass own = some m.cls ∧ (∀ w ∈ tb, w.before args s = true) ∧ (∀ w ∈ nw, va_Nw w s) ∧ va_K D vwCl (tys t) s ∧ (∀ M, va_D A (ws t al M)) ∧ kc ≤ R.cells ∧ ks ≤ R.slots
/-- the walk at a place, with these locals, this stack, these numbers -/
def Gd (p : Program) (l : Launch) (e : Env) (R : Room) (s : State) (m : MethodId) (args : Array Value) (below : List Frame) (meth : Method) (c : Code) (kc ks : Nat) (Q : State → Prop) (t : TT) (D : va_G) (al : Int → Nat) (A : Nat → Prop) (pc : Nat) (ls : List (Option Value)) (st : List Value) (M : Mem) : Prop :=
  ∀ (H : Heap) (locs : List Loc) (la : Array Slot), va_P D vwCl (ws t al M) H → va_S A s.heap H locs → lvp la ls → W p l e R s m args below meth c H locs kc ks Q (F0 m pc la st)
section GD
variable {p : Program} {l : Launch} {e : Env} {R : Room} {s : State} {m : MethodId} {args : Array Value} {below : List Frame} {meth : Method} {c : Code} {kc ks : Nat} {Q : State → Prop} {t : TT} {D : va_G} {al : Int → Nat} {A : Nat → Prop}
variable {cc : ByteArray} {own : String} {nL pc : Nat} {ls ls' : List (Option Value)} {st : List Value} {M : Mem}
theorem g_iconst (X : Cx p s m args c R kc ks cc own nL t D al A) {n : Int} (hd : decode cc pc = .ok (.iconst n, 1)) (k : Gd p l e R s m args below meth c kc ks Q t D al A (pc + 1) ls (.int (iN n) :: st) M) : Gd p l e R s m args below meth c kc ks Q t D al A pc ls st M := fun H locs la hP hS hv => lv_iconst X.1 X.2.1 hd rfl (k H locs la hP hS hv)
theorem g_bipush (X : Cx p s m args c R kc ks cc own nL t D al A) {n : Int} (hd : decode cc pc = .ok (.bipush n, 2)) (h : (Int8.ofInt n).toInt32 = iN n) (k : Gd p l e R s m args below meth c kc ks Q t D al A (pc + 2) ls (.int (iN n) :: st) M) : Gd p l e R s m args below meth c kc ks Q t D al A pc ls st M := fun H locs la hP hS hv => lv_bipush X.1 X.2.1 hd h (k H locs la hP hS hv)
theorem g_sipush (X : Cx p s m args c R kc ks cc own nL t D al A) {n : Int} (hd : decode cc pc = .ok (.sipush n, 3)) (h : (Int16.ofInt n).toInt32 = iN n) (k : Gd p l e R s m args below meth c kc ks Q t D al A (pc + 3) ls (.int (iN n) :: st) M) : Gd p l e R s m args below meth c kc ks Q t D al A pc ls st M := fun H locs la hP hS hv => lv_sipush X.1 X.2.1 hd h (k H locs la hP hS hv)
theorem g_lconst (X : Cx p s m args c R kc ks cc own nL t D al A) {n : Fin 2} {v : Int} (hd : decode cc pc = .ok (.lconst n, 1)) (h : Int64.ofNat n = jN v) (k : Gd p l e R s m args below meth c kc ks Q t D al A (pc + 1) ls (.long (jN v) :: st) M) : Gd p l e R s m args below meth c kc ks Q t D al A pc ls st M := fun H locs la hP hS hv => lv_lconst X.1 X.2.1 hd h (k H locs la hP hS hv)
theorem g_ldc (X : Cx p s m args c R kc ks cc own nL t D al A) {index : Nat} {v : Int32} {n : Int} (hw : Cond.constant own index v ∈ tb) (h : v = iN n) (hd : decode cc pc = .ok (.ldc index, 2)) (k : Gd p l e R s m args below meth c kc ks Q t D al A (pc + 2) ls (.int (iN n) :: st) M) : Gd p l e R s m args below meth c kc ks Q t D al A pc ls st M := fun H locs la hP hS hv => lv_ldc X.1 X.2.1 X.2.2.2.1 (h ▸ X.2.2.2.2.1 _ hw) hd (k H locs la hP hS hv)
theorem g_ldcw (X : Cx p s m args c R kc ks cc own nL t D al A) {index : Nat} {v : Int32} {n : Int} (hw : Cond.constant own index v ∈ tb) (h : v = iN n) (hd : decode cc pc = .ok (.ldc_w index, 3)) (k : Gd p l e R s m args below meth c kc ks Q t D al A (pc + 3) ls (.int (iN n) :: st) M) : Gd p l e R s m args below meth c kc ks Q t D al A pc ls st M := fun H locs la hP hS hv => lv_ldcw X.1 X.2.1 X.2.2.2.1 (h ▸ X.2.2.2.2.1 _ hw) hd (k H locs la hP hS hv)
theorem g_ldc2 (X : Cx p s m args c R kc ks cc own nL t D al A) {index : Nat} {v : Int64} {n : Int} (hw : Cond.constantLong own index v ∈ tb) (h : v = jN n) (hd : decode cc pc = .ok (.ldc2_w index, 3)) (k : Gd p l e R s m args below meth c kc ks Q t D al A (pc + 3) ls (.long (jN n) :: st) M) : Gd p l e R s m args below meth c kc ks Q t D al A pc ls st M := fun H locs la hP hS hv => lv_ldc2 X.1 X.2.1 X.2.2.2.1 (h ▸ X.2.2.2.2.1 _ hw) hd (k H locs la hP hS hv)
theorem g_iload_n (X : Cx p s m args c R kc ks cc own nL t D al A) {k : Fin 4} {i : Nat} {x : Int32} (hd : decode cc pc = .ok (.iload_n k, 1)) (hi : (k : Nat) = i) (hl : ls[i]? = some (some (.int x))) (k : Gd p l e R s m args below meth c kc ks Q t D al A (pc + 1) ls (.int x :: st) M) : Gd p l e R s m args below meth c kc ks Q t D al A pc ls st M := fun H locs la hP hS hv => lv_iload_n X.1 X.2.1 hd hi (hv.2.2 i _ hl) (k H locs la hP hS hv)
theorem g_iload (X : Cx p s m args c R kc ks cc own nL t D al A) {i : Nat} {x : Int32} (hd : decode cc pc = .ok (.iload i, 2)) (hl : ls[i]? = some (some (.int x))) (k : Gd p l e R s m args below meth c kc ks Q t D al A (pc + 2) ls (.int x :: st) M) : Gd p l e R s m args below meth c kc ks Q t D al A pc ls st M := fun H locs la hP hS hv => lv_iload X.1 X.2.1 hd (hv.2.2 i _ hl) (k H locs la hP hS hv)
theorem g_lload_n (X : Cx p s m args c R kc ks cc own nL t D al A) {k : Fin 4} {i : Nat} {x : Int64} (hd : decode cc pc = .ok (.lload_n k, 1)) (hi : (k : Nat) = i) (hl : ls[i]? = some (some (.long x))) (k : Gd p l e R s m args below meth c kc ks Q t D al A (pc + 1) ls (.long x :: st) M) : Gd p l e R s m args below meth c kc ks Q t D al A pc ls st M := fun H locs la hP hS hv => lv_lload_n X.1 X.2.1 hd hi (hv.2.2 i _ hl) (k H locs la hP hS hv)
theorem g_lload (X : Cx p s m args c R kc ks cc own nL t D al A) {i : Nat} {x : Int64} (hd : decode cc pc = .ok (.lload i, 2)) (hl : ls[i]? = some (some (.long x))) (k : Gd p l e R s m args below meth c kc ks Q t D al A (pc + 2) ls (.long x :: st) M) : Gd p l e R s m args below meth c kc ks Q t D al A pc ls st M := fun H locs la hP hS hv => lv_lload X.1 X.2.1 hd (hv.2.2 i _ hl) (k H locs la hP hS hv)
theorem g_aload_n (X : Cx p s m args c R kc ks cc own nL t D al A) {k : Fin 4} {i : Nat} {x : Nat} (hd : decode cc pc = .ok (.aload_n k, 1)) (hi : (k : Nat) = i) (hl : ls[i]? = some (some (.ref x))) (k : Gd p l e R s m args below meth c kc ks Q t D al A (pc + 1) ls (.ref x :: st) M) : Gd p l e R s m args below meth c kc ks Q t D al A pc ls st M := fun H locs la hP hS hv => lv_aload_n X.1 X.2.1 hd hi (hv.2.2 i _ hl) (k H locs la hP hS hv)
theorem g_aload (X : Cx p s m args c R kc ks cc own nL t D al A) {i : Nat} {x : Nat} (hd : decode cc pc = .ok (.aload i, 2)) (hl : ls[i]? = some (some (.ref x))) (k : Gd p l e R s m args below meth c kc ks Q t D al A (pc + 2) ls (.ref x :: st) M) : Gd p l e R s m args below meth c kc ks Q t D al A pc ls st M := fun H locs la hP hS hv => lv_aload X.1 X.2.1 hd (hv.2.2 i _ hl) (k H locs la hP hS hv)
theorem g_istore_n0 (X : Cx p s m args c R kc ks cc own nL t D al A) {k : Fin 4} {i : Nat} {x : Int32} (hd : decode cc pc = .ok (.istore_n k, 1)) (hi : (k : Nat) = i) (hn : i < ls.length) (ho : lok ls i) (k : Gd p l e R s m args below meth c kc ks Q t D al A (pc + 1) (ls.set i (some (.int x))) st M) : Gd p l e R s m args below meth c kc ks Q t D al A pc ls (.int x :: st) M := by
  subst hi
  intro H locs la hP hS hv
  obtain ⟨la', e', hv'⟩ := lvp_set1 (v := .int x) hv hn rfl ho
  intro T hT Xs
  obtain ⟨tt, aa, bb⟩ := k H locs la' hP hS hv' T hT Xs
  refine ⟨tt, ?_, bb⟩
  jvm_step Xs.here [Xs.here.top, ↓top_set Xs.here.top, X.1, X.2.1, hd, e']
  exact aa
theorem g_istore0 (X : Cx p s m args c R kc ks cc own nL t D al A) {i : Nat} {x : Int32} (hd : decode cc pc = .ok (.istore i, 2)) (hn : i < ls.length) (ho : lok ls i) (k : Gd p l e R s m args below meth c kc ks Q t D al A (pc + 2) (ls.set i (some (.int x))) st M) : Gd p l e R s m args below meth c kc ks Q t D al A pc ls (.int x :: st) M := by
  intro H locs la hP hS hv
  obtain ⟨la', e', hv'⟩ := lvp_set1 (v := .int x) hv hn rfl ho
  intro T hT Xs
  obtain ⟨tt, aa, bb⟩ := k H locs la' hP hS hv' T hT Xs
  refine ⟨tt, ?_, bb⟩
  jvm_step Xs.here [Xs.here.top, ↓top_set Xs.here.top, X.1, X.2.1, hd, e']
  exact aa
theorem g_astore_n0 (X : Cx p s m args c R kc ks cc own nL t D al A) {k : Fin 4} {i : Nat} {x : Nat} (hd : decode cc pc = .ok (.astore_n k, 1)) (hi : (k : Nat) = i) (hn : i < ls.length) (ho : lok ls i) (k : Gd p l e R s m args below meth c kc ks Q t D al A (pc + 1) (ls.set i (some (.ref x))) st M) : Gd p l e R s m args below meth c kc ks Q t D al A pc ls (.ref x :: st) M := by
  subst hi
  intro H locs la hP hS hv
  obtain ⟨la', e', hv'⟩ := lvp_set1 (v := .ref x) hv hn rfl ho
  intro T hT Xs
  obtain ⟨tt, aa, bb⟩ := k H locs la' hP hS hv' T hT Xs
  refine ⟨tt, ?_, bb⟩
  jvm_step Xs.here [Xs.here.top, ↓top_set Xs.here.top, X.1, X.2.1, hd, e']
  exact ⟨rfl, aa⟩
theorem g_astore0 (X : Cx p s m args c R kc ks cc own nL t D al A) {i : Nat} {x : Nat} (hd : decode cc pc = .ok (.astore i, 2)) (hn : i < ls.length) (ho : lok ls i) (k : Gd p l e R s m args below meth c kc ks Q t D al A (pc + 2) (ls.set i (some (.ref x))) st M) : Gd p l e R s m args below meth c kc ks Q t D al A pc ls (.ref x :: st) M := by
  intro H locs la hP hS hv
  obtain ⟨la', e', hv'⟩ := lvp_set1 (v := .ref x) hv hn rfl ho
  intro T hT Xs
  obtain ⟨tt, aa, bb⟩ := k H locs la' hP hS hv' T hT Xs
  refine ⟨tt, ?_, bb⟩
  jvm_step Xs.here [Xs.here.top, ↓top_set Xs.here.top, X.1, X.2.1, hd, e']
  exact ⟨rfl, aa⟩
theorem g_lstore_n0 (X : Cx p s m args c R kc ks cc own nL t D al A) {k : Fin 4} {i : Nat} {x : Int64} (hd : decode cc pc = .ok (.lstore_n k, 1)) (hi : (k : Nat) = i) (hn : i + 1 < ls.length) (ho : lok ls i) (k : Gd p l e R s m args below meth c kc ks Q t D al A (pc + 1) ((ls.set i (some (.long x))).set (i + 1) none) st M) : Gd p l e R s m args below meth c kc ks Q t D al A pc ls (.long x :: st) M := by
  subst hi
  intro H locs la hP hS hv
  obtain ⟨la', e', hv'⟩ := lvp_set2 (v := .long x) hv hn rfl ho
  intro T hT Xs
  obtain ⟨tt, aa, bb⟩ := k H locs la' hP hS hv' T hT Xs
  refine ⟨tt, ?_, bb⟩
  jvm_step Xs.here [Xs.here.top, ↓top_set Xs.here.top, X.1, X.2.1, hd, e']
  exact aa
theorem g_lstore0 (X : Cx p s m args c R kc ks cc own nL t D al A) {i : Nat} {x : Int64} (hd : decode cc pc = .ok (.lstore i, 2)) (hn : i + 1 < ls.length) (ho : lok ls i) (k : Gd p l e R s m args below meth c kc ks Q t D al A (pc + 2) ((ls.set i (some (.long x))).set (i + 1) none) st M) : Gd p l e R s m args below meth c kc ks Q t D al A pc ls (.long x :: st) M := by
  intro H locs la hP hS hv
  obtain ⟨la', e', hv'⟩ := lvp_set2 (v := .long x) hv hn rfl ho
  intro T hT Xs
  obtain ⟨tt, aa, bb⟩ := k H locs la' hP hS hv' T hT Xs
  refine ⟨tt, ?_, bb⟩
  jvm_step Xs.here [Xs.here.top, ↓top_set Xs.here.top, X.1, X.2.1, hd, e']
  exact aa
theorem g_iinc0 (X : Cx p s m args c R kc ks cc own nL t D al A) {i : Nat} {n x : Int} (hd : decode cc pc = .ok (.iinc i n, 3)) (hl : ls[i]? = some (some (.int (iN x)))) (hn : i < ls.length) (ho : lok ls i) (k : Gd p l e R s m args below meth c kc ks Q t D al A (pc + 3) (ls.set i (some (.int (iN (x + n))))) st M) : Gd p l e R s m args below meth c kc ks Q t D al A pc ls st M := by
  intro H locs la hP hS hv
  have hg := hv.2.2 i _ hl
  obtain ⟨la', e', hv'⟩ := lvp_set1 (v := .int (iN x + Int32.ofInt n)) hv hn rfl ho
  intro T hT Xs
  obtain ⟨tt, aa, bb⟩ := k H locs la' hP hS (by rw [iN_add]; exact hv') T hT Xs
  refine ⟨tt, ?_, bb⟩
  jvm_step Xs.here [Xs.here.top, ↓top_set Xs.here.top, X.1, X.2.1, hd, hg, e']
  exact aa
theorem g_istore_n_0 (X : Cx p s m args c R kc ks cc own nL t D al A) {k : Fin 4}  {y : Option Value} {r : List (Option Value)} {a : Int} (hd : decode cc pc = .ok (.istore_n k, 1)) (hi : (k : Nat) = 0)  (k : ∀ v : Int, v = a → Gd p l e R s m args below meth c kc ks Q t D al A (pc + 1) (some (.int (iN v)) :: r) st M) : Gd p l e R s m args below meth c kc ks Q t D al A pc (y :: r) (.int (iN a) :: st) M := g_istore_n0 X hd hi (by simp) trivial (k a rfl)
theorem g_istore_0 (X : Cx p s m args c R kc ks cc own nL t D al A)  {y : Option Value} {r : List (Option Value)} {a : Int} (hd : decode cc pc = .ok (.istore 0, 2))  (k : ∀ v : Int, v = a → Gd p l e R s m args below meth c kc ks Q t D al A (pc + 2) (some (.int (iN v)) :: r) st M) : Gd p l e R s m args below meth c kc ks Q t D al A pc (y :: r) (.int (iN a) :: st) M := g_istore0 X hd (by simp) trivial (k a rfl)
theorem g_astore_n_0 (X : Cx p s m args c R kc ks cc own nL t D al A) {k : Fin 4}  {y : Option Value} {r : List (Option Value)} {a : Nat} (hd : decode cc pc = .ok (.astore_n k, 1)) (hi : (k : Nat) = 0)  (k : ∀ v : Nat, v = a → Gd p l e R s m args below meth c kc ks Q t D al A (pc + 1) (some (.ref v) :: r) st M) : Gd p l e R s m args below meth c kc ks Q t D al A pc (y :: r) (.ref a :: st) M := g_astore_n0 X hd hi (by simp) trivial (k a rfl)
theorem g_astore_0 (X : Cx p s m args c R kc ks cc own nL t D al A)  {y : Option Value} {r : List (Option Value)} {a : Nat} (hd : decode cc pc = .ok (.astore 0, 2))  (k : ∀ v : Nat, v = a → Gd p l e R s m args below meth c kc ks Q t D al A (pc + 2) (some (.ref v) :: r) st M) : Gd p l e R s m args below meth c kc ks Q t D al A pc (y :: r) (.ref a :: st) M := g_astore0 X hd (by simp) trivial (k a rfl)
theorem g_lstore_n_0 (X : Cx p s m args c R kc ks cc own nL t D al A) {k : Fin 4}  {y z : Option Value} {r : List (Option Value)} {a : Int} (hd : decode cc pc = .ok (.lstore_n k, 1)) (hi : (k : Nat) = 0)  (k : ∀ v : Int, v = a → Gd p l e R s m args below meth c kc ks Q t D al A (pc + 1) (some (.long (jN v)) :: none :: r) st M) : Gd p l e R s m args below meth c kc ks Q t D al A pc (y :: z :: r) (.long (jN a) :: st) M := g_lstore_n0 X hd hi (by simp) trivial (k a rfl)
theorem g_lstore_0 (X : Cx p s m args c R kc ks cc own nL t D al A)  {y z : Option Value} {r : List (Option Value)} {a : Int} (hd : decode cc pc = .ok (.lstore 0, 2))  (k : ∀ v : Int, v = a → Gd p l e R s m args below meth c kc ks Q t D al A (pc + 2) (some (.long (jN v)) :: none :: r) st M) : Gd p l e R s m args below meth c kc ks Q t D al A pc (y :: z :: r) (.long (jN a) :: st) M := g_lstore0 X hd (by simp) trivial (k a rfl)
theorem g_iinc_0 (X : Cx p s m args c R kc ks cc own nL t D al A)  {r : List (Option Value)} {a n : Int} (hd : decode cc pc = .ok (.iinc 0 n, 3)) (k : ∀ v : Int, v = a + n → Gd p l e R s m args below meth c kc ks Q t D al A (pc + 3) (some (.int (iN v)) :: r) st M) : Gd p l e R s m args below meth c kc ks Q t D al A pc (some (.int (iN a)) :: r) st M := g_iinc0 X hd rfl (by simp) trivial (k _ rfl)
theorem g_istore_n_1 (X : Cx p s m args c R kc ks cc own nL t D al A) {k : Fin 4} {x0 : Option Value} {y : Option Value} {r : List (Option Value)} {a : Int} (hd : decode cc pc = .ok (.istore_n k, 1)) (hi : (k : Nat) = 1)  (ho : lok [x0] 1) (k : ∀ v : Int, v = a → Gd p l e R s m args below meth c kc ks Q t D al A (pc + 1) (x0 :: some (.int (iN v)) :: r) st M) : Gd p l e R s m args below meth c kc ks Q t D al A pc (x0 :: y :: r) (.int (iN a) :: st) M := g_istore_n0 X hd hi (by simp) (by simpa [lok] using ho) (k a rfl)
theorem g_istore_1 (X : Cx p s m args c R kc ks cc own nL t D al A) {x0 : Option Value} {y : Option Value} {r : List (Option Value)} {a : Int} (hd : decode cc pc = .ok (.istore 1, 2))  (ho : lok [x0] 1) (k : ∀ v : Int, v = a → Gd p l e R s m args below meth c kc ks Q t D al A (pc + 2) (x0 :: some (.int (iN v)) :: r) st M) : Gd p l e R s m args below meth c kc ks Q t D al A pc (x0 :: y :: r) (.int (iN a) :: st) M := g_istore0 X hd (by simp) (by simpa [lok] using ho) (k a rfl)
theorem g_astore_n_1 (X : Cx p s m args c R kc ks cc own nL t D al A) {k : Fin 4} {x0 : Option Value} {y : Option Value} {r : List (Option Value)} {a : Nat} (hd : decode cc pc = .ok (.astore_n k, 1)) (hi : (k : Nat) = 1)  (ho : lok [x0] 1) (k : ∀ v : Nat, v = a → Gd p l e R s m args below meth c kc ks Q t D al A (pc + 1) (x0 :: some (.ref v) :: r) st M) : Gd p l e R s m args below meth c kc ks Q t D al A pc (x0 :: y :: r) (.ref a :: st) M := g_astore_n0 X hd hi (by simp) (by simpa [lok] using ho) (k a rfl)
theorem g_astore_1 (X : Cx p s m args c R kc ks cc own nL t D al A) {x0 : Option Value} {y : Option Value} {r : List (Option Value)} {a : Nat} (hd : decode cc pc = .ok (.astore 1, 2))  (ho : lok [x0] 1) (k : ∀ v : Nat, v = a → Gd p l e R s m args below meth c kc ks Q t D al A (pc + 2) (x0 :: some (.ref v) :: r) st M) : Gd p l e R s m args below meth c kc ks Q t D al A pc (x0 :: y :: r) (.ref a :: st) M := g_astore0 X hd (by simp) (by simpa [lok] using ho) (k a rfl)
theorem g_lstore_n_1 (X : Cx p s m args c R kc ks cc own nL t D al A) {k : Fin 4} {x0 : Option Value} {y z : Option Value} {r : List (Option Value)} {a : Int} (hd : decode cc pc = .ok (.lstore_n k, 1)) (hi : (k : Nat) = 1)  (ho : lok [x0] 1) (k : ∀ v : Int, v = a → Gd p l e R s m args below meth c kc ks Q t D al A (pc + 1) (x0 :: some (.long (jN v)) :: none :: r) st M) : Gd p l e R s m args below meth c kc ks Q t D al A pc (x0 :: y :: z :: r) (.long (jN a) :: st) M := g_lstore_n0 X hd hi (by simp) (by simpa [lok] using ho) (k a rfl)
theorem g_lstore_1 (X : Cx p s m args c R kc ks cc own nL t D al A) {x0 : Option Value} {y z : Option Value} {r : List (Option Value)} {a : Int} (hd : decode cc pc = .ok (.lstore 1, 2))  (ho : lok [x0] 1) (k : ∀ v : Int, v = a → Gd p l e R s m args below meth c kc ks Q t D al A (pc + 2) (x0 :: some (.long (jN v)) :: none :: r) st M) : Gd p l e R s m args below meth c kc ks Q t D al A pc (x0 :: y :: z :: r) (.long (jN a) :: st) M := g_lstore0 X hd (by simp) (by simpa [lok] using ho) (k a rfl)
theorem g_iinc_1 (X : Cx p s m args c R kc ks cc own nL t D al A) {x0 : Option Value} {r : List (Option Value)} {a n : Int} (hd : decode cc pc = .ok (.iinc 1 n, 3)) (ho : lok [x0] 1) (k : ∀ v : Int, v = a + n → Gd p l e R s m args below meth c kc ks Q t D al A (pc + 3) (x0 :: some (.int (iN v)) :: r) st M) : Gd p l e R s m args below meth c kc ks Q t D al A pc (x0 :: some (.int (iN a)) :: r) st M := g_iinc0 X hd rfl (by simp) (by simpa [lok] using ho) (k _ rfl)
theorem g_istore_n_2 (X : Cx p s m args c R kc ks cc own nL t D al A) {k : Fin 4} {x0 : Option Value} {x1 : Option Value} {y : Option Value} {r : List (Option Value)} {a : Int} (hd : decode cc pc = .ok (.istore_n k, 1)) (hi : (k : Nat) = 2)  (ho : lok [x1] 1) (k : ∀ v : Int, v = a → Gd p l e R s m args below meth c kc ks Q t D al A (pc + 1) (x0 :: x1 :: some (.int (iN v)) :: r) st M) : Gd p l e R s m args below meth c kc ks Q t D al A pc (x0 :: x1 :: y :: r) (.int (iN a) :: st) M := g_istore_n0 X hd hi (by simp) (by simpa [lok] using ho) (k a rfl)
theorem g_istore_2 (X : Cx p s m args c R kc ks cc own nL t D al A) {x0 : Option Value} {x1 : Option Value} {y : Option Value} {r : List (Option Value)} {a : Int} (hd : decode cc pc = .ok (.istore 2, 2))  (ho : lok [x1] 1) (k : ∀ v : Int, v = a → Gd p l e R s m args below meth c kc ks Q t D al A (pc + 2) (x0 :: x1 :: some (.int (iN v)) :: r) st M) : Gd p l e R s m args below meth c kc ks Q t D al A pc (x0 :: x1 :: y :: r) (.int (iN a) :: st) M := g_istore0 X hd (by simp) (by simpa [lok] using ho) (k a rfl)
theorem g_astore_n_2 (X : Cx p s m args c R kc ks cc own nL t D al A) {k : Fin 4} {x0 : Option Value} {x1 : Option Value} {y : Option Value} {r : List (Option Value)} {a : Nat} (hd : decode cc pc = .ok (.astore_n k, 1)) (hi : (k : Nat) = 2)  (ho : lok [x1] 1) (k : ∀ v : Nat, v = a → Gd p l e R s m args below meth c kc ks Q t D al A (pc + 1) (x0 :: x1 :: some (.ref v) :: r) st M) : Gd p l e R s m args below meth c kc ks Q t D al A pc (x0 :: x1 :: y :: r) (.ref a :: st) M := g_astore_n0 X hd hi (by simp) (by simpa [lok] using ho) (k a rfl)
theorem g_astore_2 (X : Cx p s m args c R kc ks cc own nL t D al A) {x0 : Option Value} {x1 : Option Value} {y : Option Value} {r : List (Option Value)} {a : Nat} (hd : decode cc pc = .ok (.astore 2, 2))  (ho : lok [x1] 1) (k : ∀ v : Nat, v = a → Gd p l e R s m args below meth c kc ks Q t D al A (pc + 2) (x0 :: x1 :: some (.ref v) :: r) st M) : Gd p l e R s m args below meth c kc ks Q t D al A pc (x0 :: x1 :: y :: r) (.ref a :: st) M := g_astore0 X hd (by simp) (by simpa [lok] using ho) (k a rfl)
theorem g_lstore_n_2 (X : Cx p s m args c R kc ks cc own nL t D al A) {k : Fin 4} {x0 : Option Value} {x1 : Option Value} {y z : Option Value} {r : List (Option Value)} {a : Int} (hd : decode cc pc = .ok (.lstore_n k, 1)) (hi : (k : Nat) = 2)  (ho : lok [x1] 1) (k : ∀ v : Int, v = a → Gd p l e R s m args below meth c kc ks Q t D al A (pc + 1) (x0 :: x1 :: some (.long (jN v)) :: none :: r) st M) : Gd p l e R s m args below meth c kc ks Q t D al A pc (x0 :: x1 :: y :: z :: r) (.long (jN a) :: st) M := g_lstore_n0 X hd hi (by simp) (by simpa [lok] using ho) (k a rfl)
theorem g_lstore_2 (X : Cx p s m args c R kc ks cc own nL t D al A) {x0 : Option Value} {x1 : Option Value} {y z : Option Value} {r : List (Option Value)} {a : Int} (hd : decode cc pc = .ok (.lstore 2, 2))  (ho : lok [x1] 1) (k : ∀ v : Int, v = a → Gd p l e R s m args below meth c kc ks Q t D al A (pc + 2) (x0 :: x1 :: some (.long (jN v)) :: none :: r) st M) : Gd p l e R s m args below meth c kc ks Q t D al A pc (x0 :: x1 :: y :: z :: r) (.long (jN a) :: st) M := g_lstore0 X hd (by simp) (by simpa [lok] using ho) (k a rfl)
theorem g_iinc_2 (X : Cx p s m args c R kc ks cc own nL t D al A) {x0 : Option Value} {x1 : Option Value} {r : List (Option Value)} {a n : Int} (hd : decode cc pc = .ok (.iinc 2 n, 3)) (ho : lok [x1] 1) (k : ∀ v : Int, v = a + n → Gd p l e R s m args below meth c kc ks Q t D al A (pc + 3) (x0 :: x1 :: some (.int (iN v)) :: r) st M) : Gd p l e R s m args below meth c kc ks Q t D al A pc (x0 :: x1 :: some (.int (iN a)) :: r) st M := g_iinc0 X hd rfl (by simp) (by simpa [lok] using ho) (k _ rfl)
theorem g_istore_n_3 (X : Cx p s m args c R kc ks cc own nL t D al A) {k : Fin 4} {x0 : Option Value} {x1 : Option Value} {x2 : Option Value} {y : Option Value} {r : List (Option Value)} {a : Int} (hd : decode cc pc = .ok (.istore_n k, 1)) (hi : (k : Nat) = 3)  (ho : lok [x2] 1) (k : ∀ v : Int, v = a → Gd p l e R s m args below meth c kc ks Q t D al A (pc + 1) (x0 :: x1 :: x2 :: some (.int (iN v)) :: r) st M) : Gd p l e R s m args below meth c kc ks Q t D al A pc (x0 :: x1 :: x2 :: y :: r) (.int (iN a) :: st) M := g_istore_n0 X hd hi (by simp) (by simpa [lok] using ho) (k a rfl)
theorem g_istore_3 (X : Cx p s m args c R kc ks cc own nL t D al A) {x0 : Option Value} {x1 : Option Value} {x2 : Option Value} {y : Option Value} {r : List (Option Value)} {a : Int} (hd : decode cc pc = .ok (.istore 3, 2))  (ho : lok [x2] 1) (k : ∀ v : Int, v = a → Gd p l e R s m args below meth c kc ks Q t D al A (pc + 2) (x0 :: x1 :: x2 :: some (.int (iN v)) :: r) st M) : Gd p l e R s m args below meth c kc ks Q t D al A pc (x0 :: x1 :: x2 :: y :: r) (.int (iN a) :: st) M := g_istore0 X hd (by simp) (by simpa [lok] using ho) (k a rfl)
theorem g_astore_n_3 (X : Cx p s m args c R kc ks cc own nL t D al A) {k : Fin 4} {x0 : Option Value} {x1 : Option Value} {x2 : Option Value} {y : Option Value} {r : List (Option Value)} {a : Nat} (hd : decode cc pc = .ok (.astore_n k, 1)) (hi : (k : Nat) = 3)  (ho : lok [x2] 1) (k : ∀ v : Nat, v = a → Gd p l e R s m args below meth c kc ks Q t D al A (pc + 1) (x0 :: x1 :: x2 :: some (.ref v) :: r) st M) : Gd p l e R s m args below meth c kc ks Q t D al A pc (x0 :: x1 :: x2 :: y :: r) (.ref a :: st) M := g_astore_n0 X hd hi (by simp) (by simpa [lok] using ho) (k a rfl)
theorem g_astore_3 (X : Cx p s m args c R kc ks cc own nL t D al A) {x0 : Option Value} {x1 : Option Value} {x2 : Option Value} {y : Option Value} {r : List (Option Value)} {a : Nat} (hd : decode cc pc = .ok (.astore 3, 2))  (ho : lok [x2] 1) (k : ∀ v : Nat, v = a → Gd p l e R s m args below meth c kc ks Q t D al A (pc + 2) (x0 :: x1 :: x2 :: some (.ref v) :: r) st M) : Gd p l e R s m args below meth c kc ks Q t D al A pc (x0 :: x1 :: x2 :: y :: r) (.ref a :: st) M := g_astore0 X hd (by simp) (by simpa [lok] using ho) (k a rfl)
theorem g_lstore_n_3 (X : Cx p s m args c R kc ks cc own nL t D al A) {k : Fin 4} {x0 : Option Value} {x1 : Option Value} {x2 : Option Value} {y z : Option Value} {r : List (Option Value)} {a : Int} (hd : decode cc pc = .ok (.lstore_n k, 1)) (hi : (k : Nat) = 3)  (ho : lok [x2] 1) (k : ∀ v : Int, v = a → Gd p l e R s m args below meth c kc ks Q t D al A (pc + 1) (x0 :: x1 :: x2 :: some (.long (jN v)) :: none :: r) st M) : Gd p l e R s m args below meth c kc ks Q t D al A pc (x0 :: x1 :: x2 :: y :: z :: r) (.long (jN a) :: st) M := g_lstore_n0 X hd hi (by simp) (by simpa [lok] using ho) (k a rfl)
theorem g_lstore_3 (X : Cx p s m args c R kc ks cc own nL t D al A) {x0 : Option Value} {x1 : Option Value} {x2 : Option Value} {y z : Option Value} {r : List (Option Value)} {a : Int} (hd : decode cc pc = .ok (.lstore 3, 2))  (ho : lok [x2] 1) (k : ∀ v : Int, v = a → Gd p l e R s m args below meth c kc ks Q t D al A (pc + 2) (x0 :: x1 :: x2 :: some (.long (jN v)) :: none :: r) st M) : Gd p l e R s m args below meth c kc ks Q t D al A pc (x0 :: x1 :: x2 :: y :: z :: r) (.long (jN a) :: st) M := g_lstore0 X hd (by simp) (by simpa [lok] using ho) (k a rfl)
theorem g_iinc_3 (X : Cx p s m args c R kc ks cc own nL t D al A) {x0 : Option Value} {x1 : Option Value} {x2 : Option Value} {r : List (Option Value)} {a n : Int} (hd : decode cc pc = .ok (.iinc 3 n, 3)) (ho : lok [x2] 1) (k : ∀ v : Int, v = a + n → Gd p l e R s m args below meth c kc ks Q t D al A (pc + 3) (x0 :: x1 :: x2 :: some (.int (iN v)) :: r) st M) : Gd p l e R s m args below meth c kc ks Q t D al A pc (x0 :: x1 :: x2 :: some (.int (iN a)) :: r) st M := g_iinc0 X hd rfl (by simp) (by simpa [lok] using ho) (k _ rfl)
theorem g_istore_4 (X : Cx p s m args c R kc ks cc own nL t D al A) {x0 : Option Value} {x1 : Option Value} {x2 : Option Value} {x3 : Option Value} {y : Option Value} {r : List (Option Value)} {a : Int} (hd : decode cc pc = .ok (.istore 4, 2))  (ho : lok [x3] 1) (k : ∀ v : Int, v = a → Gd p l e R s m args below meth c kc ks Q t D al A (pc + 2) (x0 :: x1 :: x2 :: x3 :: some (.int (iN v)) :: r) st M) : Gd p l e R s m args below meth c kc ks Q t D al A pc (x0 :: x1 :: x2 :: x3 :: y :: r) (.int (iN a) :: st) M := g_istore0 X hd (by simp) (by simpa [lok] using ho) (k a rfl)
theorem g_astore_4 (X : Cx p s m args c R kc ks cc own nL t D al A) {x0 : Option Value} {x1 : Option Value} {x2 : Option Value} {x3 : Option Value} {y : Option Value} {r : List (Option Value)} {a : Nat} (hd : decode cc pc = .ok (.astore 4, 2))  (ho : lok [x3] 1) (k : ∀ v : Nat, v = a → Gd p l e R s m args below meth c kc ks Q t D al A (pc + 2) (x0 :: x1 :: x2 :: x3 :: some (.ref v) :: r) st M) : Gd p l e R s m args below meth c kc ks Q t D al A pc (x0 :: x1 :: x2 :: x3 :: y :: r) (.ref a :: st) M := g_astore0 X hd (by simp) (by simpa [lok] using ho) (k a rfl)
theorem g_lstore_4 (X : Cx p s m args c R kc ks cc own nL t D al A) {x0 : Option Value} {x1 : Option Value} {x2 : Option Value} {x3 : Option Value} {y z : Option Value} {r : List (Option Value)} {a : Int} (hd : decode cc pc = .ok (.lstore 4, 2))  (ho : lok [x3] 1) (k : ∀ v : Int, v = a → Gd p l e R s m args below meth c kc ks Q t D al A (pc + 2) (x0 :: x1 :: x2 :: x3 :: some (.long (jN v)) :: none :: r) st M) : Gd p l e R s m args below meth c kc ks Q t D al A pc (x0 :: x1 :: x2 :: x3 :: y :: z :: r) (.long (jN a) :: st) M := g_lstore0 X hd (by simp) (by simpa [lok] using ho) (k a rfl)
theorem g_iinc_4 (X : Cx p s m args c R kc ks cc own nL t D al A) {x0 : Option Value} {x1 : Option Value} {x2 : Option Value} {x3 : Option Value} {r : List (Option Value)} {a n : Int} (hd : decode cc pc = .ok (.iinc 4 n, 3)) (ho : lok [x3] 1) (k : ∀ v : Int, v = a + n → Gd p l e R s m args below meth c kc ks Q t D al A (pc + 3) (x0 :: x1 :: x2 :: x3 :: some (.int (iN v)) :: r) st M) : Gd p l e R s m args below meth c kc ks Q t D al A pc (x0 :: x1 :: x2 :: x3 :: some (.int (iN a)) :: r) st M := g_iinc0 X hd rfl (by simp) (by simpa [lok] using ho) (k _ rfl)
theorem g_istore_5 (X : Cx p s m args c R kc ks cc own nL t D al A) {x0 : Option Value} {x1 : Option Value} {x2 : Option Value} {x3 : Option Value} {x4 : Option Value} {y : Option Value} {r : List (Option Value)} {a : Int} (hd : decode cc pc = .ok (.istore 5, 2))  (ho : lok [x4] 1) (k : ∀ v : Int, v = a → Gd p l e R s m args below meth c kc ks Q t D al A (pc + 2) (x0 :: x1 :: x2 :: x3 :: x4 :: some (.int (iN v)) :: r) st M) : Gd p l e R s m args below meth c kc ks Q t D al A pc (x0 :: x1 :: x2 :: x3 :: x4 :: y :: r) (.int (iN a) :: st) M := g_istore0 X hd (by simp) (by simpa [lok] using ho) (k a rfl)
theorem g_astore_5 (X : Cx p s m args c R kc ks cc own nL t D al A) {x0 : Option Value} {x1 : Option Value} {x2 : Option Value} {x3 : Option Value} {x4 : Option Value} {y : Option Value} {r : List (Option Value)} {a : Nat} (hd : decode cc pc = .ok (.astore 5, 2))  (ho : lok [x4] 1) (k : ∀ v : Nat, v = a → Gd p l e R s m args below meth c kc ks Q t D al A (pc + 2) (x0 :: x1 :: x2 :: x3 :: x4 :: some (.ref v) :: r) st M) : Gd p l e R s m args below meth c kc ks Q t D al A pc (x0 :: x1 :: x2 :: x3 :: x4 :: y :: r) (.ref a :: st) M := g_astore0 X hd (by simp) (by simpa [lok] using ho) (k a rfl)
theorem g_lstore_5 (X : Cx p s m args c R kc ks cc own nL t D al A) {x0 : Option Value} {x1 : Option Value} {x2 : Option Value} {x3 : Option Value} {x4 : Option Value} {y z : Option Value} {r : List (Option Value)} {a : Int} (hd : decode cc pc = .ok (.lstore 5, 2))  (ho : lok [x4] 1) (k : ∀ v : Int, v = a → Gd p l e R s m args below meth c kc ks Q t D al A (pc + 2) (x0 :: x1 :: x2 :: x3 :: x4 :: some (.long (jN v)) :: none :: r) st M) : Gd p l e R s m args below meth c kc ks Q t D al A pc (x0 :: x1 :: x2 :: x3 :: x4 :: y :: z :: r) (.long (jN a) :: st) M := g_lstore0 X hd (by simp) (by simpa [lok] using ho) (k a rfl)
theorem g_iinc_5 (X : Cx p s m args c R kc ks cc own nL t D al A) {x0 : Option Value} {x1 : Option Value} {x2 : Option Value} {x3 : Option Value} {x4 : Option Value} {r : List (Option Value)} {a n : Int} (hd : decode cc pc = .ok (.iinc 5 n, 3)) (ho : lok [x4] 1) (k : ∀ v : Int, v = a + n → Gd p l e R s m args below meth c kc ks Q t D al A (pc + 3) (x0 :: x1 :: x2 :: x3 :: x4 :: some (.int (iN v)) :: r) st M) : Gd p l e R s m args below meth c kc ks Q t D al A pc (x0 :: x1 :: x2 :: x3 :: x4 :: some (.int (iN a)) :: r) st M := g_iinc0 X hd rfl (by simp) (by simpa [lok] using ho) (k _ rfl)
theorem g_istore_6 (X : Cx p s m args c R kc ks cc own nL t D al A) {x0 : Option Value} {x1 : Option Value} {x2 : Option Value} {x3 : Option Value} {x4 : Option Value} {x5 : Option Value} {y : Option Value} {r : List (Option Value)} {a : Int} (hd : decode cc pc = .ok (.istore 6, 2))  (ho : lok [x5] 1) (k : ∀ v : Int, v = a → Gd p l e R s m args below meth c kc ks Q t D al A (pc + 2) (x0 :: x1 :: x2 :: x3 :: x4 :: x5 :: some (.int (iN v)) :: r) st M) : Gd p l e R s m args below meth c kc ks Q t D al A pc (x0 :: x1 :: x2 :: x3 :: x4 :: x5 :: y :: r) (.int (iN a) :: st) M := g_istore0 X hd (by simp) (by simpa [lok] using ho) (k a rfl)
theorem g_astore_6 (X : Cx p s m args c R kc ks cc own nL t D al A) {x0 : Option Value} {x1 : Option Value} {x2 : Option Value} {x3 : Option Value} {x4 : Option Value} {x5 : Option Value} {y : Option Value} {r : List (Option Value)} {a : Nat} (hd : decode cc pc = .ok (.astore 6, 2))  (ho : lok [x5] 1) (k : ∀ v : Nat, v = a → Gd p l e R s m args below meth c kc ks Q t D al A (pc + 2) (x0 :: x1 :: x2 :: x3 :: x4 :: x5 :: some (.ref v) :: r) st M) : Gd p l e R s m args below meth c kc ks Q t D al A pc (x0 :: x1 :: x2 :: x3 :: x4 :: x5 :: y :: r) (.ref a :: st) M := g_astore0 X hd (by simp) (by simpa [lok] using ho) (k a rfl)
theorem g_lstore_6 (X : Cx p s m args c R kc ks cc own nL t D al A) {x0 : Option Value} {x1 : Option Value} {x2 : Option Value} {x3 : Option Value} {x4 : Option Value} {x5 : Option Value} {y z : Option Value} {r : List (Option Value)} {a : Int} (hd : decode cc pc = .ok (.lstore 6, 2))  (ho : lok [x5] 1) (k : ∀ v : Int, v = a → Gd p l e R s m args below meth c kc ks Q t D al A (pc + 2) (x0 :: x1 :: x2 :: x3 :: x4 :: x5 :: some (.long (jN v)) :: none :: r) st M) : Gd p l e R s m args below meth c kc ks Q t D al A pc (x0 :: x1 :: x2 :: x3 :: x4 :: x5 :: y :: z :: r) (.long (jN a) :: st) M := g_lstore0 X hd (by simp) (by simpa [lok] using ho) (k a rfl)
theorem g_iinc_6 (X : Cx p s m args c R kc ks cc own nL t D al A) {x0 : Option Value} {x1 : Option Value} {x2 : Option Value} {x3 : Option Value} {x4 : Option Value} {x5 : Option Value} {r : List (Option Value)} {a n : Int} (hd : decode cc pc = .ok (.iinc 6 n, 3)) (ho : lok [x5] 1) (k : ∀ v : Int, v = a + n → Gd p l e R s m args below meth c kc ks Q t D al A (pc + 3) (x0 :: x1 :: x2 :: x3 :: x4 :: x5 :: some (.int (iN v)) :: r) st M) : Gd p l e R s m args below meth c kc ks Q t D al A pc (x0 :: x1 :: x2 :: x3 :: x4 :: x5 :: some (.int (iN a)) :: r) st M := g_iinc0 X hd rfl (by simp) (by simpa [lok] using ho) (k _ rfl)
theorem g_istore_7 (X : Cx p s m args c R kc ks cc own nL t D al A) {x0 : Option Value} {x1 : Option Value} {x2 : Option Value} {x3 : Option Value} {x4 : Option Value} {x5 : Option Value} {x6 : Option Value} {y : Option Value} {r : List (Option Value)} {a : Int} (hd : decode cc pc = .ok (.istore 7, 2))  (ho : lok [x6] 1) (k : ∀ v : Int, v = a → Gd p l e R s m args below meth c kc ks Q t D al A (pc + 2) (x0 :: x1 :: x2 :: x3 :: x4 :: x5 :: x6 :: some (.int (iN v)) :: r) st M) : Gd p l e R s m args below meth c kc ks Q t D al A pc (x0 :: x1 :: x2 :: x3 :: x4 :: x5 :: x6 :: y :: r) (.int (iN a) :: st) M := g_istore0 X hd (by simp) (by simpa [lok] using ho) (k a rfl)
theorem g_astore_7 (X : Cx p s m args c R kc ks cc own nL t D al A) {x0 : Option Value} {x1 : Option Value} {x2 : Option Value} {x3 : Option Value} {x4 : Option Value} {x5 : Option Value} {x6 : Option Value} {y : Option Value} {r : List (Option Value)} {a : Nat} (hd : decode cc pc = .ok (.astore 7, 2))  (ho : lok [x6] 1) (k : ∀ v : Nat, v = a → Gd p l e R s m args below meth c kc ks Q t D al A (pc + 2) (x0 :: x1 :: x2 :: x3 :: x4 :: x5 :: x6 :: some (.ref v) :: r) st M) : Gd p l e R s m args below meth c kc ks Q t D al A pc (x0 :: x1 :: x2 :: x3 :: x4 :: x5 :: x6 :: y :: r) (.ref a :: st) M := g_astore0 X hd (by simp) (by simpa [lok] using ho) (k a rfl)
theorem g_lstore_7 (X : Cx p s m args c R kc ks cc own nL t D al A) {x0 : Option Value} {x1 : Option Value} {x2 : Option Value} {x3 : Option Value} {x4 : Option Value} {x5 : Option Value} {x6 : Option Value} {y z : Option Value} {r : List (Option Value)} {a : Int} (hd : decode cc pc = .ok (.lstore 7, 2))  (ho : lok [x6] 1) (k : ∀ v : Int, v = a → Gd p l e R s m args below meth c kc ks Q t D al A (pc + 2) (x0 :: x1 :: x2 :: x3 :: x4 :: x5 :: x6 :: some (.long (jN v)) :: none :: r) st M) : Gd p l e R s m args below meth c kc ks Q t D al A pc (x0 :: x1 :: x2 :: x3 :: x4 :: x5 :: x6 :: y :: z :: r) (.long (jN a) :: st) M := g_lstore0 X hd (by simp) (by simpa [lok] using ho) (k a rfl)
theorem g_iinc_7 (X : Cx p s m args c R kc ks cc own nL t D al A) {x0 : Option Value} {x1 : Option Value} {x2 : Option Value} {x3 : Option Value} {x4 : Option Value} {x5 : Option Value} {x6 : Option Value} {r : List (Option Value)} {a n : Int} (hd : decode cc pc = .ok (.iinc 7 n, 3)) (ho : lok [x6] 1) (k : ∀ v : Int, v = a + n → Gd p l e R s m args below meth c kc ks Q t D al A (pc + 3) (x0 :: x1 :: x2 :: x3 :: x4 :: x5 :: x6 :: some (.int (iN v)) :: r) st M) : Gd p l e R s m args below meth c kc ks Q t D al A pc (x0 :: x1 :: x2 :: x3 :: x4 :: x5 :: x6 :: some (.int (iN a)) :: r) st M := g_iinc0 X hd rfl (by simp) (by simpa [lok] using ho) (k _ rfl)
theorem g_istore_8 (X : Cx p s m args c R kc ks cc own nL t D al A) {x0 : Option Value} {x1 : Option Value} {x2 : Option Value} {x3 : Option Value} {x4 : Option Value} {x5 : Option Value} {x6 : Option Value} {x7 : Option Value} {y : Option Value} {r : List (Option Value)} {a : Int} (hd : decode cc pc = .ok (.istore 8, 2))  (ho : lok [x7] 1) (k : ∀ v : Int, v = a → Gd p l e R s m args below meth c kc ks Q t D al A (pc + 2) (x0 :: x1 :: x2 :: x3 :: x4 :: x5 :: x6 :: x7 :: some (.int (iN v)) :: r) st M) : Gd p l e R s m args below meth c kc ks Q t D al A pc (x0 :: x1 :: x2 :: x3 :: x4 :: x5 :: x6 :: x7 :: y :: r) (.int (iN a) :: st) M := g_istore0 X hd (by simp) (by simpa [lok] using ho) (k a rfl)
theorem g_astore_8 (X : Cx p s m args c R kc ks cc own nL t D al A) {x0 : Option Value} {x1 : Option Value} {x2 : Option Value} {x3 : Option Value} {x4 : Option Value} {x5 : Option Value} {x6 : Option Value} {x7 : Option Value} {y : Option Value} {r : List (Option Value)} {a : Nat} (hd : decode cc pc = .ok (.astore 8, 2))  (ho : lok [x7] 1) (k : ∀ v : Nat, v = a → Gd p l e R s m args below meth c kc ks Q t D al A (pc + 2) (x0 :: x1 :: x2 :: x3 :: x4 :: x5 :: x6 :: x7 :: some (.ref v) :: r) st M) : Gd p l e R s m args below meth c kc ks Q t D al A pc (x0 :: x1 :: x2 :: x3 :: x4 :: x5 :: x6 :: x7 :: y :: r) (.ref a :: st) M := g_astore0 X hd (by simp) (by simpa [lok] using ho) (k a rfl)
theorem g_lstore_8 (X : Cx p s m args c R kc ks cc own nL t D al A) {x0 : Option Value} {x1 : Option Value} {x2 : Option Value} {x3 : Option Value} {x4 : Option Value} {x5 : Option Value} {x6 : Option Value} {x7 : Option Value} {y z : Option Value} {r : List (Option Value)} {a : Int} (hd : decode cc pc = .ok (.lstore 8, 2))  (ho : lok [x7] 1) (k : ∀ v : Int, v = a → Gd p l e R s m args below meth c kc ks Q t D al A (pc + 2) (x0 :: x1 :: x2 :: x3 :: x4 :: x5 :: x6 :: x7 :: some (.long (jN v)) :: none :: r) st M) : Gd p l e R s m args below meth c kc ks Q t D al A pc (x0 :: x1 :: x2 :: x3 :: x4 :: x5 :: x6 :: x7 :: y :: z :: r) (.long (jN a) :: st) M := g_lstore0 X hd (by simp) (by simpa [lok] using ho) (k a rfl)
theorem g_iinc_8 (X : Cx p s m args c R kc ks cc own nL t D al A) {x0 : Option Value} {x1 : Option Value} {x2 : Option Value} {x3 : Option Value} {x4 : Option Value} {x5 : Option Value} {x6 : Option Value} {x7 : Option Value} {r : List (Option Value)} {a n : Int} (hd : decode cc pc = .ok (.iinc 8 n, 3)) (ho : lok [x7] 1) (k : ∀ v : Int, v = a + n → Gd p l e R s m args below meth c kc ks Q t D al A (pc + 3) (x0 :: x1 :: x2 :: x3 :: x4 :: x5 :: x6 :: x7 :: some (.int (iN v)) :: r) st M) : Gd p l e R s m args below meth c kc ks Q t D al A pc (x0 :: x1 :: x2 :: x3 :: x4 :: x5 :: x6 :: x7 :: some (.int (iN a)) :: r) st M := g_iinc0 X hd rfl (by simp) (by simpa [lok] using ho) (k _ rfl)
theorem g_istore_9 (X : Cx p s m args c R kc ks cc own nL t D al A) {x0 : Option Value} {x1 : Option Value} {x2 : Option Value} {x3 : Option Value} {x4 : Option Value} {x5 : Option Value} {x6 : Option Value} {x7 : Option Value} {x8 : Option Value} {y : Option Value} {r : List (Option Value)} {a : Int} (hd : decode cc pc = .ok (.istore 9, 2))  (ho : lok [x8] 1) (k : ∀ v : Int, v = a → Gd p l e R s m args below meth c kc ks Q t D al A (pc + 2) (x0 :: x1 :: x2 :: x3 :: x4 :: x5 :: x6 :: x7 :: x8 :: some (.int (iN v)) :: r) st M) : Gd p l e R s m args below meth c kc ks Q t D al A pc (x0 :: x1 :: x2 :: x3 :: x4 :: x5 :: x6 :: x7 :: x8 :: y :: r) (.int (iN a) :: st) M := g_istore0 X hd (by simp) (by simpa [lok] using ho) (k a rfl)
theorem g_astore_9 (X : Cx p s m args c R kc ks cc own nL t D al A) {x0 : Option Value} {x1 : Option Value} {x2 : Option Value} {x3 : Option Value} {x4 : Option Value} {x5 : Option Value} {x6 : Option Value} {x7 : Option Value} {x8 : Option Value} {y : Option Value} {r : List (Option Value)} {a : Nat} (hd : decode cc pc = .ok (.astore 9, 2))  (ho : lok [x8] 1) (k : ∀ v : Nat, v = a → Gd p l e R s m args below meth c kc ks Q t D al A (pc + 2) (x0 :: x1 :: x2 :: x3 :: x4 :: x5 :: x6 :: x7 :: x8 :: some (.ref v) :: r) st M) : Gd p l e R s m args below meth c kc ks Q t D al A pc (x0 :: x1 :: x2 :: x3 :: x4 :: x5 :: x6 :: x7 :: x8 :: y :: r) (.ref a :: st) M := g_astore0 X hd (by simp) (by simpa [lok] using ho) (k a rfl)
theorem g_lstore_9 (X : Cx p s m args c R kc ks cc own nL t D al A) {x0 : Option Value} {x1 : Option Value} {x2 : Option Value} {x3 : Option Value} {x4 : Option Value} {x5 : Option Value} {x6 : Option Value} {x7 : Option Value} {x8 : Option Value} {y z : Option Value} {r : List (Option Value)} {a : Int} (hd : decode cc pc = .ok (.lstore 9, 2))  (ho : lok [x8] 1) (k : ∀ v : Int, v = a → Gd p l e R s m args below meth c kc ks Q t D al A (pc + 2) (x0 :: x1 :: x2 :: x3 :: x4 :: x5 :: x6 :: x7 :: x8 :: some (.long (jN v)) :: none :: r) st M) : Gd p l e R s m args below meth c kc ks Q t D al A pc (x0 :: x1 :: x2 :: x3 :: x4 :: x5 :: x6 :: x7 :: x8 :: y :: z :: r) (.long (jN a) :: st) M := g_lstore0 X hd (by simp) (by simpa [lok] using ho) (k a rfl)
theorem g_iinc_9 (X : Cx p s m args c R kc ks cc own nL t D al A) {x0 : Option Value} {x1 : Option Value} {x2 : Option Value} {x3 : Option Value} {x4 : Option Value} {x5 : Option Value} {x6 : Option Value} {x7 : Option Value} {x8 : Option Value} {r : List (Option Value)} {a n : Int} (hd : decode cc pc = .ok (.iinc 9 n, 3)) (ho : lok [x8] 1) (k : ∀ v : Int, v = a + n → Gd p l e R s m args below meth c kc ks Q t D al A (pc + 3) (x0 :: x1 :: x2 :: x3 :: x4 :: x5 :: x6 :: x7 :: x8 :: some (.int (iN v)) :: r) st M) : Gd p l e R s m args below meth c kc ks Q t D al A pc (x0 :: x1 :: x2 :: x3 :: x4 :: x5 :: x6 :: x7 :: x8 :: some (.int (iN a)) :: r) st M := g_iinc0 X hd rfl (by simp) (by simpa [lok] using ho) (k _ rfl)
theorem g_istore_10 (X : Cx p s m args c R kc ks cc own nL t D al A) {x0 : Option Value} {x1 : Option Value} {x2 : Option Value} {x3 : Option Value} {x4 : Option Value} {x5 : Option Value} {x6 : Option Value} {x7 : Option Value} {x8 : Option Value} {x9 : Option Value} {y : Option Value} {r : List (Option Value)} {a : Int} (hd : decode cc pc = .ok (.istore 10, 2))  (ho : lok [x9] 1) (k : ∀ v : Int, v = a → Gd p l e R s m args below meth c kc ks Q t D al A (pc + 2) (x0 :: x1 :: x2 :: x3 :: x4 :: x5 :: x6 :: x7 :: x8 :: x9 :: some (.int (iN v)) :: r) st M) : Gd p l e R s m args below meth c kc ks Q t D al A pc (x0 :: x1 :: x2 :: x3 :: x4 :: x5 :: x6 :: x7 :: x8 :: x9 :: y :: r) (.int (iN a) :: st) M := g_istore0 X hd (by simp) (by simpa [lok] using ho) (k a rfl)
theorem g_astore_10 (X : Cx p s m args c R kc ks cc own nL t D al A) {x0 : Option Value} {x1 : Option Value} {x2 : Option Value} {x3 : Option Value} {x4 : Option Value} {x5 : Option Value} {x6 : Option Value} {x7 : Option Value} {x8 : Option Value} {x9 : Option Value} {y : Option Value} {r : List (Option Value)} {a : Nat} (hd : decode cc pc = .ok (.astore 10, 2))  (ho : lok [x9] 1) (k : ∀ v : Nat, v = a → Gd p l e R s m args below meth c kc ks Q t D al A (pc + 2) (x0 :: x1 :: x2 :: x3 :: x4 :: x5 :: x6 :: x7 :: x8 :: x9 :: some (.ref v) :: r) st M) : Gd p l e R s m args below meth c kc ks Q t D al A pc (x0 :: x1 :: x2 :: x3 :: x4 :: x5 :: x6 :: x7 :: x8 :: x9 :: y :: r) (.ref a :: st) M := g_astore0 X hd (by simp) (by simpa [lok] using ho) (k a rfl)
theorem g_lstore_10 (X : Cx p s m args c R kc ks cc own nL t D al A) {x0 : Option Value} {x1 : Option Value} {x2 : Option Value} {x3 : Option Value} {x4 : Option Value} {x5 : Option Value} {x6 : Option Value} {x7 : Option Value} {x8 : Option Value} {x9 : Option Value} {y z : Option Value} {r : List (Option Value)} {a : Int} (hd : decode cc pc = .ok (.lstore 10, 2))  (ho : lok [x9] 1) (k : ∀ v : Int, v = a → Gd p l e R s m args below meth c kc ks Q t D al A (pc + 2) (x0 :: x1 :: x2 :: x3 :: x4 :: x5 :: x6 :: x7 :: x8 :: x9 :: some (.long (jN v)) :: none :: r) st M) : Gd p l e R s m args below meth c kc ks Q t D al A pc (x0 :: x1 :: x2 :: x3 :: x4 :: x5 :: x6 :: x7 :: x8 :: x9 :: y :: z :: r) (.long (jN a) :: st) M := g_lstore0 X hd (by simp) (by simpa [lok] using ho) (k a rfl)
theorem g_iinc_10 (X : Cx p s m args c R kc ks cc own nL t D al A) {x0 : Option Value} {x1 : Option Value} {x2 : Option Value} {x3 : Option Value} {x4 : Option Value} {x5 : Option Value} {x6 : Option Value} {x7 : Option Value} {x8 : Option Value} {x9 : Option Value} {r : List (Option Value)} {a n : Int} (hd : decode cc pc = .ok (.iinc 10 n, 3)) (ho : lok [x9] 1) (k : ∀ v : Int, v = a + n → Gd p l e R s m args below meth c kc ks Q t D al A (pc + 3) (x0 :: x1 :: x2 :: x3 :: x4 :: x5 :: x6 :: x7 :: x8 :: x9 :: some (.int (iN v)) :: r) st M) : Gd p l e R s m args below meth c kc ks Q t D al A pc (x0 :: x1 :: x2 :: x3 :: x4 :: x5 :: x6 :: x7 :: x8 :: x9 :: some (.int (iN a)) :: r) st M := g_iinc0 X hd rfl (by simp) (by simpa [lok] using ho) (k _ rfl)
theorem g_istore_11 (X : Cx p s m args c R kc ks cc own nL t D al A) {x0 : Option Value} {x1 : Option Value} {x2 : Option Value} {x3 : Option Value} {x4 : Option Value} {x5 : Option Value} {x6 : Option Value} {x7 : Option Value} {x8 : Option Value} {x9 : Option Value} {x10 : Option Value} {y : Option Value} {r : List (Option Value)} {a : Int} (hd : decode cc pc = .ok (.istore 11, 2))  (ho : lok [x10] 1) (k : ∀ v : Int, v = a → Gd p l e R s m args below meth c kc ks Q t D al A (pc + 2) (x0 :: x1 :: x2 :: x3 :: x4 :: x5 :: x6 :: x7 :: x8 :: x9 :: x10 :: some (.int (iN v)) :: r) st M) : Gd p l e R s m args below meth c kc ks Q t D al A pc (x0 :: x1 :: x2 :: x3 :: x4 :: x5 :: x6 :: x7 :: x8 :: x9 :: x10 :: y :: r) (.int (iN a) :: st) M := g_istore0 X hd (by simp) (by simpa [lok] using ho) (k a rfl)
theorem g_astore_11 (X : Cx p s m args c R kc ks cc own nL t D al A) {x0 : Option Value} {x1 : Option Value} {x2 : Option Value} {x3 : Option Value} {x4 : Option Value} {x5 : Option Value} {x6 : Option Value} {x7 : Option Value} {x8 : Option Value} {x9 : Option Value} {x10 : Option Value} {y : Option Value} {r : List (Option Value)} {a : Nat} (hd : decode cc pc = .ok (.astore 11, 2))  (ho : lok [x10] 1) (k : ∀ v : Nat, v = a → Gd p l e R s m args below meth c kc ks Q t D al A (pc + 2) (x0 :: x1 :: x2 :: x3 :: x4 :: x5 :: x6 :: x7 :: x8 :: x9 :: x10 :: some (.ref v) :: r) st M) : Gd p l e R s m args below meth c kc ks Q t D al A pc (x0 :: x1 :: x2 :: x3 :: x4 :: x5 :: x6 :: x7 :: x8 :: x9 :: x10 :: y :: r) (.ref a :: st) M := g_astore0 X hd (by simp) (by simpa [lok] using ho) (k a rfl)
theorem g_lstore_11 (X : Cx p s m args c R kc ks cc own nL t D al A) {x0 : Option Value} {x1 : Option Value} {x2 : Option Value} {x3 : Option Value} {x4 : Option Value} {x5 : Option Value} {x6 : Option Value} {x7 : Option Value} {x8 : Option Value} {x9 : Option Value} {x10 : Option Value} {y z : Option Value} {r : List (Option Value)} {a : Int} (hd : decode cc pc = .ok (.lstore 11, 2))  (ho : lok [x10] 1) (k : ∀ v : Int, v = a → Gd p l e R s m args below meth c kc ks Q t D al A (pc + 2) (x0 :: x1 :: x2 :: x3 :: x4 :: x5 :: x6 :: x7 :: x8 :: x9 :: x10 :: some (.long (jN v)) :: none :: r) st M) : Gd p l e R s m args below meth c kc ks Q t D al A pc (x0 :: x1 :: x2 :: x3 :: x4 :: x5 :: x6 :: x7 :: x8 :: x9 :: x10 :: y :: z :: r) (.long (jN a) :: st) M := g_lstore0 X hd (by simp) (by simpa [lok] using ho) (k a rfl)
theorem g_iinc_11 (X : Cx p s m args c R kc ks cc own nL t D al A) {x0 : Option Value} {x1 : Option Value} {x2 : Option Value} {x3 : Option Value} {x4 : Option Value} {x5 : Option Value} {x6 : Option Value} {x7 : Option Value} {x8 : Option Value} {x9 : Option Value} {x10 : Option Value} {r : List (Option Value)} {a n : Int} (hd : decode cc pc = .ok (.iinc 11 n, 3)) (ho : lok [x10] 1) (k : ∀ v : Int, v = a + n → Gd p l e R s m args below meth c kc ks Q t D al A (pc + 3) (x0 :: x1 :: x2 :: x3 :: x4 :: x5 :: x6 :: x7 :: x8 :: x9 :: x10 :: some (.int (iN v)) :: r) st M) : Gd p l e R s m args below meth c kc ks Q t D al A pc (x0 :: x1 :: x2 :: x3 :: x4 :: x5 :: x6 :: x7 :: x8 :: x9 :: x10 :: some (.int (iN a)) :: r) st M := g_iinc0 X hd rfl (by simp) (by simpa [lok] using ho) (k _ rfl)
theorem g_istore_12 (X : Cx p s m args c R kc ks cc own nL t D al A) {x0 : Option Value} {x1 : Option Value} {x2 : Option Value} {x3 : Option Value} {x4 : Option Value} {x5 : Option Value} {x6 : Option Value} {x7 : Option Value} {x8 : Option Value} {x9 : Option Value} {x10 : Option Value} {x11 : Option Value} {y : Option Value} {r : List (Option Value)} {a : Int} (hd : decode cc pc = .ok (.istore 12, 2))  (ho : lok [x11] 1) (k : ∀ v : Int, v = a → Gd p l e R s m args below meth c kc ks Q t D al A (pc + 2) (x0 :: x1 :: x2 :: x3 :: x4 :: x5 :: x6 :: x7 :: x8 :: x9 :: x10 :: x11 :: some (.int (iN v)) :: r) st M) : Gd p l e R s m args below meth c kc ks Q t D al A pc (x0 :: x1 :: x2 :: x3 :: x4 :: x5 :: x6 :: x7 :: x8 :: x9 :: x10 :: x11 :: y :: r) (.int (iN a) :: st) M := g_istore0 X hd (by simp) (by simpa [lok] using ho) (k a rfl)
theorem g_astore_12 (X : Cx p s m args c R kc ks cc own nL t D al A) {x0 : Option Value} {x1 : Option Value} {x2 : Option Value} {x3 : Option Value} {x4 : Option Value} {x5 : Option Value} {x6 : Option Value} {x7 : Option Value} {x8 : Option Value} {x9 : Option Value} {x10 : Option Value} {x11 : Option Value} {y : Option Value} {r : List (Option Value)} {a : Nat} (hd : decode cc pc = .ok (.astore 12, 2))  (ho : lok [x11] 1) (k : ∀ v : Nat, v = a → Gd p l e R s m args below meth c kc ks Q t D al A (pc + 2) (x0 :: x1 :: x2 :: x3 :: x4 :: x5 :: x6 :: x7 :: x8 :: x9 :: x10 :: x11 :: some (.ref v) :: r) st M) : Gd p l e R s m args below meth c kc ks Q t D al A pc (x0 :: x1 :: x2 :: x3 :: x4 :: x5 :: x6 :: x7 :: x8 :: x9 :: x10 :: x11 :: y :: r) (.ref a :: st) M := g_astore0 X hd (by simp) (by simpa [lok] using ho) (k a rfl)
theorem g_lstore_12 (X : Cx p s m args c R kc ks cc own nL t D al A) {x0 : Option Value} {x1 : Option Value} {x2 : Option Value} {x3 : Option Value} {x4 : Option Value} {x5 : Option Value} {x6 : Option Value} {x7 : Option Value} {x8 : Option Value} {x9 : Option Value} {x10 : Option Value} {x11 : Option Value} {y z : Option Value} {r : List (Option Value)} {a : Int} (hd : decode cc pc = .ok (.lstore 12, 2))  (ho : lok [x11] 1) (k : ∀ v : Int, v = a → Gd p l e R s m args below meth c kc ks Q t D al A (pc + 2) (x0 :: x1 :: x2 :: x3 :: x4 :: x5 :: x6 :: x7 :: x8 :: x9 :: x10 :: x11 :: some (.long (jN v)) :: none :: r) st M) : Gd p l e R s m args below meth c kc ks Q t D al A pc (x0 :: x1 :: x2 :: x3 :: x4 :: x5 :: x6 :: x7 :: x8 :: x9 :: x10 :: x11 :: y :: z :: r) (.long (jN a) :: st) M := g_lstore0 X hd (by simp) (by simpa [lok] using ho) (k a rfl)
theorem g_iinc_12 (X : Cx p s m args c R kc ks cc own nL t D al A) {x0 : Option Value} {x1 : Option Value} {x2 : Option Value} {x3 : Option Value} {x4 : Option Value} {x5 : Option Value} {x6 : Option Value} {x7 : Option Value} {x8 : Option Value} {x9 : Option Value} {x10 : Option Value} {x11 : Option Value} {r : List (Option Value)} {a n : Int} (hd : decode cc pc = .ok (.iinc 12 n, 3)) (ho : lok [x11] 1) (k : ∀ v : Int, v = a + n → Gd p l e R s m args below meth c kc ks Q t D al A (pc + 3) (x0 :: x1 :: x2 :: x3 :: x4 :: x5 :: x6 :: x7 :: x8 :: x9 :: x10 :: x11 :: some (.int (iN v)) :: r) st M) : Gd p l e R s m args below meth c kc ks Q t D al A pc (x0 :: x1 :: x2 :: x3 :: x4 :: x5 :: x6 :: x7 :: x8 :: x9 :: x10 :: x11 :: some (.int (iN a)) :: r) st M := g_iinc0 X hd rfl (by simp) (by simpa [lok] using ho) (k _ rfl)
theorem g_istore_13 (X : Cx p s m args c R kc ks cc own nL t D al A) {x0 : Option Value} {x1 : Option Value} {x2 : Option Value} {x3 : Option Value} {x4 : Option Value} {x5 : Option Value} {x6 : Option Value} {x7 : Option Value} {x8 : Option Value} {x9 : Option Value} {x10 : Option Value} {x11 : Option Value} {x12 : Option Value} {y : Option Value} {r : List (Option Value)} {a : Int} (hd : decode cc pc = .ok (.istore 13, 2))  (ho : lok [x12] 1) (k : ∀ v : Int, v = a → Gd p l e R s m args below meth c kc ks Q t D al A (pc + 2) (x0 :: x1 :: x2 :: x3 :: x4 :: x5 :: x6 :: x7 :: x8 :: x9 :: x10 :: x11 :: x12 :: some (.int (iN v)) :: r) st M) : Gd p l e R s m args below meth c kc ks Q t D al A pc (x0 :: x1 :: x2 :: x3 :: x4 :: x5 :: x6 :: x7 :: x8 :: x9 :: x10 :: x11 :: x12 :: y :: r) (.int (iN a) :: st) M := g_istore0 X hd (by simp) (by simpa [lok] using ho) (k a rfl)
theorem g_astore_13 (X : Cx p s m args c R kc ks cc own nL t D al A) {x0 : Option Value} {x1 : Option Value} {x2 : Option Value} {x3 : Option Value} {x4 : Option Value} {x5 : Option Value} {x6 : Option Value} {x7 : Option Value} {x8 : Option Value} {x9 : Option Value} {x10 : Option Value} {x11 : Option Value} {x12 : Option Value} {y : Option Value} {r : List (Option Value)} {a : Nat} (hd : decode cc pc = .ok (.astore 13, 2))  (ho : lok [x12] 1) (k : ∀ v : Nat, v = a → Gd p l e R s m args below meth c kc ks Q t D al A (pc + 2) (x0 :: x1 :: x2 :: x3 :: x4 :: x5 :: x6 :: x7 :: x8 :: x9 :: x10 :: x11 :: x12 :: some (.ref v) :: r) st M) : Gd p l e R s m args below meth c kc ks Q t D al A pc (x0 :: x1 :: x2 :: x3 :: x4 :: x5 :: x6 :: x7 :: x8 :: x9 :: x10 :: x11 :: x12 :: y :: r) (.ref a :: st) M := g_astore0 X hd (by simp) (by simpa [lok] using ho) (k a rfl)
theorem g_lstore_13 (X : Cx p s m args c R kc ks cc own nL t D al A) {x0 : Option Value} {x1 : Option Value} {x2 : Option Value} {x3 : Option Value} {x4 : Option Value} {x5 : Option Value} {x6 : Option Value} {x7 : Option Value} {x8 : Option Value} {x9 : Option Value} {x10 : Option Value} {x11 : Option Value} {x12 : Option Value} {y z : Option Value} {r : List (Option Value)} {a : Int} (hd : decode cc pc = .ok (.lstore 13, 2))  (ho : lok [x12] 1) (k : ∀ v : Int, v = a → Gd p l e R s m args below meth c kc ks Q t D al A (pc + 2) (x0 :: x1 :: x2 :: x3 :: x4 :: x5 :: x6 :: x7 :: x8 :: x9 :: x10 :: x11 :: x12 :: some (.long (jN v)) :: none :: r) st M) : Gd p l e R s m args below meth c kc ks Q t D al A pc (x0 :: x1 :: x2 :: x3 :: x4 :: x5 :: x6 :: x7 :: x8 :: x9 :: x10 :: x11 :: x12 :: y :: z :: r) (.long (jN a) :: st) M := g_lstore0 X hd (by simp) (by simpa [lok] using ho) (k a rfl)
theorem g_iinc_13 (X : Cx p s m args c R kc ks cc own nL t D al A) {x0 : Option Value} {x1 : Option Value} {x2 : Option Value} {x3 : Option Value} {x4 : Option Value} {x5 : Option Value} {x6 : Option Value} {x7 : Option Value} {x8 : Option Value} {x9 : Option Value} {x10 : Option Value} {x11 : Option Value} {x12 : Option Value} {r : List (Option Value)} {a n : Int} (hd : decode cc pc = .ok (.iinc 13 n, 3)) (ho : lok [x12] 1) (k : ∀ v : Int, v = a + n → Gd p l e R s m args below meth c kc ks Q t D al A (pc + 3) (x0 :: x1 :: x2 :: x3 :: x4 :: x5 :: x6 :: x7 :: x8 :: x9 :: x10 :: x11 :: x12 :: some (.int (iN v)) :: r) st M) : Gd p l e R s m args below meth c kc ks Q t D al A pc (x0 :: x1 :: x2 :: x3 :: x4 :: x5 :: x6 :: x7 :: x8 :: x9 :: x10 :: x11 :: x12 :: some (.int (iN a)) :: r) st M := g_iinc0 X hd rfl (by simp) (by simpa [lok] using ho) (k _ rfl)
theorem g_iadd (X : Cx p s m args c R kc ks cc own nL t D al A) {a b : Int} (hd : decode cc pc = .ok (.iadd, 1)) (k : Gd p l e R s m args below meth c kc ks Q t D al A (pc + 1) ls (.int (iN (a + b)) :: st) M) : Gd p l e R s m args below meth c kc ks Q t D al A pc ls (.int (iN b) :: .int (iN a) :: st) M := fun H locs la hP hS hv => lv_iadd X.1 X.2.1 hd (by rw [← iN_add]; exact k H locs la hP hS hv)
theorem g_isub (X : Cx p s m args c R kc ks cc own nL t D al A) {a b : Int} (hd : decode cc pc = .ok (.isub, 1)) (k : Gd p l e R s m args below meth c kc ks Q t D al A (pc + 1) ls (.int (iN (a - b)) :: st) M) : Gd p l e R s m args below meth c kc ks Q t D al A pc ls (.int (iN b) :: .int (iN a) :: st) M := fun H locs la hP hS hv => lv_isub X.1 X.2.1 hd (by rw [← iN_sub]; exact k H locs la hP hS hv)
theorem g_imul (X : Cx p s m args c R kc ks cc own nL t D al A) {a b : Int} (hd : decode cc pc = .ok (.imul, 1)) (k : Gd p l e R s m args below meth c kc ks Q t D al A (pc + 1) ls (.int (iN (a * b)) :: st) M) : Gd p l e R s m args below meth c kc ks Q t D al A pc ls (.int (iN b) :: .int (iN a) :: st) M := fun H locs la hP hS hv => lv_imul X.1 X.2.1 hd (by rw [← iN_mul]; exact k H locs la hP hS hv)
theorem g_idiv (X : Cx p s m args c R kc ks cc own nL t D al A) {a b : Int} (hd : decode cc pc = .ok (.idiv, 1)) (ha : 0 ≤ a ∧ a ≤ 2147483647) (hb : 0 < b ∧ b ≤ 2147483647) (k : Gd p l e R s m args below meth c kc ks Q t D al A (pc + 1) ls (.int (iN (a / b)) :: st) M) : Gd p l e R s m args below meth c kc ks Q t D al A pc ls (.int (iN b) :: .int (iN a) :: st) M := fun H locs la hP hS hv => lv_idiv X.1 X.2.1 hd (iN_ne0 (by omega) (by constructor <;> omega)) (by rw [← iN_div ha hb]; exact k H locs la hP hS hv)
theorem g_irem (X : Cx p s m args c R kc ks cc own nL t D al A) {a b : Int} (hd : decode cc pc = .ok (.irem, 1)) (ha : 0 ≤ a ∧ a ≤ 2147483647) (hb : 0 < b ∧ b ≤ 2147483647) (k : Gd p l e R s m args below meth c kc ks Q t D al A (pc + 1) ls (.int (iN (a % b)) :: st) M) : Gd p l e R s m args below meth c kc ks Q t D al A pc ls (.int (iN b) :: .int (iN a) :: st) M := fun H locs la hP hS hv => lv_irem X.1 X.2.1 hd (iN_ne0 (by omega) (by constructor <;> omega)) (by rw [← iN_rem ha hb]; exact k H locs la hP hS hv)
theorem g_ladd (X : Cx p s m args c R kc ks cc own nL t D al A) {a b : Int} (hd : decode cc pc = .ok (.ladd, 1)) (k : Gd p l e R s m args below meth c kc ks Q t D al A (pc + 1) ls (.long (jN (a + b)) :: st) M) : Gd p l e R s m args below meth c kc ks Q t D al A pc ls (.long (jN b) :: .long (jN a) :: st) M := fun H locs la hP hS hv => lv_ladd X.1 X.2.1 hd (by rw [← jN_add]; exact k H locs la hP hS hv)
theorem g_lsub (X : Cx p s m args c R kc ks cc own nL t D al A) {a b : Int} (hd : decode cc pc = .ok (.lsub, 1)) (k : Gd p l e R s m args below meth c kc ks Q t D al A (pc + 1) ls (.long (jN (a - b)) :: st) M) : Gd p l e R s m args below meth c kc ks Q t D al A pc ls (.long (jN b) :: .long (jN a) :: st) M := fun H locs la hP hS hv => lv_lsub X.1 X.2.1 hd (by rw [← jN_sub]; exact k H locs la hP hS hv)
theorem g_lmul (X : Cx p s m args c R kc ks cc own nL t D al A) {a b : Int} (hd : decode cc pc = .ok (.lmul, 1)) (k : Gd p l e R s m args below meth c kc ks Q t D al A (pc + 1) ls (.long (jN (a * b)) :: st) M) : Gd p l e R s m args below meth c kc ks Q t D al A pc ls (.long (jN b) :: .long (jN a) :: st) M := fun H locs la hP hS hv => lv_lmul X.1 X.2.1 hd (by rw [← jN_mul]; exact k H locs la hP hS hv)
theorem g_ldiv (X : Cx p s m args c R kc ks cc own nL t D al A) {a b : Int} (hd : decode cc pc = .ok (.ldiv, 1)) (ha : 0 ≤ a ∧ a ≤ 9223372036854775807) (hb : 0 < b ∧ b ≤ 9223372036854775807) (k : Gd p l e R s m args below meth c kc ks Q t D al A (pc + 1) ls (.long (jN (a / b)) :: st) M) : Gd p l e R s m args below meth c kc ks Q t D al A pc ls (.long (jN b) :: .long (jN a) :: st) M := fun H locs la hP hS hv => lv_ldiv X.1 X.2.1 hd (jN_ne0 (by omega) (by constructor <;> omega)) (by rw [← jN_div ha hb]; exact k H locs la hP hS hv)
theorem g_lrem (X : Cx p s m args c R kc ks cc own nL t D al A) {a b : Int} (hd : decode cc pc = .ok (.lrem, 1)) (ha : 0 ≤ a ∧ a ≤ 9223372036854775807) (hb : 0 < b ∧ b ≤ 9223372036854775807) (k : Gd p l e R s m args below meth c kc ks Q t D al A (pc + 1) ls (.long (jN (a % b)) :: st) M) : Gd p l e R s m args below meth c kc ks Q t D al A pc ls (.long (jN b) :: .long (jN a) :: st) M := fun H locs la hP hS hv => lv_lrem X.1 X.2.1 hd (jN_ne0 (by omega) (by constructor <;> omega)) (by rw [← jN_rem ha hb]; exact k H locs la hP hS hv)
theorem g_iand (X : Cx p s m args c R kc ks cc own nL t D al A) {a b : Int} (hd : decode cc pc = .ok (.iand, 1)) (k : Gd p l e R s m args below meth c kc ks Q t D al A (pc + 1) ls (.int (iN (and32 a b)) :: st) M) : Gd p l e R s m args below meth c kc ks Q t D al A pc ls (.int (iN b) :: .int (iN a) :: st) M := fun H locs la hP hS hv => lv_iand X.1 X.2.1 hd (by rw [show iN (and32 a b) = _ from iN_of _] at k; exact k H locs la hP hS hv)
theorem g_ior (X : Cx p s m args c R kc ks cc own nL t D al A) {a b : Int} (hd : decode cc pc = .ok (.ior, 1)) (k : Gd p l e R s m args below meth c kc ks Q t D al A (pc + 1) ls (.int (iN (or32 a b)) :: st) M) : Gd p l e R s m args below meth c kc ks Q t D al A pc ls (.int (iN b) :: .int (iN a) :: st) M := fun H locs la hP hS hv => lv_ior X.1 X.2.1 hd (by rw [show iN (or32 a b) = _ from iN_of _] at k; exact k H locs la hP hS hv)
theorem g_ixor (X : Cx p s m args c R kc ks cc own nL t D al A) {a b : Int} (hd : decode cc pc = .ok (.ixor, 1)) (k : Gd p l e R s m args below meth c kc ks Q t D al A (pc + 1) ls (.int (iN (xor32 a b)) :: st) M) : Gd p l e R s m args below meth c kc ks Q t D al A pc ls (.int (iN b) :: .int (iN a) :: st) M := fun H locs la hP hS hv => lv_ixor X.1 X.2.1 hd (by rw [show iN (xor32 a b) = _ from iN_of _] at k; exact k H locs la hP hS hv)
theorem g_ishl (X : Cx p s m args c R kc ks cc own nL t D al A) {a b : Int} (hd : decode cc pc = .ok (.ishl, 1)) (k : Gd p l e R s m args below meth c kc ks Q t D al A (pc + 1) ls (.int (iN (shl32 a b)) :: st) M) : Gd p l e R s m args below meth c kc ks Q t D al A pc ls (.int (iN b) :: .int (iN a) :: st) M := fun H locs la hP hS hv => lv_ishl X.1 X.2.1 hd (by rw [show iN (shl32 a b) = _ from iN_of _] at k; exact k H locs la hP hS hv)
theorem g_ishr (X : Cx p s m args c R kc ks cc own nL t D al A) {a b : Int} (hd : decode cc pc = .ok (.ishr, 1)) (k : Gd p l e R s m args below meth c kc ks Q t D al A (pc + 1) ls (.int (iN (shr32 a b)) :: st) M) : Gd p l e R s m args below meth c kc ks Q t D al A pc ls (.int (iN b) :: .int (iN a) :: st) M := fun H locs la hP hS hv => lv_ishr X.1 X.2.1 hd (by rw [show iN (shr32 a b) = _ from iN_of _] at k; exact k H locs la hP hS hv)
theorem g_iushr (X : Cx p s m args c R kc ks cc own nL t D al A) {a b : Int} (hd : decode cc pc = .ok (.iushr, 1)) (k : Gd p l e R s m args below meth c kc ks Q t D al A (pc + 1) ls (.int (iN (ushr32 a b)) :: st) M) : Gd p l e R s m args below meth c kc ks Q t D al A pc ls (.int (iN b) :: .int (iN a) :: st) M := fun H locs la hP hS hv => lv_iushr X.1 X.2.1 hd rfl (by rw [show iN (ushr32 a b) = _ from iN_of _] at k; exact k H locs la hP hS hv)
theorem g_land (X : Cx p s m args c R kc ks cc own nL t D al A) {a b : Int} (hd : decode cc pc = .ok (.land, 1)) (k : Gd p l e R s m args below meth c kc ks Q t D al A (pc + 1) ls (.long (jN (and64 a b)) :: st) M) : Gd p l e R s m args below meth c kc ks Q t D al A pc ls (.long (jN b) :: .long (jN a) :: st) M := fun H locs la hP hS hv => lv_land X.1 X.2.1 hd (by rw [show jN (and64 a b) = _ from jN_of _] at k; exact k H locs la hP hS hv)
theorem g_lor (X : Cx p s m args c R kc ks cc own nL t D al A) {a b : Int} (hd : decode cc pc = .ok (.lor, 1)) (k : Gd p l e R s m args below meth c kc ks Q t D al A (pc + 1) ls (.long (jN (or64 a b)) :: st) M) : Gd p l e R s m args below meth c kc ks Q t D al A pc ls (.long (jN b) :: .long (jN a) :: st) M := fun H locs la hP hS hv => lv_lor X.1 X.2.1 hd (by rw [show jN (or64 a b) = _ from jN_of _] at k; exact k H locs la hP hS hv)
theorem g_lshl (X : Cx p s m args c R kc ks cc own nL t D al A) {a b : Int} (hd : decode cc pc = .ok (.lshl, 1)) (k : Gd p l e R s m args below meth c kc ks Q t D al A (pc + 1) ls (.long (jN (shl64 a b)) :: st) M) : Gd p l e R s m args below meth c kc ks Q t D al A pc ls (.int (iN b) :: .long (jN a) :: st) M := fun H locs la hP hS hv => lv_lshl X.1 X.2.1 hd rfl (by rw [show jN (shl64 a b) = _ from jN_of _] at k; exact k H locs la hP hS hv)
theorem g_lushr (X : Cx p s m args c R kc ks cc own nL t D al A) {a b : Int} (hd : decode cc pc = .ok (.lushr, 1)) (k : Gd p l e R s m args below meth c kc ks Q t D al A (pc + 1) ls (.long (jN (ushr64 a b)) :: st) M) : Gd p l e R s m args below meth c kc ks Q t D al A pc ls (.int (iN b) :: .long (jN a) :: st) M := fun H locs la hP hS hv => lv_lushr X.1 X.2.1 hd rfl (by rw [show jN (ushr64 a b) = _ from jN_of _] at k; exact k H locs la hP hS hv)
theorem g_i2l (X : Cx p s m args c R kc ks cc own nL t D al A) {a : Int} (hd : decode cc pc = .ok (.i2l, 1)) (h : i32 a) (k : Gd p l e R s m args below meth c kc ks Q t D al A (pc + 1) ls (.long (jN a) :: st) M) : Gd p l e R s m args below meth c kc ks Q t D al A pc ls (.int (iN a) :: st) M := fun H locs la hP hS hv => lv_i2l X.1 X.2.1 hd (iN_i2l h) (k H locs la hP hS hv)
theorem g_l2i (X : Cx p s m args c R kc ks cc own nL t D al A) {a : Int} (hd : decode cc pc = .ok (.l2i, 1)) (k : Gd p l e R s m args below meth c kc ks Q t D al A (pc + 1) ls (.int (iN a) :: st) M) : Gd p l e R s m args below meth c kc ks Q t D al A pc ls (.long (jN a) :: st) M := fun H locs la hP hS hv => lv_l2i X.1 X.2.1 hd (jN_l2i a) (k H locs la hP hS hv)
theorem g_dup (X : Cx p s m args c R kc ks cc own nL t D al A) {v : Value} (hd : decode cc pc = .ok (.dup, 1)) (hc : v.category = 1) (k : Gd p l e R s m args below meth c kc ks Q t D al A (pc + 1) ls (v :: v :: st) M) : Gd p l e R s m args below meth c kc ks Q t D al A pc ls (v :: st) M := fun H locs la hP hS hv => lv_dup X.1 X.2.1 hd hc (k H locs la hP hS hv)
theorem g_dup2 (X : Cx p s m args c R kc ks cc own nL t D al A) {v w : Value} (hd : decode cc pc = .ok (.dup2, 1)) (hc : v.category = 1) (hc2 : w.category = 1) (k : Gd p l e R s m args below meth c kc ks Q t D al A (pc + 1) ls (v :: w :: v :: w :: st) M) : Gd p l e R s m args below meth c kc ks Q t D al A pc ls (v :: w :: st) M := fun H locs la hP hS hv => lv_dup2_11 X.1 X.2.1 hd hc hc2 (k H locs la hP hS hv)
theorem g_goto (X : Cx p s m args c R kc ks cc own nL t D al A) {off : Int} {tgt : Nat} (hd : decode cc pc = .ok (.goto off, 3)) (ht : (pc : Int) + off = (tgt : Int)) (k : Gd p l e R s m args below meth c kc ks Q t D al A tgt ls st M) : Gd p l e R s m args below meth c kc ks Q t D al A pc ls st M := fun H locs la hP hS hv => lv_goto X.1 X.2.1 hd ht (k H locs la hP hS hv)
theorem g_icmp_eq (X : Cx p s m args c R kc ks cc own nL t D al A) {a b off : Int} {tgt : Nat} (hd : decode cc pc = .ok (.if_icmp .eq off, 3)) (ht : (pc : Int) + off = (tgt : Int)) (ha : i32 a) (hb : i32 b) (kt : a = b → Gd p l e R s m args below meth c kc ks Q t D al A tgt ls st M) (kf : a ≠ b → Gd p l e R s m args below meth c kc ks Q t D al A (pc + 3) ls st M) : Gd p l e R s m args below meth c kc ks Q t D al A pc ls (.int (iN b) :: .int (iN a) :: st) M := by
  intro H locs la hP hS hv
  refine lv_icmp_eq X.1 X.2.1 hd ht (fun q => kt ?_ H locs la hP hS hv) (fun q => kf ?_ H locs la hP hS hv)
  all_goals (simp only [ne_eq, iN_eq ha hb, iN_eq hb ha, iN_lt ha hb, iN_lt hb ha, iN_le ha hb, iN_le hb ha, ge_iff_le, gt_iff_lt] at q <;> omega)
theorem g_if_eq (X : Cx p s m args c R kc ks cc own nL t D al A) {a off : Int} {tgt : Nat} (hd : decode cc pc = .ok (.ifCond .eq off, 3)) (ht : (pc : Int) + off = (tgt : Int)) (ha : i32 a) (kt : a = 0 → Gd p l e R s m args below meth c kc ks Q t D al A tgt ls st M) (kf : a ≠ 0 → Gd p l e R s m args below meth c kc ks Q t D al A (pc + 3) ls st M) : Gd p l e R s m args below meth c kc ks Q t D al A pc ls (.int (iN a) :: st) M := by
  intro H locs la hP hS hv
  have hb : i32 0 := by decide
  refine lv_if_eq X.1 X.2.1 hd ht (fun q => kt ?_ H locs la hP hS hv) (fun q => kf ?_ H locs la hP hS hv)
  all_goals (rw [← iN_0] at q; simp only [ne_eq, iN_eq ha hb, iN_eq hb ha, iN_lt ha hb, iN_lt hb ha, iN_le ha hb, iN_le hb ha, ge_iff_le, gt_iff_lt] at q <;> omega)
theorem g_lcmp_eq (X : Cx p s m args c R kc ks cc own nL t D al A) {a b off : Int} {tgt : Nat} (hd : decode cc pc = .ok (.lcmp, 1)) (hd2 : decode cc (pc + 1) = .ok (.ifCond .eq off, 3)) (ht : ((pc + 1 : Nat) : Int) + off = (tgt : Int)) (ha : i64 a) (hb : i64 b) (kt : a = b → Gd p l e R s m args below meth c kc ks Q t D al A tgt ls st M) (kf : a ≠ b → Gd p l e R s m args below meth c kc ks Q t D al A (pc + 1 + 3) ls st M) : Gd p l e R s m args below meth c kc ks Q t D al A pc ls (.long (jN b) :: .long (jN a) :: st) M := by
  intro H locs la hP hS hv
  have e0 : (0 : Int32) = iN 0 := rfl
  have e1 : (1 : Int32) = iN 1 := rfl
  have e2 : (-1 : Int32) = iN (-1) := rfl
  have r0 : i32 0 := by decide
  have r1 : i32 1 := by decide
  have r2 : i32 (-1) := by decide
  refine W.lcmp X.1 X.2.1 hd ?_
  rcases Int.lt_trichotomy a b with h | h | h
  · have ec : lg_cmp (jN a) (jN b) = iN (-1) := by
      have h1 : ¬ (jN b < jN a) := by rw [jN_lt hb ha]; omega
      have h2 : ¬ (jN a = jN b) := by rw [jN_eq ha hb]; omega
      simp only [lg_cmp, gt_iff_lt, if_neg h1, if_neg h2, e2]
    rw [ec]
    refine lv_if_eq X.1 X.2.1 hd2 ht (fun q => kt ?_ H locs la hP hS hv) (fun q => kf ?_ H locs la hP hS hv)
    all_goals (rw [e0] at q; simp only [ne_eq, iN_eq r0 r2, iN_eq r2 r0, iN_lt r0 r2, iN_lt r2 r0, iN_le r0 r2, iN_le r2 r0, ge_iff_le, gt_iff_lt] at q <;> omega)
  · have ec : lg_cmp (jN a) (jN b) = iN 0 := by
      subst h
      have h1 : ¬ (jN a < jN a) := by rw [jN_lt ha ha]; omega
      simp only [lg_cmp, gt_iff_lt, if_neg h1, if_true, e0]
    rw [ec]
    refine lv_if_eq X.1 X.2.1 hd2 ht (fun q => kt ?_ H locs la hP hS hv) (fun q => kf ?_ H locs la hP hS hv)
    all_goals (rw [e0] at q; simp only [ne_eq, not_true, iN_lt r0 r0, iN_le r0 r0, ge_iff_le, gt_iff_lt] at q <;> omega)
  · have ec : lg_cmp (jN a) (jN b) = iN 1 := by
      have h1 : jN b < jN a := by rw [jN_lt hb ha]; omega
      simp only [lg_cmp, gt_iff_lt, if_pos h1, e1]
    rw [ec]
    refine lv_if_eq X.1 X.2.1 hd2 ht (fun q => kt ?_ H locs la hP hS hv) (fun q => kf ?_ H locs la hP hS hv)
    all_goals (rw [e0] at q; simp only [ne_eq, iN_eq r0 r1, iN_eq r1 r0, iN_lt r0 r1, iN_lt r1 r0, iN_le r0 r1, iN_le r1 r0, ge_iff_le, gt_iff_lt] at q <;> omega)
theorem g_icmp_ne (X : Cx p s m args c R kc ks cc own nL t D al A) {a b off : Int} {tgt : Nat} (hd : decode cc pc = .ok (.if_icmp .ne off, 3)) (ht : (pc : Int) + off = (tgt : Int)) (ha : i32 a) (hb : i32 b) (kt : a ≠ b → Gd p l e R s m args below meth c kc ks Q t D al A tgt ls st M) (kf : a = b → Gd p l e R s m args below meth c kc ks Q t D al A (pc + 3) ls st M) : Gd p l e R s m args below meth c kc ks Q t D al A pc ls (.int (iN b) :: .int (iN a) :: st) M := by
  intro H locs la hP hS hv
  refine lv_icmp_ne X.1 X.2.1 hd ht (fun q => kt ?_ H locs la hP hS hv) (fun q => kf ?_ H locs la hP hS hv)
  all_goals (simp only [ne_eq, iN_eq ha hb, iN_eq hb ha, iN_lt ha hb, iN_lt hb ha, iN_le ha hb, iN_le hb ha, ge_iff_le, gt_iff_lt] at q <;> omega)
theorem g_if_ne (X : Cx p s m args c R kc ks cc own nL t D al A) {a off : Int} {tgt : Nat} (hd : decode cc pc = .ok (.ifCond .ne off, 3)) (ht : (pc : Int) + off = (tgt : Int)) (ha : i32 a) (kt : a ≠ 0 → Gd p l e R s m args below meth c kc ks Q t D al A tgt ls st M) (kf : a = 0 → Gd p l e R s m args below meth c kc ks Q t D al A (pc + 3) ls st M) : Gd p l e R s m args below meth c kc ks Q t D al A pc ls (.int (iN a) :: st) M := by
  intro H locs la hP hS hv
  have hb : i32 0 := by decide
  refine lv_if_ne X.1 X.2.1 hd ht (fun q => kt ?_ H locs la hP hS hv) (fun q => kf ?_ H locs la hP hS hv)
  all_goals (rw [← iN_0] at q; simp only [ne_eq, iN_eq ha hb, iN_eq hb ha, iN_lt ha hb, iN_lt hb ha, iN_le ha hb, iN_le hb ha, ge_iff_le, gt_iff_lt] at q <;> omega)
theorem g_lcmp_ne (X : Cx p s m args c R kc ks cc own nL t D al A) {a b off : Int} {tgt : Nat} (hd : decode cc pc = .ok (.lcmp, 1)) (hd2 : decode cc (pc + 1) = .ok (.ifCond .ne off, 3)) (ht : ((pc + 1 : Nat) : Int) + off = (tgt : Int)) (ha : i64 a) (hb : i64 b) (kt : a ≠ b → Gd p l e R s m args below meth c kc ks Q t D al A tgt ls st M) (kf : a = b → Gd p l e R s m args below meth c kc ks Q t D al A (pc + 1 + 3) ls st M) : Gd p l e R s m args below meth c kc ks Q t D al A pc ls (.long (jN b) :: .long (jN a) :: st) M := by
  intro H locs la hP hS hv
  have e0 : (0 : Int32) = iN 0 := rfl
  have e1 : (1 : Int32) = iN 1 := rfl
  have e2 : (-1 : Int32) = iN (-1) := rfl
  have r0 : i32 0 := by decide
  have r1 : i32 1 := by decide
  have r2 : i32 (-1) := by decide
  refine W.lcmp X.1 X.2.1 hd ?_
  rcases Int.lt_trichotomy a b with h | h | h
  · have ec : lg_cmp (jN a) (jN b) = iN (-1) := by
      have h1 : ¬ (jN b < jN a) := by rw [jN_lt hb ha]; omega
      have h2 : ¬ (jN a = jN b) := by rw [jN_eq ha hb]; omega
      simp only [lg_cmp, gt_iff_lt, if_neg h1, if_neg h2, e2]
    rw [ec]
    refine lv_if_ne X.1 X.2.1 hd2 ht (fun q => kt ?_ H locs la hP hS hv) (fun q => kf ?_ H locs la hP hS hv)
    all_goals (rw [e0] at q; simp only [ne_eq, iN_eq r0 r2, iN_eq r2 r0, iN_lt r0 r2, iN_lt r2 r0, iN_le r0 r2, iN_le r2 r0, ge_iff_le, gt_iff_lt] at q <;> omega)
  · have ec : lg_cmp (jN a) (jN b) = iN 0 := by
      subst h
      have h1 : ¬ (jN a < jN a) := by rw [jN_lt ha ha]; omega
      simp only [lg_cmp, gt_iff_lt, if_neg h1, if_true, e0]
    rw [ec]
    refine lv_if_ne X.1 X.2.1 hd2 ht (fun q => kt ?_ H locs la hP hS hv) (fun q => kf ?_ H locs la hP hS hv)
    all_goals (rw [e0] at q; simp only [ne_eq, not_true, iN_lt r0 r0, iN_le r0 r0, ge_iff_le, gt_iff_lt] at q <;> omega)
  · have ec : lg_cmp (jN a) (jN b) = iN 1 := by
      have h1 : jN b < jN a := by rw [jN_lt hb ha]; omega
      simp only [lg_cmp, gt_iff_lt, if_pos h1, e1]
    rw [ec]
    refine lv_if_ne X.1 X.2.1 hd2 ht (fun q => kt ?_ H locs la hP hS hv) (fun q => kf ?_ H locs la hP hS hv)
    all_goals (rw [e0] at q; simp only [ne_eq, iN_eq r0 r1, iN_eq r1 r0, iN_lt r0 r1, iN_lt r1 r0, iN_le r0 r1, iN_le r1 r0, ge_iff_le, gt_iff_lt] at q <;> omega)
theorem g_icmp_lt (X : Cx p s m args c R kc ks cc own nL t D al A) {a b off : Int} {tgt : Nat} (hd : decode cc pc = .ok (.if_icmp .lt off, 3)) (ht : (pc : Int) + off = (tgt : Int)) (ha : i32 a) (hb : i32 b) (kt : a < b → Gd p l e R s m args below meth c kc ks Q t D al A tgt ls st M) (kf : b ≤ a → Gd p l e R s m args below meth c kc ks Q t D al A (pc + 3) ls st M) : Gd p l e R s m args below meth c kc ks Q t D al A pc ls (.int (iN b) :: .int (iN a) :: st) M := by
  intro H locs la hP hS hv
  refine lv_icmp_lt X.1 X.2.1 hd ht (fun q => kt ?_ H locs la hP hS hv) (fun q => kf ?_ H locs la hP hS hv)
  all_goals (simp only [ne_eq, iN_eq ha hb, iN_eq hb ha, iN_lt ha hb, iN_lt hb ha, iN_le ha hb, iN_le hb ha, ge_iff_le, gt_iff_lt] at q <;> omega)
theorem g_if_lt (X : Cx p s m args c R kc ks cc own nL t D al A) {a off : Int} {tgt : Nat} (hd : decode cc pc = .ok (.ifCond .lt off, 3)) (ht : (pc : Int) + off = (tgt : Int)) (ha : i32 a) (kt : a < 0 → Gd p l e R s m args below meth c kc ks Q t D al A tgt ls st M) (kf : 0 ≤ a → Gd p l e R s m args below meth c kc ks Q t D al A (pc + 3) ls st M) : Gd p l e R s m args below meth c kc ks Q t D al A pc ls (.int (iN a) :: st) M := by
  intro H locs la hP hS hv
  have hb : i32 0 := by decide
  refine lv_if_lt X.1 X.2.1 hd ht (fun q => kt ?_ H locs la hP hS hv) (fun q => kf ?_ H locs la hP hS hv)
  all_goals (rw [← iN_0] at q; simp only [ne_eq, iN_eq ha hb, iN_eq hb ha, iN_lt ha hb, iN_lt hb ha, iN_le ha hb, iN_le hb ha, ge_iff_le, gt_iff_lt] at q <;> omega)
theorem g_lcmp_lt (X : Cx p s m args c R kc ks cc own nL t D al A) {a b off : Int} {tgt : Nat} (hd : decode cc pc = .ok (.lcmp, 1)) (hd2 : decode cc (pc + 1) = .ok (.ifCond .lt off, 3)) (ht : ((pc + 1 : Nat) : Int) + off = (tgt : Int)) (ha : i64 a) (hb : i64 b) (kt : a < b → Gd p l e R s m args below meth c kc ks Q t D al A tgt ls st M) (kf : b ≤ a → Gd p l e R s m args below meth c kc ks Q t D al A (pc + 1 + 3) ls st M) : Gd p l e R s m args below meth c kc ks Q t D al A pc ls (.long (jN b) :: .long (jN a) :: st) M := by
  intro H locs la hP hS hv
  have e0 : (0 : Int32) = iN 0 := rfl
  have e1 : (1 : Int32) = iN 1 := rfl
  have e2 : (-1 : Int32) = iN (-1) := rfl
  have r0 : i32 0 := by decide
  have r1 : i32 1 := by decide
  have r2 : i32 (-1) := by decide
  refine W.lcmp X.1 X.2.1 hd ?_
  rcases Int.lt_trichotomy a b with h | h | h
  · have ec : lg_cmp (jN a) (jN b) = iN (-1) := by
      have h1 : ¬ (jN b < jN a) := by rw [jN_lt hb ha]; omega
      have h2 : ¬ (jN a = jN b) := by rw [jN_eq ha hb]; omega
      simp only [lg_cmp, gt_iff_lt, if_neg h1, if_neg h2, e2]
    rw [ec]
    refine lv_if_lt X.1 X.2.1 hd2 ht (fun q => kt ?_ H locs la hP hS hv) (fun q => kf ?_ H locs la hP hS hv)
    all_goals (rw [e0] at q; simp only [ne_eq, iN_eq r0 r2, iN_eq r2 r0, iN_lt r0 r2, iN_lt r2 r0, iN_le r0 r2, iN_le r2 r0, ge_iff_le, gt_iff_lt] at q <;> omega)
  · have ec : lg_cmp (jN a) (jN b) = iN 0 := by
      subst h
      have h1 : ¬ (jN a < jN a) := by rw [jN_lt ha ha]; omega
      simp only [lg_cmp, gt_iff_lt, if_neg h1, if_true, e0]
    rw [ec]
    refine lv_if_lt X.1 X.2.1 hd2 ht (fun q => kt ?_ H locs la hP hS hv) (fun q => kf ?_ H locs la hP hS hv)
    all_goals (rw [e0] at q; simp only [ne_eq, not_true, iN_lt r0 r0, iN_le r0 r0, ge_iff_le, gt_iff_lt] at q <;> omega)
  · have ec : lg_cmp (jN a) (jN b) = iN 1 := by
      have h1 : jN b < jN a := by rw [jN_lt hb ha]; omega
      simp only [lg_cmp, gt_iff_lt, if_pos h1, e1]
    rw [ec]
    refine lv_if_lt X.1 X.2.1 hd2 ht (fun q => kt ?_ H locs la hP hS hv) (fun q => kf ?_ H locs la hP hS hv)
    all_goals (rw [e0] at q; simp only [ne_eq, iN_eq r0 r1, iN_eq r1 r0, iN_lt r0 r1, iN_lt r1 r0, iN_le r0 r1, iN_le r1 r0, ge_iff_le, gt_iff_lt] at q <;> omega)
theorem g_icmp_ge (X : Cx p s m args c R kc ks cc own nL t D al A) {a b off : Int} {tgt : Nat} (hd : decode cc pc = .ok (.if_icmp .ge off, 3)) (ht : (pc : Int) + off = (tgt : Int)) (ha : i32 a) (hb : i32 b) (kt : b ≤ a → Gd p l e R s m args below meth c kc ks Q t D al A tgt ls st M) (kf : a < b → Gd p l e R s m args below meth c kc ks Q t D al A (pc + 3) ls st M) : Gd p l e R s m args below meth c kc ks Q t D al A pc ls (.int (iN b) :: .int (iN a) :: st) M := by
  intro H locs la hP hS hv
  refine lv_icmp_ge X.1 X.2.1 hd ht (fun q => kt ?_ H locs la hP hS hv) (fun q => kf ?_ H locs la hP hS hv)
  all_goals (simp only [ne_eq, iN_eq ha hb, iN_eq hb ha, iN_lt ha hb, iN_lt hb ha, iN_le ha hb, iN_le hb ha, ge_iff_le, gt_iff_lt] at q <;> omega)
theorem g_if_ge (X : Cx p s m args c R kc ks cc own nL t D al A) {a off : Int} {tgt : Nat} (hd : decode cc pc = .ok (.ifCond .ge off, 3)) (ht : (pc : Int) + off = (tgt : Int)) (ha : i32 a) (kt : 0 ≤ a → Gd p l e R s m args below meth c kc ks Q t D al A tgt ls st M) (kf : a < 0 → Gd p l e R s m args below meth c kc ks Q t D al A (pc + 3) ls st M) : Gd p l e R s m args below meth c kc ks Q t D al A pc ls (.int (iN a) :: st) M := by
  intro H locs la hP hS hv
  have hb : i32 0 := by decide
  refine lv_if_ge X.1 X.2.1 hd ht (fun q => kt ?_ H locs la hP hS hv) (fun q => kf ?_ H locs la hP hS hv)
  all_goals (rw [← iN_0] at q; simp only [ne_eq, iN_eq ha hb, iN_eq hb ha, iN_lt ha hb, iN_lt hb ha, iN_le ha hb, iN_le hb ha, ge_iff_le, gt_iff_lt] at q <;> omega)
theorem g_lcmp_ge (X : Cx p s m args c R kc ks cc own nL t D al A) {a b off : Int} {tgt : Nat} (hd : decode cc pc = .ok (.lcmp, 1)) (hd2 : decode cc (pc + 1) = .ok (.ifCond .ge off, 3)) (ht : ((pc + 1 : Nat) : Int) + off = (tgt : Int)) (ha : i64 a) (hb : i64 b) (kt : b ≤ a → Gd p l e R s m args below meth c kc ks Q t D al A tgt ls st M) (kf : a < b → Gd p l e R s m args below meth c kc ks Q t D al A (pc + 1 + 3) ls st M) : Gd p l e R s m args below meth c kc ks Q t D al A pc ls (.long (jN b) :: .long (jN a) :: st) M := by
  intro H locs la hP hS hv
  have e0 : (0 : Int32) = iN 0 := rfl
  have e1 : (1 : Int32) = iN 1 := rfl
  have e2 : (-1 : Int32) = iN (-1) := rfl
  have r0 : i32 0 := by decide
  have r1 : i32 1 := by decide
  have r2 : i32 (-1) := by decide
  refine W.lcmp X.1 X.2.1 hd ?_
  rcases Int.lt_trichotomy a b with h | h | h
  · have ec : lg_cmp (jN a) (jN b) = iN (-1) := by
      have h1 : ¬ (jN b < jN a) := by rw [jN_lt hb ha]; omega
      have h2 : ¬ (jN a = jN b) := by rw [jN_eq ha hb]; omega
      simp only [lg_cmp, gt_iff_lt, if_neg h1, if_neg h2, e2]
    rw [ec]
    refine lv_if_ge X.1 X.2.1 hd2 ht (fun q => kt ?_ H locs la hP hS hv) (fun q => kf ?_ H locs la hP hS hv)
    all_goals (rw [e0] at q; simp only [ne_eq, iN_eq r0 r2, iN_eq r2 r0, iN_lt r0 r2, iN_lt r2 r0, iN_le r0 r2, iN_le r2 r0, ge_iff_le, gt_iff_lt] at q <;> omega)
  · have ec : lg_cmp (jN a) (jN b) = iN 0 := by
      subst h
      have h1 : ¬ (jN a < jN a) := by rw [jN_lt ha ha]; omega
      simp only [lg_cmp, gt_iff_lt, if_neg h1, if_true, e0]
    rw [ec]
    refine lv_if_ge X.1 X.2.1 hd2 ht (fun q => kt ?_ H locs la hP hS hv) (fun q => kf ?_ H locs la hP hS hv)
    all_goals (rw [e0] at q; simp only [ne_eq, not_true, iN_lt r0 r0, iN_le r0 r0, ge_iff_le, gt_iff_lt] at q <;> omega)
  · have ec : lg_cmp (jN a) (jN b) = iN 1 := by
      have h1 : jN b < jN a := by rw [jN_lt hb ha]; omega
      simp only [lg_cmp, gt_iff_lt, if_pos h1, e1]
    rw [ec]
    refine lv_if_ge X.1 X.2.1 hd2 ht (fun q => kt ?_ H locs la hP hS hv) (fun q => kf ?_ H locs la hP hS hv)
    all_goals (rw [e0] at q; simp only [ne_eq, iN_eq r0 r1, iN_eq r1 r0, iN_lt r0 r1, iN_lt r1 r0, iN_le r0 r1, iN_le r1 r0, ge_iff_le, gt_iff_lt] at q <;> omega)
theorem g_icmp_gt (X : Cx p s m args c R kc ks cc own nL t D al A) {a b off : Int} {tgt : Nat} (hd : decode cc pc = .ok (.if_icmp .gt off, 3)) (ht : (pc : Int) + off = (tgt : Int)) (ha : i32 a) (hb : i32 b) (kt : b < a → Gd p l e R s m args below meth c kc ks Q t D al A tgt ls st M) (kf : a ≤ b → Gd p l e R s m args below meth c kc ks Q t D al A (pc + 3) ls st M) : Gd p l e R s m args below meth c kc ks Q t D al A pc ls (.int (iN b) :: .int (iN a) :: st) M := by
  intro H locs la hP hS hv
  refine lv_icmp_gt X.1 X.2.1 hd ht (fun q => kt ?_ H locs la hP hS hv) (fun q => kf ?_ H locs la hP hS hv)
  all_goals (simp only [ne_eq, iN_eq ha hb, iN_eq hb ha, iN_lt ha hb, iN_lt hb ha, iN_le ha hb, iN_le hb ha, ge_iff_le, gt_iff_lt] at q <;> omega)
theorem g_if_gt (X : Cx p s m args c R kc ks cc own nL t D al A) {a off : Int} {tgt : Nat} (hd : decode cc pc = .ok (.ifCond .gt off, 3)) (ht : (pc : Int) + off = (tgt : Int)) (ha : i32 a) (kt : 0 < a → Gd p l e R s m args below meth c kc ks Q t D al A tgt ls st M) (kf : a ≤ 0 → Gd p l e R s m args below meth c kc ks Q t D al A (pc + 3) ls st M) : Gd p l e R s m args below meth c kc ks Q t D al A pc ls (.int (iN a) :: st) M := by
  intro H locs la hP hS hv
  have hb : i32 0 := by decide
  refine lv_if_gt X.1 X.2.1 hd ht (fun q => kt ?_ H locs la hP hS hv) (fun q => kf ?_ H locs la hP hS hv)
  all_goals (rw [← iN_0] at q; simp only [ne_eq, iN_eq ha hb, iN_eq hb ha, iN_lt ha hb, iN_lt hb ha, iN_le ha hb, iN_le hb ha, ge_iff_le, gt_iff_lt] at q <;> omega)
theorem g_lcmp_gt (X : Cx p s m args c R kc ks cc own nL t D al A) {a b off : Int} {tgt : Nat} (hd : decode cc pc = .ok (.lcmp, 1)) (hd2 : decode cc (pc + 1) = .ok (.ifCond .gt off, 3)) (ht : ((pc + 1 : Nat) : Int) + off = (tgt : Int)) (ha : i64 a) (hb : i64 b) (kt : b < a → Gd p l e R s m args below meth c kc ks Q t D al A tgt ls st M) (kf : a ≤ b → Gd p l e R s m args below meth c kc ks Q t D al A (pc + 1 + 3) ls st M) : Gd p l e R s m args below meth c kc ks Q t D al A pc ls (.long (jN b) :: .long (jN a) :: st) M := by
  intro H locs la hP hS hv
  have e0 : (0 : Int32) = iN 0 := rfl
  have e1 : (1 : Int32) = iN 1 := rfl
  have e2 : (-1 : Int32) = iN (-1) := rfl
  have r0 : i32 0 := by decide
  have r1 : i32 1 := by decide
  have r2 : i32 (-1) := by decide
  refine W.lcmp X.1 X.2.1 hd ?_
  rcases Int.lt_trichotomy a b with h | h | h
  · have ec : lg_cmp (jN a) (jN b) = iN (-1) := by
      have h1 : ¬ (jN b < jN a) := by rw [jN_lt hb ha]; omega
      have h2 : ¬ (jN a = jN b) := by rw [jN_eq ha hb]; omega
      simp only [lg_cmp, gt_iff_lt, if_neg h1, if_neg h2, e2]
    rw [ec]
    refine lv_if_gt X.1 X.2.1 hd2 ht (fun q => kt ?_ H locs la hP hS hv) (fun q => kf ?_ H locs la hP hS hv)
    all_goals (rw [e0] at q; simp only [ne_eq, iN_eq r0 r2, iN_eq r2 r0, iN_lt r0 r2, iN_lt r2 r0, iN_le r0 r2, iN_le r2 r0, ge_iff_le, gt_iff_lt] at q <;> omega)
  · have ec : lg_cmp (jN a) (jN b) = iN 0 := by
      subst h
      have h1 : ¬ (jN a < jN a) := by rw [jN_lt ha ha]; omega
      simp only [lg_cmp, gt_iff_lt, if_neg h1, if_true, e0]
    rw [ec]
    refine lv_if_gt X.1 X.2.1 hd2 ht (fun q => kt ?_ H locs la hP hS hv) (fun q => kf ?_ H locs la hP hS hv)
    all_goals (rw [e0] at q; simp only [ne_eq, not_true, iN_lt r0 r0, iN_le r0 r0, ge_iff_le, gt_iff_lt] at q <;> omega)
  · have ec : lg_cmp (jN a) (jN b) = iN 1 := by
      have h1 : jN b < jN a := by rw [jN_lt hb ha]; omega
      simp only [lg_cmp, gt_iff_lt, if_pos h1, e1]
    rw [ec]
    refine lv_if_gt X.1 X.2.1 hd2 ht (fun q => kt ?_ H locs la hP hS hv) (fun q => kf ?_ H locs la hP hS hv)
    all_goals (rw [e0] at q; simp only [ne_eq, iN_eq r0 r1, iN_eq r1 r0, iN_lt r0 r1, iN_lt r1 r0, iN_le r0 r1, iN_le r1 r0, ge_iff_le, gt_iff_lt] at q <;> omega)
theorem g_icmp_le (X : Cx p s m args c R kc ks cc own nL t D al A) {a b off : Int} {tgt : Nat} (hd : decode cc pc = .ok (.if_icmp .le off, 3)) (ht : (pc : Int) + off = (tgt : Int)) (ha : i32 a) (hb : i32 b) (kt : a ≤ b → Gd p l e R s m args below meth c kc ks Q t D al A tgt ls st M) (kf : b < a → Gd p l e R s m args below meth c kc ks Q t D al A (pc + 3) ls st M) : Gd p l e R s m args below meth c kc ks Q t D al A pc ls (.int (iN b) :: .int (iN a) :: st) M := by
  intro H locs la hP hS hv
  refine lv_icmp_le X.1 X.2.1 hd ht (fun q => kt ?_ H locs la hP hS hv) (fun q => kf ?_ H locs la hP hS hv)
  all_goals (simp only [ne_eq, iN_eq ha hb, iN_eq hb ha, iN_lt ha hb, iN_lt hb ha, iN_le ha hb, iN_le hb ha, ge_iff_le, gt_iff_lt] at q <;> omega)
theorem g_if_le (X : Cx p s m args c R kc ks cc own nL t D al A) {a off : Int} {tgt : Nat} (hd : decode cc pc = .ok (.ifCond .le off, 3)) (ht : (pc : Int) + off = (tgt : Int)) (ha : i32 a) (kt : a ≤ 0 → Gd p l e R s m args below meth c kc ks Q t D al A tgt ls st M) (kf : 0 < a → Gd p l e R s m args below meth c kc ks Q t D al A (pc + 3) ls st M) : Gd p l e R s m args below meth c kc ks Q t D al A pc ls (.int (iN a) :: st) M := by
  intro H locs la hP hS hv
  have hb : i32 0 := by decide
  refine lv_if_le X.1 X.2.1 hd ht (fun q => kt ?_ H locs la hP hS hv) (fun q => kf ?_ H locs la hP hS hv)
  all_goals (rw [← iN_0] at q; simp only [ne_eq, iN_eq ha hb, iN_eq hb ha, iN_lt ha hb, iN_lt hb ha, iN_le ha hb, iN_le hb ha, ge_iff_le, gt_iff_lt] at q <;> omega)
theorem g_lcmp_le (X : Cx p s m args c R kc ks cc own nL t D al A) {a b off : Int} {tgt : Nat} (hd : decode cc pc = .ok (.lcmp, 1)) (hd2 : decode cc (pc + 1) = .ok (.ifCond .le off, 3)) (ht : ((pc + 1 : Nat) : Int) + off = (tgt : Int)) (ha : i64 a) (hb : i64 b) (kt : a ≤ b → Gd p l e R s m args below meth c kc ks Q t D al A tgt ls st M) (kf : b < a → Gd p l e R s m args below meth c kc ks Q t D al A (pc + 1 + 3) ls st M) : Gd p l e R s m args below meth c kc ks Q t D al A pc ls (.long (jN b) :: .long (jN a) :: st) M := by
  intro H locs la hP hS hv
  have e0 : (0 : Int32) = iN 0 := rfl
  have e1 : (1 : Int32) = iN 1 := rfl
  have e2 : (-1 : Int32) = iN (-1) := rfl
  have r0 : i32 0 := by decide
  have r1 : i32 1 := by decide
  have r2 : i32 (-1) := by decide
  refine W.lcmp X.1 X.2.1 hd ?_
  rcases Int.lt_trichotomy a b with h | h | h
  · have ec : lg_cmp (jN a) (jN b) = iN (-1) := by
      have h1 : ¬ (jN b < jN a) := by rw [jN_lt hb ha]; omega
      have h2 : ¬ (jN a = jN b) := by rw [jN_eq ha hb]; omega
      simp only [lg_cmp, gt_iff_lt, if_neg h1, if_neg h2, e2]
    rw [ec]
    refine lv_if_le X.1 X.2.1 hd2 ht (fun q => kt ?_ H locs la hP hS hv) (fun q => kf ?_ H locs la hP hS hv)
    all_goals (rw [e0] at q; simp only [ne_eq, iN_eq r0 r2, iN_eq r2 r0, iN_lt r0 r2, iN_lt r2 r0, iN_le r0 r2, iN_le r2 r0, ge_iff_le, gt_iff_lt] at q <;> omega)
  · have ec : lg_cmp (jN a) (jN b) = iN 0 := by
      subst h
      have h1 : ¬ (jN a < jN a) := by rw [jN_lt ha ha]; omega
      simp only [lg_cmp, gt_iff_lt, if_neg h1, if_true, e0]
    rw [ec]
    refine lv_if_le X.1 X.2.1 hd2 ht (fun q => kt ?_ H locs la hP hS hv) (fun q => kf ?_ H locs la hP hS hv)
    all_goals (rw [e0] at q; simp only [ne_eq, not_true, iN_lt r0 r0, iN_le r0 r0, ge_iff_le, gt_iff_lt] at q <;> omega)
  · have ec : lg_cmp (jN a) (jN b) = iN 1 := by
      have h1 : jN b < jN a := by rw [jN_lt hb ha]; omega
      simp only [lg_cmp, gt_iff_lt, if_pos h1, e1]
    rw [ec]
    refine lv_if_le X.1 X.2.1 hd2 ht (fun q => kt ?_ H locs la hP hS hv) (fun q => kf ?_ H locs la hP hS hv)
    all_goals (rw [e0] at q; simp only [ne_eq, iN_eq r0 r1, iN_eq r1 r0, iN_lt r0 r1, iN_lt r1 r0, iN_le r0 r1, iN_le r1 r0, ge_iff_le, gt_iff_lt] at q <;> omega)
theorem g_top {a : Int} (k : ∀ v : Int, v = a → Gd p l e R s m args below meth c kc ks Q t D al A pc ls (.int (iN v) :: st) M) : Gd p l e R s m args below meth c kc ks Q t D al A pc ls (.int (iN a) :: st) M := k a rfl
theorem g_topl {a : Int} (k : ∀ v : Int, v = a → Gd p l e R s m args below meth c kc ks Q t D al A pc ls (.long (jN v) :: st) M) : Gd p l e R s m args below meth c kc ks Q t D al A pc ls (.long (jN a) :: st) M := k a rfl
theorem g_mem {M0 : Mem} (k : ∀ M1 : Mem, M1 = M0 → Gd p l e R s m args below meth c kc ks Q t D al A pc ls st M1) : Gd p l e R s m args below meth c kc ks Q t D al A pc ls st M0 := k M0 rfl
theorem g_sub (h : Gd p l e R s m args below meth c kc ks Q t D al A pc ls' st M) (hs : lsub ls' ls) : Gd p l e R s m args below meth c kc ks Q t D al A pc ls st M := fun H locs la hP hS hv => h H locs la hP hS ⟨by rw [hv.1, (lsub_get hs).1], hv.2.1, fun i v hi => hv.2.2 i v ((lsub_get hs).2 i v hi)⟩
theorem g_tsOut (X : Cx p s m args c R kc ks cc own nL t D al A) {dflt lo hi : Int} {offs : Array Int} {len tgt : Nat} {a : Int} (hd : decode cc pc = .ok (.tableswitch dflt lo hi offs, len)) (ha : i32 a) (h : a < lo ∨ hi < a) (ht : (pc : Int) + dflt = (tgt : Int)) (k : Gd p l e R s m args below meth c kc ks Q t D al A tgt ls st M) : Gd p l e R s m args below meth c kc ks Q t D al A pc ls (.int (iN a) :: st) M := fun H locs la hP hS hv => lv_tableOut X.1 X.2.1 hd (by rw [iN_toInt ha]; exact h) ht (k H locs la hP hS hv)
theorem g_tsIn (X : Cx p s m args c R kc ks cc own nL t D al A) {dflt lo hi off : Int} {offs : Array Int} {len tgt : Nat} {a : Int} (hd : decode cc pc = .ok (.tableswitch dflt lo hi offs, len)) (ha : i32 a) (h1 : ¬ a < lo) (h2 : ¬ hi < a) (ho : offs[(a - lo).toNat]? = some off) (ht : (pc : Int) + off = (tgt : Int)) (k : Gd p l e R s m args below meth c kc ks Q t D al A tgt ls st M) : Gd p l e R s m args below meth c kc ks Q t D al A pc ls (.int (iN a) :: st) M := fun H locs la hP hS hv => lv_tableIn X.1 X.2.1 hd (by rw [iN_toInt ha]; exact h1) (by rw [iN_toInt ha]; exact h2) (by rw [iN_toInt ha]; exact ho) ht (k H locs la hP hS hv)
theorem g_lkup (X : Cx p s m args c R kc ks cc own nL t D al A) {dflt off : Int} {ps : Array (Int × Int)} {len tgt : Nat} {a : Int} (hd : decode cc pc = .ok (.lookupswitch dflt ps, len)) (ha : i32 a) (hp : (ps.toList.zip (ps.toList.drop 1)).all (fun (a, next) => a.1 < next.1) = true) (ho : Op.lookupswitch.offset ps.toList dflt a = off) (ht : (pc : Int) + off = (tgt : Int)) (k : Gd p l e R s m args below meth c kc ks Q t D al A tgt ls st M) : Gd p l e R s m args below meth c kc ks Q t D al A pc ls (.int (iN a) :: st) M := fun H locs la hP hS hv => lv_lookup X.1 X.2.1 hd hp (by rw [iN_toInt ha]; exact ho) ht (k H locs la hP hS hv)
end GD
