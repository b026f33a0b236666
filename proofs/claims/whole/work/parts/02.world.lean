/-! The layer of walks: a world of fixed objects whose numbers are one function M of (object, place) into the whole numbers; a state of the walk is the place, the locals, the stack, M. -/
abbrev Mem : Type := Int → Int → Int
def iN (a : Int) : Int32 := Int32.ofInt a
def jN (a : Int) : Int64 := Int64.ofInt a
def mu (M : Mem) (o k v : Int) : Mem := fun o' k' => if o' = o ∧ k' = k then v else M o' k'
abbrev Kd : Type := Nat × Nat × List Nat
abbrev TT : Type := ClassId × ClassId × ClassId × ClassId
def tys (t : TT) : List (ClassId × FieldType) := [(t.1, .int), (t.2.1, .long), (t.2.2.1, .boolean), (t.2.2.2, .array .int)]
def fv (al : Int → Nat) (M : Mem) (o : Int) (k t : Nat) : Value := if t = 0 then .int (iN (M o k)) else if t = 1 then .long (jN (M o k)) else if t = 2 then .int (iN (M o k)) else .ref (al ((t - 3 : Nat) : Int))
def vals (al : Int → Nat) (M : Mem) (o : Int) : Nat → List Nat → List Value
  | _, [] => []
  | k, t :: r => fv al M o k t :: vals al M o (k + 1) r
def contK (t : TT) (al : Int → Nat) (M : Mem) (o : Int) (d : Kd) : va_E :=
  if d.1 = 0 then .inr (d.2.1, vals al M o 0 d.2.2) else if d.1 = 1 then .inl (t.1, d.2.1, .inl (fun j => iN (M o j))) else if d.1 = 2 then .inl (t.2.2.1, d.2.1, .inl (fun j => iN (M o j)))
  else if d.1 = 3 then .inl (t.2.1, d.2.1, .inr (.inl (fun j => jN (M o j)))) else .inl (t.2.2.2, d.2.1, .inr (.inr (.inr (.inr (fun j => some (al (((d.2.2.headD 0 : Nat) : Int) + (j : Int))))))))
def KD : List Kd := [(0, 8, [4, 6, 9, 11, 13, 18, 19, 20, 25, 27, 65, 103, 116, 0, 0, 0, 0, 2]), (0, 5, [5, 0]), (1, 40, []), (0, 1, [7, 8, 0, 0, 0, 0]), (1, 3, []), (2, 3, []), (0, 4, [10, 0, 0, 0, 0, 0]), (1, 24, []), (0, 3, [12, 0, 0, 0, 2]), (1, 5, []), (4, 4, [11]), (1, 3, []), (1, 3, []), (1, 3, []), (1, 3, []), (1, 4, []), (1, 4, []), (4, 4, [18]), (1, 24, []), (1, 24, []), (1, 24, []), (1, 24, []), (0, 2, [26, 0, 0]), (1, 5, []), (0, 7, [28, 45, 62, 63, 64, 0, 0, 0]), (4, 16, [26]), (1, 6, []), (1, 6, []), (1, 6, []), (1, 6, []), (1, 6, []), (1, 6, []), (1, 6, []), (1, 6, []), (1, 6, []), (1, 6, []), (1, 6, []), (1, 6, []), (1, 6, []), (1, 6, []), (1, 6, []), (1, 6, []), (4, 16, [43]), (1, 12, []), (1, 12, []), (1, 12, []), (1, 12, []), (1, 12, []), (1, 12, []), (1, 12, []), (1, 12, []), (1, 12, []), (1, 12, []), (1, 12, []), (1, 12, []), (1, 12, []), (1, 12, []), (1, 12, []), (1, 12, []), (1, 6, []), (1, 401, []), (1, 401, []), (0, 7, [66, 83, 100, 101, 102, 0, 0, 0]), (4, 16, [64]), (1, 6, []), (1, 6, []), (1, 6, []), (1, 6, []), (1, 6, []), (1, 6, []), (1, 6, []), (1, 6, []), (1, 6, []), (1, 6, []), (1, 6, []), (1, 6, []), (1, 6, []), (1, 6, []), (1, 6, []), (1, 6, []), (4, 16, [81]), (1, 12, []), (1, 12, []), (1, 12, []), (1, 12, []), (1, 12, []), (1, 12, []), (1, 12, []), (1, 12, []), (1, 12, []), (1, 12, []), (1, 12, []), (1, 12, []), (1, 12, []), (1, 12, []), (1, 12, []), (1, 12, []), (1, 6, []), (1, 401, []), (1, 401, []), (0, 0, [104, 105, 0, 1, 1, 1, 1, 106, 0]), (1, 16, []), (1, 16, []), (4, 9, [104]), (1, 129, []), (1, 129, []), (1, 129, []), (1, 129, []), (1, 129, []), (1, 129, []), (1, 129, []), (1, 129, []), (1, 129, []), (0, 6, [1]), (0, 9, [118, 0, 0, 0, 0, 0, 0, 0, 0, 119, 0, 120, 121, 0, 122, 0, 123, 0, 124, 0, 0, 125, 126, 0, 127, 128, 0, 129, 0, 0, 130, 131, 132, 133, 134, 135, 136, 1, 1, 0, 0, 137, 138, 0, 0, 0, 0, 0, 0, 139, 140, 141, 142, 143, 1]), (1, 40, []), (1, 3, []), (1, 24, []), (1, 5, []), (1, 12, []), (1, 96, []), (1, 5, []), (1, 4, []), (1, 4, []), (1, 96, []), (1, 192, []), (1, 6, []), (1, 16, []), (1, 16, []), (2, 16, []), (1, 16, []), (3, 8721, []), (3, 513, []), (3, 513, []), (1, 401, []), (1, 401, []), (1, 96, []), (1, 192, []), (1, 6, []), (1, 401, []), (1, 401, [])]
def NO : Nat := 141
theorem KD_len : KD.length = NO := by decide +kernel
def kd (o : Int) : Kd := if o < 0 then (9, 0, []) else KD.getD o.toNat (9, 0, [])
theorem kd_in {o : Int} {d : Kd} (h : kd o = d) (hd : d.1 < 9) : 0 ≤ o ∧ o < (NO : Int) := by
  unfold kd at h
  by_cases h0 : o < 0
  · rw [if_pos h0] at h; subst h; exact absurd hd (by decide)
  · rw [if_neg h0] at h
    by_cases h1 : o.toNat < KD.length
    · rw [KD_len] at h1; omega
    · rw [List.getD_eq_getElem?_getD, List.getElem?_eq_none (by omega)] at h; subst h; exact absurd hd (by decide)
theorem kd_nat {b n : Nat} {d : Kd} (h : ∀ j, j < n → KD[b + j]? = some d) {i : Int} (h0 : 0 ≤ i) (h1 : i < n) : kd ((b : Int) + i) = d := by
  have e : ((b : Int) + i).toNat = b + i.toNat := by omega
  unfold kd
  rw [if_neg (by omega), e, List.getD_eq_getElem?_getD, h _ (by omega)]
  rfl
def cont (t : TT) (al : Int → Nat) (M : Mem) (o : Int) : va_E := contK t al M o (kd o)
def ws (t : TT) (al : Int → Nat) (M : Mem) : va_W := (List.range NO).map (fun (o : Nat) => (al (o : Int), cont t al M (o : Int)))
theorem ws_at (t : TT) (al : Int → Nat) (M : Mem) {o : Int} (h0 : 0 ≤ o) (h1 : o < (NO : Int)) : (ws t al M)[o.toNat]? = some (al o, cont t al M o) := by
  unfold ws
  rw [List.getElem?_map, List.getElem?_range (by omega)]
  have e : ((o.toNat : Nat) : Int) = o := by omega
  simp [e]
theorem ws_len (t : TT) (al : Int → Nat) (M : Mem) : (ws t al M).length = NO := by simp [ws]
theorem mu_same (M : Mem) (o k v : Int) : mu M o k v o k = v := by simp [mu]
theorem mu_o (M : Mem) {o o' : Int} (k v : Int) (h : o' ≠ o) : mu M o k v o' = M o' := by funext k'; simp [mu, h]
theorem mu_k (M : Mem) (o : Int) {k k' : Int} (v : Int) (h : k' ≠ k) : mu M o k v o k' = M o k' := by simp [mu, h]
theorem vals_get (al : Int → Nat) (M : Mem) (o : Int) : ∀ (fts : List Nat) (b k : Nat), (vals al M o b fts)[k]? = (fts[k]?).map (fv al M o (b + k))
  | [], b, k => by simp [vals]
  | t :: r, b, 0 => by simp [vals]
  | t :: r, b, k + 1 => by
    rw [vals, List.getElem?_cons_succ, List.getElem?_cons_succ, vals_get al M o r (b + 1) k]
    congr 2; omega
theorem vals_len (al : Int → Nat) (M : Mem) (o : Int) : ∀ (fts : List Nat) (b : Nat), (vals al M o b fts).length = fts.length
  | [], _ => rfl
  | t :: r, b => by rw [vals, List.length_cons, vals_len al M o r, List.length_cons]
theorem vals_off (al : Int → Nat) (M : Mem) {o o' : Int} (k v : Int) (h : o' ≠ o) : ∀ (fts : List Nat) (b : Nat), vals al (mu M o k v) o' b fts = vals al M o' b fts
  | [], _ => rfl
  | t :: r, b => by rw [vals, vals, vals_off al M k v h r]; simp [fv, mu_o M k v h]
theorem vals_lo (al : Int → Nat) (M : Mem) (o : Int) (k v : Int) : ∀ (fts : List Nat) (b : Nat), k < b → vals al (mu M o k v) o b fts = vals al M o b fts
  | [], _, _ => rfl
  | t :: r, b, h => by
    rw [vals, vals, vals_lo al M o k v r (b + 1) (by omega)]
    have e : (b : Int) ≠ k := by omega
    simp [fv, mu_k M o v e]
theorem vals_set (al : Int → Nat) (M : Mem) (o v : Int) : ∀ (fts : List Nat) (b j : Nat) (x : Value), (∀ t, fts[j]? = some t → x = fv al (mu M o ((b + j : Nat) : Int) v) o (b + j) t) → (vals al M o b fts).set j x = vals al (mu M o ((b + j : Nat) : Int) v) o b fts
  | [], b, j, x, h => rfl
  | t :: r, b, 0, x, h => by
    rw [vals, vals, List.set_cons_zero, vals_lo al M o _ v r (b + 1) (by omega), h t rfl]
    rfl
  | t :: r, b, j + 1, x, h => by
    have e : b + (j + 1) = b + 1 + j := by omega
    rw [vals, vals, List.set_cons_succ, vals_set al M o v r (b + 1) j x (fun t ht => by rw [← e]; exact h t (by simpa using ht)), ← e]
    have e2 : (b : Int) ≠ ((b + (j + 1) : Nat) : Int) := by omega
    simp only [fv, mu_k M o v e2]
/-- one cell changes: the world with the number changed -/
theorem ws_set (t : TT) (al : Int → Nat) (M : Mem) {o k v : Int} {x : va_E} (h0 : 0 ≤ o) (hx : cont t al (mu M o k v) o = x) : (ws t al M).set o.toNat (al o, x) = ws t al (mu M o k v) := by
  apply List.ext_getElem?
  intro j
  by_cases hj : j < NO
  · by_cases e : j = o.toNat
    · subst e
      rw [List.getElem?_set_self (by rw [ws_len]; exact hj), ws_at t al _ h0 (by omega), hx]
    · rw [List.getElem?_set_ne (fun q => e q.symm)]
      have h1 := ws_at t al M (o := (j : Int)) (by omega) (by omega)
      have h2 := ws_at t al (mu M o k v) (o := (j : Int)) (by omega) (by omega)
      rw [Int.toNat_natCast] at h1 h2
      rw [h1, h2]
      have e2 : (j : Int) ≠ o := by omega
      simp [cont, contK, mu_o M k v e2, vals_off al M k v e2]
  · have a : ((ws t al M).set o.toNat (al o, x)).length ≤ j := by rw [List.length_set, ws_len]; omega
    have b : (ws t al (mu M o k v)).length ≤ j := by rw [ws_len]; omega
    rw [List.getElem?_eq_none a, List.getElem?_eq_none b]
/-- which addresses a method may write: the world's -/
def fA (al : Int → Nat) : Nat → Prop := fun q => ∃ o : Int, 0 ≤ o ∧ o < (NO : Int) ∧ q = al o
theorem ws_D {t : TT} {al : Int → Nat} {A : Nat → Prop} {M : Mem} (h : va_D A (ws t al M)) (M' : Mem) : va_D A (ws t al M') := by
  have key : ∀ (i : Nat) (q : Nat × va_E), (ws t al M')[i]? = some q → ∃ q', (ws t al M)[i]? = some q' ∧ q'.1 = q.1 := by
    intro i q hi
    have hl := (List.getElem?_eq_some_iff.mp hi).1
    rw [ws_len] at hl
    have h1 := ws_at t al M (o := (i : Int)) (by omega) (by omega)
    have h2 := ws_at t al M' (o := (i : Int)) (by omega) (by omega)
    rw [Int.toNat_natCast] at h1 h2
    rw [h2] at hi
    cases hi
    exact ⟨_, h1, rfl⟩
  refine ⟨fun i j p q hi hj e => ?_, fun k q hk => ?_⟩
  · obtain ⟨p', a1, a2⟩ := key i p hi
    obtain ⟨q', b1, b2⟩ := key j q hj
    exact h.1 i j p' q' a1 b1 (a2.trans (e.trans b2.symm))
  · obtain ⟨q', a1, a2⟩ := key k q hk
    rw [← a2]; exact h.2 k q' a1
theorem ws_fA {t : TT} {al : Int → Nat} {A : Nat → Prop} {M : Mem} (h : va_D A (ws t al M)) : va_D (fA al) (ws t al M) := by
  refine ⟨h.1, fun k q hk => ?_⟩
  have hl := (List.getElem?_eq_some_iff.mp hk).1
  rw [ws_len] at hl
  have h1 := ws_at t al M (o := (k : Int)) (by omega) (by omega)
  rw [Int.toNat_natCast] at h1
  rw [h1] at hk
  cases hk
  exact ⟨(k : Int), by omega, by omega, rfl⟩
theorem fA_A {t : TT} {al : Int → Nat} {A : Nat → Prop} {M : Mem} (h : va_D A (ws t al M)) {q : Nat} (hq : fA al q) : A q := by
  obtain ⟨o, h0, h1, rfl⟩ := hq
  exact h.2 _ _ (ws_at t al M h0 h1)
/-- the world of a contract -/
def RepS (t : TT) (D : va_G) (al : Int → Nat) (M : Mem) (U : State) : Prop := va_P D vwCl (ws t al M) U.heap ∧ va_K D vwCl (tys t) U ∧ va_D (fA al) (ws t al M) ∧ ∀ w ∈ nw, va_Nw w U
theorem nw_warm {s U : State} (hW : s.WarmedH U.vm) (h : ∀ w ∈ nw, va_Nw w s) : ∀ w ∈ nw, va_Nw w U := by
  intro w hw
  have hz := h w hw
  simp only [nw, List.mem_cons, List.not_mem_nil, or_false] at hw
  rcases hw with rfl | rfl | rfl | rfl | rfl | rfl | rfl | rfl | rfl | rfl | rfl | rfl | rfl | rfl
  all_goals first | exact va_Nw.warmM hW hz | exact va_Nw.warmD hW hz
theorem nw_same {s U : State} (e : s.vm = U.vm) (h : ∀ w ∈ nw, va_Nw w s) : ∀ w ∈ nw, va_Nw w U := fun w hw => va_Nw.same (nw_on w hw) e (h w hw)
theorem repS_blind {t : TT} {D : va_G} {al : Int → Nat} {M : Mem} {av : List Value} : FrameBlind (va_Pc av (RepS t D al M)) := by
  intro a U g mk h
  obtain ⟨h0, hP, hK, hD, hN⟩ := h
  exact ⟨h0, hP, va_K.moved (u := U) (U := U.calling g mk a) (Vm.Alike.refl U.vm) hK, hD, nw_same (s := U) (U := U.calling g mk a) rfl hN⟩
def QI (t : TT) (D : va_G) (al : Int → Nat) (post : Int → Mem → Prop) : Array Value → State → Outcome → State → Prop := va_Qi (S := Int × Mem) (fun r u => r = iN u.1 ∧ post u.1 u.2) (fun u U => RepS t D al u.2 U) (fA al)
def QJ (t : TT) (D : va_G) (al : Int → Nat) (post : Int → Mem → Prop) : Array Value → State → Outcome → State → Prop := va_Ql (S := Int × Mem) (fun r u => r = jN u.1 ∧ post u.1 u.2) (fun u U => RepS t D al u.2 U) (fA al)
def QV (t : TT) (D : va_G) (al : Int → Nat) (post : Mem → Prop) : Array Value → State → Outcome → State → Prop := va_Qv (S := Mem) post (fun u U => RepS t D al u U) (fA al)
abbrev rmN (fr lo : Nat) : Room := { frames := fr, cells := 0, slots := 0, locals := lo }
abbrev CI (l : Launch) (y : MethodName) (cc : ByteArray) (nL : Nat) (rt : FieldType) (fr lo : Nat) (t : TT) (D : va_G) (al : Int → Nat) (av : List Value) (M : Mem) (post : Int → Mem → Prop) : Prop := Met l y (Cond.code y cc nL (some rt) :: tb) (rmN fr lo) (va_Pc av (RepS t D al M)) (QI t D al post) 0 0 (fA al)
abbrev CJ (l : Launch) (y : MethodName) (cc : ByteArray) (nL fr lo : Nat) (t : TT) (D : va_G) (al : Int → Nat) (av : List Value) (M : Mem) (post : Int → Mem → Prop) : Prop := Met l y (Cond.code y cc nL (some .long) :: tb) (rmN fr lo) (va_Pc av (RepS t D al M)) (QJ t D al post) 0 0 (fA al)
abbrev CV (l : Launch) (y : MethodName) (cc : ByteArray) (nL fr lo : Nat) (t : TT) (D : va_G) (al : Int → Nat) (av : List Value) (M : Mem) (post : Mem → Prop) : Prop := Met l y (Cond.code y cc nL none :: tb) (rmN fr lo) (va_Pc av (RepS t D al M)) (QV t D al post) 0 0 (fA al)
/-- the locals: as a list by places; none: dead, or the second half of a long -/
def lvp (la : Array Slot) (ls : List (Option Value)) : Prop := la.size = ls.length ∧ lv_wf la ∧ ∀ (i : Nat) (v : Value), ls[i]? = some (some v) → la[i]? = some (.val v)
def al_of : Nat → List (Option Value) → List (Nat × Value)
  | _, [] => []
  | k, none :: r => al_of (k + 1) r
  | k, some v :: r => (k, v) :: al_of (k + 1) r
theorem al_mem : ∀ (ls : List (Option Value)) (k : Nat) (q : Nat × Value), q ∈ al_of k ls ↔ ∃ i, q.1 = k + i ∧ ls[i]? = some (some q.2)
  | [], k, q => by simp [al_of]
  | none :: r, k, q => by
    rw [al_of, al_mem r]
    constructor
    · rintro ⟨i, h1, h2⟩; exact ⟨i + 1, by omega, by simpa using h2⟩
    · rintro ⟨i, h1, h2⟩
      cases i with
      | zero => simp at h2
      | succ i => exact ⟨i, by omega, by simpa using h2⟩
  | some v :: r, k, q => by
    rw [al_of, List.mem_cons, al_mem r]
    constructor
    · rintro (rfl | ⟨i, h1, h2⟩)
      · exact ⟨0, rfl, rfl⟩
      · exact ⟨i + 1, by omega, by simpa using h2⟩
    · rintro ⟨i, h1, h2⟩
      cases i with
      | zero => left; obtain ⟨a, b⟩ := q; simp at h1 h2; simp [h1, h2]
      | succ i => right; exact ⟨i, by omega, by simpa using h2⟩
theorem lvp_has {la : Array Slot} {ls : List (Option Value)} : lvp la ls ↔ lv_has la ls.length (al_of 0 ls) := by
  constructor
  · rintro ⟨h1, h2, h3⟩
    refine ⟨h1, h2, fun q hq => ?_⟩
    obtain ⟨i, e, h⟩ := (al_mem ls 0 q).mp hq
    rw [Nat.zero_add] at e
    rw [e]; exact h3 i q.2 h
  · rintro ⟨h1, h2, h3⟩
    exact ⟨h1, h2, fun i v h => h3 (i, v) ((al_mem ls 0 (i, v)).mpr ⟨i, (Nat.zero_add i).symm, h⟩)⟩
/-- a word into a place: what it lies behind must not be a long's first half -/
def lok (ls : List (Option Value)) (i : Nat) : Prop := match i with
  | 0 => True
  | j + 1 => match ls[j]? with
    | some (some v) => v.category = 1
    | _ => True
theorem lok_ne {ls : List (Option Value)} {i k : Nat} {v : Value} (h : lok ls i) (hk : ls[k]? = some (some v)) (e : k + 1 = i) : v.category ≠ 2 := by
  subst e
  simp only [lok, hk] at h
  omega
theorem lvp_set1 {la : Array Slot} {ls : List (Option Value)} {i : Nat} {v : Value} (h : lvp la ls) (hi : i < ls.length) (hc : v.category = 1) (ho : lok ls i) : ∃ la', storeLocals la i v = some la' ∧ lvp la' (ls.set i (some v)) := by
  obtain ⟨la', h1, h2, h3, h4⟩ := lv_store1 (v := v) (lvp_has.mp h) hi hc
  refine ⟨la', h1, by rw [h2, List.length_set], h3, fun k w hk => ?_⟩
  by_cases e : k = i
  · subst e
    rw [List.getElem?_set_self hi] at hk
    obtain rfl : v = w := Option.some.inj (Option.some.inj hk)
    exact h4 (k, v) List.mem_cons_self
  · rw [List.getElem?_set_ne (fun q => e q.symm)] at hk
    refine h4 (k, w) (List.mem_cons_of_mem _ (List.mem_filter.mpr ⟨(al_mem ls 0 (k, w)).mpr ⟨k, (Nat.zero_add k).symm, hk⟩, ?_⟩))
    have hw : ¬ (k + 1 = i ∧ w.category = 2) := fun q => lok_ne ho hk q.1 q.2
    have e2 : (k == i) = false := by simpa using e
    simp only [e2, Bool.not_false, Bool.true_and, Bool.not_eq_true', Bool.and_eq_false_iff, beq_eq_false_iff_ne]
    by_cases e3 : k + 1 = i
    · exact Or.inr (fun q => hw ⟨e3, q⟩)
    · exact Or.inl e3
theorem lvp_set2 {la : Array Slot} {ls : List (Option Value)} {i : Nat} {v : Value} (h : lvp la ls) (hi : i + 1 < ls.length) (hc : v.category = 2) (ho : lok ls i) : ∃ la', storeLocals la i v = some la' ∧ lvp la' ((ls.set i (some v)).set (i + 1) none) := by
  obtain ⟨la', h1, h2, h3, h4⟩ := lv_store2 (v := v) (lvp_has.mp h) hi hc
  refine ⟨la', h1, by rw [h2, List.length_set, List.length_set], h3, fun k w hk => ?_⟩
  by_cases e1 : k = i + 1
  · subst e1
    rw [List.getElem?_set_self (by rw [List.length_set]; exact hi)] at hk
    cases hk
  · rw [List.getElem?_set_ne (fun q => e1 q.symm)] at hk
    by_cases e : k = i
    · subst e
      rw [List.getElem?_set_self (by omega)] at hk
      obtain rfl : v = w := Option.some.inj (Option.some.inj hk)
      exact h4 (k, v) List.mem_cons_self
    · rw [List.getElem?_set_ne (fun q => e q.symm)] at hk
      refine h4 (k, w) (List.mem_cons_of_mem _ (List.mem_filter.mpr ⟨(al_mem ls 0 (k, w)).mpr ⟨k, (Nat.zero_add k).symm, hk⟩, ?_⟩))
      have hw : ¬ (k + 1 = i ∧ w.category = 2) := fun q => lok_ne ho hk q.1 q.2
      have e2 : (k == i) = false := by simpa using e
      have e4 : (k == i + 1) = false := by simpa using e1
      simp only [e2, e4, Bool.not_false, Bool.true_and, Bool.not_eq_true', Bool.and_eq_false_iff, beq_eq_false_iff_ne]
      by_cases e3 : k + 1 = i
      · exact Or.inr (fun q => hw ⟨e3, q⟩)
      · exact Or.inl e3
def lsub : List (Option Value) → List (Option Value) → Prop
  | [], [] => True
  | none :: a, _ :: b => lsub a b
  | some v :: a, some w :: b => v = w ∧ lsub a b
  | _, _ => False
theorem lsub_get : ∀ {a b : List (Option Value)}, lsub a b → a.length = b.length ∧ ∀ (i : Nat) (v : Value), a[i]? = some (some v) → b[i]? = some (some v)
  | [], [], _ => ⟨rfl, fun i v h => by simp at h⟩
  | none :: a, x :: b, h => by
    obtain ⟨h1, h2⟩ := lsub_get (a := a) (b := b) (by simpa [lsub] using h)
    refine ⟨by simp [h1], fun i v hi => ?_⟩
    cases i with
    | zero => simp at hi
    | succ i => simpa using h2 i v (by simpa using hi)
  | some v :: a, some w :: b, h => by
    have h' : v = w ∧ lsub a b := by simpa [lsub] using h
    obtain ⟨rfl, h'⟩ := h'
    obtain ⟨h1, h2⟩ := lsub_get h'
    refine ⟨by simp [h1], fun i u hi => ?_⟩
    cases i with
    | zero => exact hi
    | succ i => simpa using h2 i u (by simpa using hi)
  | [], _ :: _, h => by simp [lsub] at h
  | some _ :: _, [], h => by simp [lsub] at h
  | none :: _, [], h => by simp [lsub] at h
  | some _ :: _, none :: _, h => by simp [lsub] at h
def ent : List Value → List (Option Value)
  | [] => []
  | v :: r => if v.category = 2 then some v :: none :: ent r else some v :: ent r
def entry (vs : List Value) (n : Nat) : List (Option Value) := ent vs ++ List.replicate (n - (lg_sl vs).length) none
theorem ent_len : ∀ vs : List Value, (ent vs).length = (lg_sl vs).length
  | [] => rfl
  | v :: r => by
    by_cases h : v.category = 2 <;> simp [ent, lg_sl, h]
    · have := ent_len r; simp [lg_sl] at this; omega
    · have := ent_len r; simp [lg_sl] at this; omega
theorem ent_args : ∀ (vs : List Value) (k i : Nat) (v : Value), (ent vs)[i]? = some (some v) → (k + i, v) ∈ lv_args k vs
  | [], k, i, v, h => by simp [ent] at h
  | w :: r, k, i, v, h => by
    by_cases hc : w.category = 2
    · rw [ent, if_pos hc] at h
      match i, h with
      | 0, h => simp at h; subst h; simp [lv_args]
      | 1, h => simp at h
      | i + 2, h =>
        have h2 := ent_args r (k + 2) i v (by simpa using h)
        have e : k + (i + 2) = k + 2 + i := by omega
        rw [e]
        simp [lv_args, hc]
        exact Or.inr h2
    · rw [ent, if_neg hc] at h
      match i, h with
      | 0, h => simp at h; subst h; simp [lv_args]
      | i + 1, h =>
        have h2 := ent_args r (k + 1) i v (by simpa using h)
        have e : k + (i + 1) = k + 1 + i := by omega
        rw [e]
        have hc1 : w.category = 1 := by rcases lv_cat w with q | q <;> omega
        simp [lv_args, hc1]
        exact Or.inr h2
theorem entry_lvp (vs : List Value) {n : Nat} (h : (lg_sl vs).length ≤ n) : lvp ((lg_sl vs ++ List.replicate (n - (lg_sl vs).length) Slot.unset).toArray) (entry vs n) := by
  obtain ⟨h1, h2, h3⟩ := lv_entry vs h
  refine ⟨by rw [h1]; simp [entry, ent_len]; omega, h2, fun i v hi => ?_⟩
  have hm : (ent vs)[i]? = some (some v) := by
    unfold entry at hi
    by_cases hl : i < (ent vs).length
    · rwa [List.getElem?_append_left hl] at hi
    · rw [List.getElem?_append_right (by omega), List.getElem?_replicate] at hi
      split at hi <;> cases hi
  have := h3 _ (ent_args vs 0 i v hm)
  simpa using this
