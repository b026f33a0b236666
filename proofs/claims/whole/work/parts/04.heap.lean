theorem cont_o {t : TT} {al : Int → Nat} {M : Mem} {o : Int} {ci : Nat} {fts : List Nat} (h : kd o = (0, ci, fts)) : cont t al M o = .inr (ci, vals al M o 0 fts) := by simp [cont, contK, h]
theorem cont_i {t : TT} {al : Int → Nat} {M : Mem} {o : Int} {n : Nat} (h : kd o = (1, n, [])) : cont t al M o = .inl (t.1, n, .inl (fun j => iN (M o j))) := by simp [cont, contK, h]
theorem cont_z {t : TT} {al : Int → Nat} {M : Mem} {o : Int} {n : Nat} (h : kd o = (2, n, [])) : cont t al M o = .inl (t.2.2.1, n, .inl (fun j => iN (M o j))) := by simp [cont, contK, h]
theorem cont_j {t : TT} {al : Int → Nat} {M : Mem} {o : Int} {n : Nat} (h : kd o = (3, n, [])) : cont t al M o = .inl (t.2.1, n, .inr (.inl (fun j => jN (M o j)))) := by simp [cont, contK, h]
theorem cont_a {t : TT} {al : Int → Nat} {M : Mem} {o : Int} {n b : Nat} (h : kd o = (4, n, [b])) : cont t al M o = .inl (t.2.2.2, n, .inr (.inr (.inr (.inr (fun j => some (al ((b : Int) + (j : Int)))))))) := by simp [cont, contK, h]
theorem at_kd {t : TT} {al : Int → Nat} {M : Mem} {o : Int} {d : Kd} {x : va_E} (h : kd o = d) (hd : d.1 < 9) (hx : cont t al M o = x) : (ws t al M)[o.toNat]? = some (al o, x) := by
  obtain ⟨h0, h1⟩ := kd_in h hd
  rw [ws_at t al M h0 h1, hx]
theorem KD_small : KD.all (fun d => decide (d.2.1 < 100000)) = true := by decide +kernel
theorem kd_small {o : Int} {d : Kd} (h : kd o = d) : d.2.1 < 100000 := by
  unfold kd at h
  by_cases h0 : o < 0
  · rw [if_pos h0] at h; subst h; decide
  · rw [if_neg h0, List.getD_eq_getElem?_getD] at h
    cases he : KD[o.toNat]? with
    | none => rw [he] at h; subst h; decide
    | some d' =>
      rw [he] at h
      subst h
      have := List.all_eq_true.mp KD_small d' (List.mem_of_getElem? he)
      simpa using this
/-- what the tables know of a class -/
abbrev FC (ci : Nat) (C : String) (T : u_T) (N : Nat) (ty0 : Nat → FieldType) : Prop := vwCl[ci]? = some (C, T, N) ∧ (∀ w ∈ u_ws C T N, w ∈ tb) ∧ (∀ k, k < N → parseFieldDescriptor (T k).2.2.1 = some (ty0 k)) ∧ (∀ a, a < N → ∀ b, b < N → a ≠ b → (T a).2.1 ≠ (T b).2.1)
theorem arr_upd {M : Mem} {o i v : Int} (h0 : 0 ≤ i) (hi : i ≤ 2147483647) : (fun j : Nat => iN (mu M o i v o j)) = upd (fun j : Nat => iN (M o j)) (iN i).toNatClampNeg (iN v) := by
  funext j
  rw [iN_clamp ⟨h0, hi⟩]
  by_cases e : j = i.toNat
  · subst e
    have e2 : ((i.toNat : Nat) : Int) = i := by omega
    simp [upd, e2, mu_same]
  · have e2 : (j : Int) ≠ i := by omega
    simp [upd, e, mu_k M o v e2]
theorem arr_updL {M : Mem} {o i v : Int} (h0 : 0 ≤ i) (hi : i ≤ 2147483647) : (fun j : Nat => jN (mu M o i v o j)) = vp_updL (fun j : Nat => jN (M o j)) (iN i).toNatClampNeg (jN v) := by
  funext j
  rw [iN_clamp ⟨h0, hi⟩]
  by_cases e : j = i.toNat
  · subst e
    have e2 : ((i.toNat : Nat) : Int) = i := by omega
    simp [vp_updL, e2, mu_same]
  · have e2 : (j : Int) ≠ i := by omega
    simp [vp_updL, e, mu_k M o v e2]
/-- copied cells -/
def cpy (M : Mem) (o0 sp o1 dp n : Int) : Mem := fun o k => if o = o1 ∧ dp ≤ k ∧ k < dp + n then M o0 (sp + (k - dp)) else M o k
theorem vals_cpy (al : Int → Nat) (M : Mem) {o : Int} (o0 sp o1 dp n : Int) (h : o ≠ o1) : ∀ (fts : List Nat) (b : Nat), vals al (cpy M o0 sp o1 dp n) o b fts = vals al M o b fts
  | [], _ => rfl
  | t :: r, b => by rw [vals, vals, vals_cpy al M o0 sp o1 dp n h r]; simp [fv, cpy, h]
theorem ws_cpy (t : TT) (al : Int → Nat) (M : Mem) {o0 sp o1 dp n : Int} {x : va_E} (h0 : 0 ≤ o1) (hx : cont t al (cpy M o0 sp o1 dp n) o1 = x) : (ws t al M).set o1.toNat (al o1, x) = ws t al (cpy M o0 sp o1 dp n) := by
  apply List.ext_getElem?
  intro j
  by_cases hj : j < NO
  · by_cases e : j = o1.toNat
    · subst e
      rw [List.getElem?_set_self (by rw [ws_len]; exact hj), ws_at t al _ h0 (by omega), hx]
    · rw [List.getElem?_set_ne (fun q => e q.symm)]
      have h1 := ws_at t al M (o := (j : Int)) (by omega) (by omega)
      have h2 := ws_at t al (cpy M o0 sp o1 dp n) (o := (j : Int)) (by omega) (by omega)
      rw [Int.toNat_natCast] at h1 h2
      rw [h1, h2]
      have e2 : (j : Int) ≠ o1 := by omega
      have e3 : cpy M o0 sp o1 dp n (j : Int) = M (j : Int) := by funext k; simp [cpy, e2]
      simp [cont, contK, e3, vals_cpy al M o0 sp o1 dp n e2]
  · have a : ((ws t al M).set o1.toNat (al o1, x)).length ≤ j := by rw [List.length_set, ws_len]; omega
    have b : (ws t al (cpy M o0 sp o1 dp n)).length ≤ j := by rw [ws_len]; omega
    rw [List.getElem?_eq_none a, List.getElem?_eq_none b]
/-- what a call needs of the tables -/
abbrev VC (own C : String) (idx : Nat) (y : MethodName) (bytes : ByteArray) (maxL : Nat) (ret : Option FieldType) (n : Nat) : Prop :=
  Cond.methodLink own idx y ∈ tb ∧ Cond.instanceMethod y ∈ tb ∧ Cond.selects C y y ∈ tb ∧ Cond.initialized C ∈ tb ∧ Cond.code y bytes maxL ret ∈ tb ∧ (y.cls = C ∧ y.cls ≠ "java/lang/invoke/MethodHandle" ∧ y.cls ≠ "java/lang/invoke/VarHandle" ∧ (parseMethodDescriptor y.desc).map (fun d => d.parameters.length) = some n)
abbrev SC (own : String) (idx : Nat) (y : MethodName) (bytes : ByteArray) (maxL : Nat) (ret : Option FieldType) (n : Nat) : Prop :=
  Cond.methodLink own idx y ∈ tb ∧ Cond.static y ∈ tb ∧ Cond.initialized y.cls ∈ tb ∧ Cond.code y bytes maxL ret ∈ tb ∧ (y.cls ≠ "java/lang/invoke/MethodHandle" ∧ y.cls ≠ "java/lang/invoke/VarHandle" ∧ (parseMethodDescriptor y.desc).map (fun d => d.parameters.length) = some n)
abbrev NC (own host : String) (idx : Nat) (y : MethodName) (bytes : ByteArray) (maxL : Nat) (ret : Option FieldType) (n : Nat) : Prop :=
  Cond.methodLinkNest own idx y host ∈ nw ∧ Cond.static y ∈ tb ∧ Cond.initialized y.cls ∈ tb ∧ Cond.code y bytes maxL ret ∈ tb ∧ (y.cls ≠ "java/lang/invoke/MethodHandle" ∧ y.cls ≠ "java/lang/invoke/VarHandle" ∧ (parseMethodDescriptor y.desc).map (fun d => d.parameters.length) = some n)
abbrev UC (own C owner : String) (idx : Nat) (x y : MethodName) (bytes : ByteArray) (maxL : Nat) (ret : Option FieldType) (n : Nat) : Prop :=
  Cond.methodLink own idx x ∈ tb ∧ Cond.sameMethod x.cls owner x.name x.desc ∈ tb ∧ Cond.selects C x y ∈ tb ∧ Cond.instanceMethod y ∈ tb ∧ Cond.initialized y.cls ∈ tb ∧ Cond.code y bytes maxL ret ∈ tb ∧ Cond.declares ⟨owner, x.name, x.desc⟩ ∈ nw ∧ (owner ≠ "java/lang/invoke/MethodHandle" ∧ owner ≠ "java/lang/invoke/VarHandle" ∧ (parseMethodDescriptor x.desc).map (fun d => d.parameters.length) = some n)
theorem tb_good {w : Cond} (h : w ∈ tb) : (w.onTables && w.keeps) = true ∨ ∃ ty, w = .arrayClass ty := good_of_word (List.mem_filter.mp h).2
theorem tb_GI {l : List Cond} (h : ∀ w ∈ l, w ∈ tb) : GoodIn tb l := fun w hw => ⟨h w hw, tb_good (h w hw)⟩
theorem tb_cons {w : Cond} {l : List Cond} (h1 : w ∈ tb) (h2 : ∀ w ∈ l, w ∈ tb) : ∀ v ∈ w :: l, v ∈ tb := fun v hv => (List.mem_cons.mp hv).elim (fun q => q ▸ h1) (h2 v)
section GD2
variable {p : Program} {l : Launch} {e : Env} {R : Room} {s : State} {m : MethodId} {args : Array Value} {below : List Frame} {meth : Method} {c : Code} {kc ks : Nat} {Q : State → Prop} {t : TT} {D : va_G} {al : Int → Nat} {A : Nat → Prop}
variable {cc : ByteArray} {own : String} {nL pc : Nat} {ls ls' : List (Option Value)} {st : List Value} {M : Mem}
theorem g_geti (X : Cx p s m args c R kc ks cc own nL t D al A) {o kz : Int} {ci k N idx : Nat} {C : String} {T : u_T} {ty0 : Nat → FieldType} {fts : List Nat} (hk : kd o = (0, ci, fts)) (F : FC ci C T N ty0) (hkN : k < N) (hz : (k : Int) = kz) (hw : Cond.fieldLink own idx (T k).1 (T k).2.1 (T k).2.2.1 ∈ tb) (hf : fts[k]? = some 0) (hd : decode cc pc = .ok (.getfield idx, 3)) (kk : Gd p l e R s m args below meth c kc ks Q t D al A (pc + 3) ls (.int (iN (M o kz)) :: st) M) : Gd p l e R s m args below meth c kc ks Q t D al A pc ls (.ref (al o) :: st) M := fun H locs la hP hS hv => by
  refine va_get X.1 X.2.1 X.2.2.2.2.1 F.2.1 X.2.2.2.1 X.2.2.2.2.2.2.1 hP o.toNat (at_kd hk (Nat.le_of_ble_eq_true rfl) (cont_o hk)) F.1 k hkN (X.2.2.2.2.1 _ hw) (fun _ h => h) (v := .int (iN (M o kz))) ?_ hd (kk H locs la hP hS hv)
  rw [vals_get, hf]
  subst hz
  simp [fv]
theorem g_getl (X : Cx p s m args c R kc ks cc own nL t D al A) {o kz : Int} {ci k N idx : Nat} {C : String} {T : u_T} {ty0 : Nat → FieldType} {fts : List Nat} (hk : kd o = (0, ci, fts)) (F : FC ci C T N ty0) (hkN : k < N) (hz : (k : Int) = kz) (hw : Cond.fieldLink own idx (T k).1 (T k).2.1 (T k).2.2.1 ∈ tb) (hf : fts[k]? = some 1) (hd : decode cc pc = .ok (.getfield idx, 3)) (kk : Gd p l e R s m args below meth c kc ks Q t D al A (pc + 3) ls (.long (jN (M o kz)) :: st) M) : Gd p l e R s m args below meth c kc ks Q t D al A pc ls (.ref (al o) :: st) M := fun H locs la hP hS hv => by
  refine va_get X.1 X.2.1 X.2.2.2.2.1 F.2.1 X.2.2.2.1 X.2.2.2.2.2.2.1 hP o.toNat (at_kd hk (Nat.le_of_ble_eq_true rfl) (cont_o hk)) F.1 k hkN (X.2.2.2.2.1 _ hw) (fun _ h => h) (v := .long (jN (M o kz))) ?_ hd (kk H locs la hP hS hv)
  rw [vals_get, hf]
  subst hz
  simp [fv]
theorem g_getz (X : Cx p s m args c R kc ks cc own nL t D al A) {o kz : Int} {ci k N idx : Nat} {C : String} {T : u_T} {ty0 : Nat → FieldType} {fts : List Nat} (hk : kd o = (0, ci, fts)) (F : FC ci C T N ty0) (hkN : k < N) (hz : (k : Int) = kz) (hw : Cond.fieldLink own idx (T k).1 (T k).2.1 (T k).2.2.1 ∈ tb) (hf : fts[k]? = some 2) (hd : decode cc pc = .ok (.getfield idx, 3)) (kk : Gd p l e R s m args below meth c kc ks Q t D al A (pc + 3) ls (.int (iN (M o kz)) :: st) M) : Gd p l e R s m args below meth c kc ks Q t D al A pc ls (.ref (al o) :: st) M := fun H locs la hP hS hv => by
  refine va_get X.1 X.2.1 X.2.2.2.2.1 F.2.1 X.2.2.2.1 X.2.2.2.2.2.2.1 hP o.toNat (at_kd hk (Nat.le_of_ble_eq_true rfl) (cont_o hk)) F.1 k hkN (X.2.2.2.2.1 _ hw) (fun _ h => h) (v := .int (iN (M o kz))) ?_ hd (kk H locs la hP hS hv)
  rw [vals_get, hf]
  subst hz
  simp [fv]
theorem g_getr (X : Cx p s m args c R kc ks cc own nL t D al A) {o kz : Int} {ci k N idx : Nat} {C : String} {T : u_T} {ty0 : Nat → FieldType} {fts : List Nat} (hk : kd o = (0, ci, fts)) (F : FC ci C T N ty0) (hkN : k < N) (hz : (k : Int) = kz) (hw : Cond.fieldLink own idx (T k).1 (T k).2.1 (T k).2.2.1 ∈ tb) {r : Int} (hf : fts[k]? = some (r.toNat + 3)) (hr : 0 ≤ r) (hd : decode cc pc = .ok (.getfield idx, 3)) (kk : Gd p l e R s m args below meth c kc ks Q t D al A (pc + 3) ls (.ref (al r) :: st) M) : Gd p l e R s m args below meth c kc ks Q t D al A pc ls (.ref (al o) :: st) M := fun H locs la hP hS hv => by
  refine va_get X.1 X.2.1 X.2.2.2.2.1 F.2.1 X.2.2.2.1 X.2.2.2.2.2.2.1 hP o.toNat (at_kd hk (Nat.le_of_ble_eq_true rfl) (cont_o hk)) F.1 k hkN (X.2.2.2.2.1 _ hw) (fun _ h => h) (v := .ref (al r)) ?_ hd (kk H locs la hP hS hv)
  rw [vals_get, hf]
  have e : ((r.toNat + 3 - 3 : Nat) : Int) = r := by omega
  have e0 : ¬ (r.toNat + 3 = 0) := by omega
  have e1 : ¬ (r.toNat + 3 = 1) := by omega
  have e2 : ¬ (r.toNat + 3 = 2) := by omega
  simp only [Option.map_some, fv, if_neg e0, if_neg e1, if_neg e2, e]
theorem g_puti (X : Cx p s m args c R kc ks cc own nL t D al A) {o kz : Int} {ci k N idx : Nat} {C : String} {T : u_T} {ty0 : Nat → FieldType} {fts : List Nat} (hk : kd o = (0, ci, fts)) (F : FC ci C T N ty0) (hkN : k < N) (hz : (k : Int) = kz) (hw : Cond.fieldLink own idx (T k).1 (T k).2.1 (T k).2.2.1 ∈ tb) {v : Int} (hf : fts[k]? = some 0) (hfin : (T k).2.2.2 = false) (hty : ty0 k = .int) (hd : decode cc pc = .ok (.putfield idx, 3)) (kk : Gd p l e R s m args below meth c kc ks Q t D al A (pc + 3) ls st (mu M o kz v)) : Gd p l e R s m args below meth c kc ks Q t D al A pc ls (.int (iN v) :: .ref (al o) :: st) M := fun H locs la hP hS hv => by
  have hl : k < (vals al M o 0 fts).length := by rw [vals_len]; exact (List.getElem?_eq_some_iff.mp hf).1
  refine va_put X.1 X.2.1 X.2.2.2.2.1 F.2.1 ty0 F.2.2.1 F.2.2.2 X.2.2.2.1 X.2.2.2.2.2.2.1 hP (X.2.2.2.2.2.2.2.1 M) hS o.toNat (at_kd hk (Nat.le_of_ble_eq_true rfl) (cont_o hk)) F.1 k hkN (X.2.2.2.2.1 _ hw) (fun _ h => h) hfin (ty := .int) (by rw [F.2.2.1 k hkN, hty]) rfl rfl hl hd (fun H1 locs1 hP1 hD1 hS1 => ?_)
  have h0 := (kd_in hk (Nat.le_of_ble_eq_true rfl)).1
  have hset : (vals al M o 0 fts).set k (.int (iN v)) = vals al (mu M o kz v) o 0 fts := by
    have h := vals_set al M o v fts 0 k (.int (iN v)) (fun t' ht => by
      rw [hf] at ht
      cases ht
      simp [fv, mu_same])
    rw [Nat.zero_add, hz] at h
    exact h
  rw [hset] at hP1
  rw [ws_set t al M h0 (cont_o hk)] at hP1
  exact kk H1 locs1 la hP1 hS1 hv
theorem g_putl (X : Cx p s m args c R kc ks cc own nL t D al A) {o kz : Int} {ci k N idx : Nat} {C : String} {T : u_T} {ty0 : Nat → FieldType} {fts : List Nat} (hk : kd o = (0, ci, fts)) (F : FC ci C T N ty0) (hkN : k < N) (hz : (k : Int) = kz) (hw : Cond.fieldLink own idx (T k).1 (T k).2.1 (T k).2.2.1 ∈ tb) {v : Int} (hf : fts[k]? = some 1) (hfin : (T k).2.2.2 = false) (hty : ty0 k = .long) (hd : decode cc pc = .ok (.putfield idx, 3)) (kk : Gd p l e R s m args below meth c kc ks Q t D al A (pc + 3) ls st (mu M o kz v)) : Gd p l e R s m args below meth c kc ks Q t D al A pc ls (.long (jN v) :: .ref (al o) :: st) M := fun H locs la hP hS hv => by
  have hl : k < (vals al M o 0 fts).length := by rw [vals_len]; exact (List.getElem?_eq_some_iff.mp hf).1
  refine va_put X.1 X.2.1 X.2.2.2.2.1 F.2.1 ty0 F.2.2.1 F.2.2.2 X.2.2.2.1 X.2.2.2.2.2.2.1 hP (X.2.2.2.2.2.2.2.1 M) hS o.toNat (at_kd hk (Nat.le_of_ble_eq_true rfl) (cont_o hk)) F.1 k hkN (X.2.2.2.2.1 _ hw) (fun _ h => h) hfin (ty := .long) (by rw [F.2.2.1 k hkN, hty]) rfl rfl hl hd (fun H1 locs1 hP1 hD1 hS1 => ?_)
  have h0 := (kd_in hk (Nat.le_of_ble_eq_true rfl)).1
  have hset : (vals al M o 0 fts).set k (.long (jN v)) = vals al (mu M o kz v) o 0 fts := by
    have h := vals_set al M o v fts 0 k (.long (jN v)) (fun t' ht => by
      rw [hf] at ht
      cases ht
      simp [fv, mu_same])
    rw [Nat.zero_add, hz] at h
    exact h
  rw [hset] at hP1
  rw [ws_set t al M h0 (cont_o hk)] at hP1
  exact kk H1 locs1 la hP1 hS1 hv
theorem g_putz (X : Cx p s m args c R kc ks cc own nL t D al A) {o kz : Int} {ci k N idx : Nat} {C : String} {T : u_T} {ty0 : Nat → FieldType} {fts : List Nat} (hk : kd o = (0, ci, fts)) (F : FC ci C T N ty0) (hkN : k < N) (hz : (k : Int) = kz) (hw : Cond.fieldLink own idx (T k).1 (T k).2.1 (T k).2.2.1 ∈ tb) {v : Int} (hf : fts[k]? = some 2) (hfin : (T k).2.2.2 = false) (hty : ty0 k = .boolean) (hb : v = 0 ∨ v = 1) (hd : decode cc pc = .ok (.putfield idx, 3)) (kk : Gd p l e R s m args below meth c kc ks Q t D al A (pc + 3) ls st (mu M o kz v)) : Gd p l e R s m args below meth c kc ks Q t D al A pc ls (.int (iN v) :: .ref (al o) :: st) M := fun H locs la hP hS hv => by
  have hl : k < (vals al M o 0 fts).length := by rw [vals_len]; exact (List.getElem?_eq_some_iff.mp hf).1
  refine va_put X.1 X.2.1 X.2.2.2.2.1 F.2.1 ty0 F.2.2.1 F.2.2.2 X.2.2.2.1 X.2.2.2.2.2.2.1 hP (X.2.2.2.2.2.2.2.1 M) hS o.toNat (at_kd hk (Nat.le_of_ble_eq_true rfl) (cont_o hk)) F.1 k hkN (X.2.2.2.2.1 _ hw) (fun _ h => h) hfin (ty := .boolean) (by rw [F.2.2.1 k hkN, hty]) (by rcases hb with rfl | rfl <;> rfl) (by rcases hb with rfl | rfl <;> rfl) hl hd (fun H1 locs1 hP1 hD1 hS1 => ?_)
  have h0 := (kd_in hk (Nat.le_of_ble_eq_true rfl)).1
  have hset : (vals al M o 0 fts).set k (.int (iN v)) = vals al (mu M o kz v) o 0 fts := by
    have h := vals_set al M o v fts 0 k (.int (iN v)) (fun t' ht => by
      rw [hf] at ht
      cases ht
      simp [fv, mu_same])
    rw [Nat.zero_add, hz] at h
    exact h
  rw [hset] at hP1
  rw [ws_set t al M h0 (cont_o hk)] at hP1
  exact kk H1 locs1 la hP1 hS1 hv
theorem g_iald (X : Cx p s m args c R kc ks cc own nL t D al A) {o i : Int} {n : Nat} (hk : kd o = (1, n, [])) (h0 : 0 ≤ i) (h1 : i < (n : Int)) (hd : decode cc pc = .ok (.iaload, 1)) (kk : Gd p l e R s m args below meth c kc ks Q t D al A (pc + 1) ls (.int (iN (M o i)) :: st) M) : Gd p l e R s m args below meth c kc ks Q t D al A pc ls (.int (iN i) :: .ref (al o) :: st) M := fun H locs la hP hS hv => by
  have hn := kd_small hk
  dsimp only at hn
  refine va_iald X.1 X.2.1 X.2.2.2.2.2.2.1 hP o.toNat 0 (at_kd hk (Nat.le_of_ble_eq_true rfl) (cont_i hk)) rfl (iN_in h0 h1 (by omega)) hd ?_
  rw [iN_clamp ⟨h0, by omega⟩]
  have e2 : ((i.toNat : Nat) : Int) = i := by omega
  rw [e2]
  exact kk H locs la hP hS hv
theorem g_iast (X : Cx p s m args c R kc ks cc own nL t D al A) {o i v : Int} {n : Nat} (hk : kd o = (1, n, [])) (h0 : 0 ≤ i) (h1 : i < (n : Int)) (hd : decode cc pc = .ok (.iastore, 1)) (kk : Gd p l e R s m args below meth c kc ks Q t D al A (pc + 1) ls st (mu M o i v)) : Gd p l e R s m args below meth c kc ks Q t D al A pc ls (.int (iN v) :: .int (iN i) :: .ref (al o) :: st) M := fun H locs la hP hS hv => by
  have hn := kd_small hk
  dsimp only at hn
  refine va_iast X.1 X.2.1 X.2.2.2.2.2.2.1 hP (X.2.2.2.2.2.2.2.1 M) hS o.toNat 0 (at_kd hk (Nat.le_of_ble_eq_true rfl) (cont_i hk)) rfl (iN_in h0 h1 (by omega)) hd (fun H1 locs1 hP1 hD1 hS1 => ?_)
  rw [← arr_upd h0 (by omega), ws_set t al M (kd_in hk (Nat.le_of_ble_eq_true rfl)).1 (cont_i hk)] at hP1
  exact kk H1 locs1 la hP1 hS1 hv
theorem g_zald (X : Cx p s m args c R kc ks cc own nL t D al A) {o i : Int} {n : Nat} (hk : kd o = (2, n, [])) (h0 : 0 ≤ i) (h1 : i < (n : Int)) (hd : decode cc pc = .ok (.baload, 1)) (kk : Gd p l e R s m args below meth c kc ks Q t D al A (pc + 1) ls (.int (iN (M o i)) :: st) M) : Gd p l e R s m args below meth c kc ks Q t D al A pc ls (.int (iN i) :: .ref (al o) :: st) M := fun H locs la hP hS hv => by
  have hn := kd_small hk
  dsimp only at hn
  refine va_zald X.1 X.2.1 X.2.2.2.2.2.2.1 hP o.toNat 2 (at_kd hk (Nat.le_of_ble_eq_true rfl) (cont_z hk)) rfl (iN_in h0 h1 (by omega)) hd ?_
  rw [iN_clamp ⟨h0, by omega⟩]
  have e2 : ((i.toNat : Nat) : Int) = i := by omega
  rw [e2]
  exact kk H locs la hP hS hv
theorem g_zast (X : Cx p s m args c R kc ks cc own nL t D al A) {o i v : Int} {n : Nat} (hk : kd o = (2, n, [])) (h0 : 0 ≤ i) (h1 : i < (n : Int)) (hb : v = 0 ∨ v = 1) (hd : decode cc pc = .ok (.bastore, 1)) (kk : Gd p l e R s m args below meth c kc ks Q t D al A (pc + 1) ls st (mu M o i v)) : Gd p l e R s m args below meth c kc ks Q t D al A pc ls (.int (iN v) :: .int (iN i) :: .ref (al o) :: st) M := fun H locs la hP hS hv => by
  have hn := kd_small hk
  dsimp only at hn
  have hnar : vp_nar .boolean (iN v) = iN v := by rcases hb with rfl | rfl <;> rfl
  refine va_zast X.1 X.2.1 X.2.2.2.2.2.2.1 hP (X.2.2.2.2.2.2.2.1 M) hS o.toNat 2 (at_kd hk (Nat.le_of_ble_eq_true rfl) (cont_z hk)) rfl (iN_in h0 h1 (by omega)) hd (fun H1 locs1 hP1 hD1 hS1 => ?_)
  rw [hnar] at hP1
  rw [← arr_upd h0 (by omega), ws_set t al M (kd_in hk (Nat.le_of_ble_eq_true rfl)).1 (cont_z hk)] at hP1
  exact kk H1 locs1 la hP1 hS1 hv
theorem g_lald (X : Cx p s m args c R kc ks cc own nL t D al A) {o i : Int} {n : Nat} (hk : kd o = (3, n, [])) (h0 : 0 ≤ i) (h1 : i < (n : Int)) (hd : decode cc pc = .ok (.laload, 1)) (kk : Gd p l e R s m args below meth c kc ks Q t D al A (pc + 1) ls (.long (jN (M o i)) :: st) M) : Gd p l e R s m args below meth c kc ks Q t D al A pc ls (.int (iN i) :: .ref (al o) :: st) M := fun H locs la hP hS hv => by
  have hn := kd_small hk
  dsimp only at hn
  refine va_lald X.1 X.2.1 X.2.2.2.2.2.2.1 hP o.toNat 1 (at_kd hk (Nat.le_of_ble_eq_true rfl) (cont_j hk)) rfl (iN_in h0 h1 (by omega)) hd ?_
  rw [iN_clamp ⟨h0, by omega⟩]
  have e2 : ((i.toNat : Nat) : Int) = i := by omega
  rw [e2]
  exact kk H locs la hP hS hv
theorem g_last (X : Cx p s m args c R kc ks cc own nL t D al A) {o i v : Int} {n : Nat} (hk : kd o = (3, n, [])) (h0 : 0 ≤ i) (h1 : i < (n : Int)) (hd : decode cc pc = .ok (.lastore, 1)) (kk : Gd p l e R s m args below meth c kc ks Q t D al A (pc + 1) ls st (mu M o i v)) : Gd p l e R s m args below meth c kc ks Q t D al A pc ls (.long (jN v) :: .int (iN i) :: .ref (al o) :: st) M := fun H locs la hP hS hv => by
  have hn := kd_small hk
  dsimp only at hn
  refine va_last X.1 X.2.1 X.2.2.2.2.2.2.1 hP (X.2.2.2.2.2.2.2.1 M) hS o.toNat 1 (at_kd hk (Nat.le_of_ble_eq_true rfl) (cont_j hk)) rfl (iN_in h0 h1 (by omega)) hd (fun H1 locs1 hP1 hD1 hS1 => ?_)
  rw [← arr_updL h0 (by omega), ws_set t al M (kd_in hk (Nat.le_of_ble_eq_true rfl)).1 (cont_j hk)] at hP1
  exact kk H1 locs1 la hP1 hS1 hv
theorem g_aald (X : Cx p s m args c R kc ks cc own nL t D al A) {o i : Int} {n b : Nat} {bz : Int} (hk : kd o = (4, n, [b])) (hz : (b : Int) = bz) (h0 : 0 ≤ i) (h1 : i < (n : Int)) (hd : decode cc pc = .ok (.aaload, 1)) (kk : Gd p l e R s m args below meth c kc ks Q t D al A (pc + 1) ls (.ref (al (bz + i)) :: st) M) : Gd p l e R s m args below meth c kc ks Q t D al A pc ls (.int (iN i) :: .ref (al o) :: st) M := fun H locs la hP hS hv => by
  have hn := kd_small hk
  dsimp only at hn
  have hin := iN_in h0 h1 (by omega)
  have hlt : (iN i).toNatClampNeg < n := Nat.not_le.mp fun q => hin (Or.inr q)
  have hcell := hP _ _ (at_kd hk (Nat.le_of_ble_eq_true rfl) (cont_a hk))
  refine W.aald (v := .ref (al (bz + i))) (ty := .array .int) X.1 X.2.1 hcell ((X.2.2.2.2.2.2.1.2 3 _ rfl).1 n (fun j => va_rf (some (al ((b : Int) + (j : Int)))))) rfl (fun q => by cases q) (by show ¬ (iN i < 0 ∨ (arrV _ _ _).slots.size ≤ _); rw [arrV_size]; exact hin) ?_ rfl rfl hd (kk H locs la hP hS hv)
  show (arrV _ _ _).slots[_]? = _
  rw [arrV_read _ _ hlt, iN_clamp ⟨h0, by omega⟩]
  have e2 : ((i.toNat : Nat) : Int) = i := by omega
  show some (Value.ref (al ((b : Int) + ((i.toNat : Nat) : Int)))) = _
  rw [e2, hz]
theorem g_alen (X : Cx p s m args c R kc ks cc own nL t D al A) {o nz : Int} {n : Nat} (hk : kd o = (1, n, [])) (hz : (n : Int) = nz) (hd : decode cc pc = .ok (.arraylength, 1)) (kk : Gd p l e R s m args below meth c kc ks Q t D al A (pc + 1) ls (.int (iN nz) :: st) M) : Gd p l e R s m args below meth c kc ks Q t D al A pc ls (.ref (al o) :: st) M := fun H locs la hP hS hv => va_alen X.1 X.2.1 X.2.2.2.2.2.2.1 hP o.toNat 0 (at_kd hk (Nat.le_of_ble_eq_true rfl) (cont_i hk)) (ty := .int) rfl (by subst hz; exact (Int32.ofInt_eq_ofNat).symm) hd (kk H locs la hP hS hv)
theorem g_iret (X : Cx p s m args c R kc ks cc own nL t D al (fA al)) {a : Int} {post : Int → Mem → Prop} (hr : meth.sig.returnType = some .int) (hlocks : meth.locks = false) (hd : decode cc pc = .ok (.ireturn, 1)) (hp : post a M) : Gd p l e R s m args below meth c kc ks (MQ below (QI t D al post) args s kc ks (fA al)) t D al (fA al) pc ls [.int (iN a)] M := fun H locs la hP hS hv =>
  W.iret (v := iN a) X.1 X.2.1 hr  (fun t' ht hW => ⟨⟨_, (a, M), rfl, ⟨rfl, hp⟩, by show va_P _ _ _ t'.heap; rw [ht]; exact hP, va_K.moved hW.alike X.2.2.2.2.2.2.1, X.2.2.2.2.2.2.2.1 M, nw_warm hW X.2.2.2.2.2.1⟩, hS.F ht⟩) hS.2.2 hd hlocks
theorem g_zret (X : Cx p s m args c R kc ks cc own nL t D al (fA al)) {a : Int} {post : Int → Mem → Prop} (hr : meth.sig.returnType = some .boolean) (hlocks : meth.locks = false) (hb : a = 0 ∨ a = 1) (hd : decode cc pc = .ok (.ireturn, 1)) (hp : post a M) : Gd p l e R s m args below meth c kc ks (MQ below (QI t D al post) args s kc ks (fA al)) t D al (fA al) pc ls [.int (iN a)] M := fun H locs la hP hS hv =>
  W.zret (v := iN a) (ty := .boolean) X.1 X.2.1 hr (by rcases hb with rfl | rfl <;> rfl) (fun t' ht hW => ⟨⟨_, (a, M), rfl, ⟨rfl, hp⟩, by show va_P _ _ _ t'.heap; rw [ht]; exact hP, va_K.moved hW.alike X.2.2.2.2.2.2.1, X.2.2.2.2.2.2.2.1 M, nw_warm hW X.2.2.2.2.2.1⟩, hS.F ht⟩) hS.2.2 hd hlocks
theorem g_lret (X : Cx p s m args c R kc ks cc own nL t D al (fA al)) {a : Int} {post : Int → Mem → Prop} (hr : meth.sig.returnType = some .long) (hlocks : meth.locks = false) (hd : decode cc pc = .ok (.lreturn, 1)) (hp : post a M) : Gd p l e R s m args below meth c kc ks (MQ below (QJ t D al post) args s kc ks (fA al)) t D al (fA al) pc ls [.long (jN a)] M := fun H locs la hP hS hv =>
  W.lret (v := jN a) X.1 X.2.1 hr  (fun t' ht hW => ⟨⟨_, (a, M), rfl, ⟨rfl, hp⟩, by show va_P _ _ _ t'.heap; rw [ht]; exact hP, va_K.moved hW.alike X.2.2.2.2.2.2.1, X.2.2.2.2.2.2.2.1 M, nw_warm hW X.2.2.2.2.2.1⟩, hS.F ht⟩) hS.2.2 hd hlocks
theorem g_vret (X : Cx p s m args c R kc ks cc own nL t D al (fA al)) {post : Mem → Prop} (hr : meth.sig.returnType = none) (hlocks : meth.locks = false) (hd : decode cc pc = .ok (.return_, 1)) (hp : post M) : Gd p l e R s m args below meth c kc ks (MQ below (QV t D al post) args s kc ks (fA al)) t D al (fA al) pc ls [] M := fun H locs la hP hS hv =>
  W.vret X.1 X.2.1 hr (fun t' ht hW => ⟨⟨M, rfl, hp, by show va_P _ _ _ t'.heap; rw [ht]; exact hP, va_K.moved hW.alike X.2.2.2.2.2.2.1, X.2.2.2.2.2.2.2.1 M, nw_warm hW X.2.2.2.2.2.1⟩, hS.F ht⟩) hS.2.2 hd hlocks
theorem g_callVI (X : Cx p s m args c R kc ks cc own nL t D al A) {y : MethodName} {bytes : ByteArray} {maxL fr lo n idx : Nat} {As rest : List Value} {rt : FieldType} {post : Int → Mem → Prop} {o : Int} {ci N : Nat} {C : String} {T : u_T} {ty0 : Nat → FieldType} {fts : List Nat} (hM : CI l y bytes maxL rt fr lo t D al (.ref (al o) :: As) M post) (hk : kd o = (0, ci, fts)) (F : FC ci C T N ty0) (V : VC own C idx y bytes maxL (some rt) n) (hn : As.length = n) (hlen : ls.length = nL) (hR : fr + 1 ≤ R.frames ∧ 8 + (maxL + 11) + lo ≤ R.locals) (hst : st = As.reverse ++ .ref (al o) :: rest) (hcat : (rest.map fun v => v.category).sum ≤ 8) (hd : decode cc pc = .ok (.invokevirtual idx, 3)) (k : ∀ (r : Int) (M' : Mem), post r M' → Gd p l e R s m args below meth c kc ks Q t D al A (pc + 3) ls (.int (iN r) :: rest) M') : Gd p l e R s m args below meth c kc ks Q t D al A pc ls st M := by
  intro H locs la hP hS hv
  have hPre : ∀ U : State, U.heap = H → s.WarmedH U.vm → RepS t D al M U := fun U hU hW => ⟨by show va_P _ _ _ U.heap; rw [hU]; exact hP, va_K.moved hW.alike X.2.2.2.2.2.2.1, ws_fA (X.2.2.2.2.2.2.2.1 M), nw_warm hW X.2.2.2.2.2.1⟩
  have hAf : ∀ q, fA al q → A q := fun q hq => fA_A (X.2.2.2.2.2.2.2.1 M) hq
  have hG : GoodIn tb (wsV own idx C y (Cond.code y bytes maxL (some rt) :: tb)) := tb_GI (tb_cons V.1 (tb_cons V.2.1 (tb_cons V.2.2.1 (tb_cons V.2.2.2.1 (tb_cons V.2.2.2.2.1 (fun _ h => h))))))
  refine va_calli (va_runV (As := As) (rest := rest) (nL := nL) ⟨X.1, X.2.1, X.2.2.1, X.2.2.2.1, X.2.2.2.2.1⟩ hM (cwV n X.2.2.2.2.1 hG rfl rfl rfl V.2.2.2.2.2 hR) ⟨repS_blind, va_recv X.2.2.2.2.2.2.1 hP F.1 (at_kd hk (Nat.le_of_ble_eq_true rfl) (cont_o hk)), fun U hU hW => ⟨rfl, hPre U hU hW⟩⟩ rfl hn (by show la.size = nL; rw [hv.1, hlen]) hst (lv_room hcat) hd ⟨by have := X.2.2.2.2.2.2.2.2.1; omega, by have := X.2.2.2.2.2.2.2.2.2; omega⟩) hS (fun q _ h => hAf q h) hAf (fun r0 u tt H1 locs1 ht hvm hw hB hz1 hk1 hS1 => ?_)
  obtain ⟨hP1, -, -, -⟩ := hB
  rw [ht] at hP1
  obtain ⟨r2, M2⟩ := u
  have hr0 := hw.1
  dsimp only at hr0 hP1
  subst hr0
  exact k r2 M2 hw.2 H1 locs1 la hP1 hS1 hv
theorem g_callSI (X : Cx p s m args c R kc ks cc own nL t D al A) {y : MethodName} {bytes : ByteArray} {maxL fr lo n idx : Nat} {As rest : List Value} {rt : FieldType} {post : Int → Mem → Prop} (hM : CI l y bytes maxL rt fr lo t D al As M post) (V : SC own idx y bytes maxL (some rt) n) (hn : As.length = n) (hlen : ls.length = nL) (hR : fr + 1 ≤ R.frames ∧ 8 + (maxL + 11) + lo ≤ R.locals) (hst : st = As.reverse ++ rest) (hcat : (rest.map fun v => v.category).sum ≤ 8) (hd : decode cc pc = .ok (.invokestatic idx, 3)) (k : ∀ (r : Int) (M' : Mem), post r M' → Gd p l e R s m args below meth c kc ks Q t D al A (pc + 3) ls (.int (iN r) :: rest) M') : Gd p l e R s m args below meth c kc ks Q t D al A pc ls st M := by
  intro H locs la hP hS hv
  have hPre : ∀ U : State, U.heap = H → s.WarmedH U.vm → RepS t D al M U := fun U hU hW => ⟨by show va_P _ _ _ U.heap; rw [hU]; exact hP, va_K.moved hW.alike X.2.2.2.2.2.2.1, ws_fA (X.2.2.2.2.2.2.2.1 M), nw_warm hW X.2.2.2.2.2.1⟩
  have hAf : ∀ q, fA al q → A q := fun q hq => fA_A (X.2.2.2.2.2.2.2.1 M) hq
  have hG : GoodIn tb (va_wsS own idx y (Cond.code y bytes maxL (some rt) :: tb)) := tb_GI (tb_cons V.1 (tb_cons V.2.1 (tb_cons V.2.2.1 (tb_cons V.2.2.2.1 (fun _ h => h)))))
  refine va_calli (va_runS (As := As) (rest := rest) (nL := nL) ⟨X.1, X.2.1, X.2.2.1, X.2.2.2.1, X.2.2.2.2.1⟩ hM (va_cwS n X.2.2.2.2.1 hG rfl rfl rfl V.2.2.2.2 hR) ⟨repS_blind, fun U hU hW => ⟨rfl, hPre U hU hW⟩⟩ rfl hn (by show la.size = nL; rw [hv.1, hlen]) hst (lv_room hcat) hd ⟨by have := X.2.2.2.2.2.2.2.2.1; omega, by have := X.2.2.2.2.2.2.2.2.2; omega⟩) hS (fun q _ h => hAf q h) hAf (fun r0 u tt H1 locs1 ht hvm hw hB hz1 hk1 hS1 => ?_)
  obtain ⟨hP1, -, -, -⟩ := hB
  rw [ht] at hP1
  obtain ⟨r2, M2⟩ := u
  have hr0 := hw.1
  dsimp only at hr0 hP1
  subst hr0
  exact k r2 M2 hw.2 H1 locs1 la hP1 hS1 hv
theorem g_callNI (X : Cx p s m args c R kc ks cc own nL t D al A) {y : MethodName} {bytes : ByteArray} {maxL fr lo n idx : Nat} {As rest : List Value} {rt : FieldType} {post : Int → Mem → Prop} {host : String} (hM : CI l y bytes maxL rt fr lo t D al As M post) (V : NC own host idx y bytes maxL (some rt) n) (hn : As.length = n) (hlen : ls.length = nL) (hR : fr + 1 ≤ R.frames ∧ 8 + (maxL + 11) + lo ≤ R.locals) (hst : st = As.reverse ++ rest) (hcat : (rest.map fun v => v.category).sum ≤ 8) (hd : decode cc pc = .ok (.invokestatic idx, 3)) (k : ∀ (r : Int) (M' : Mem), post r M' → Gd p l e R s m args below meth c kc ks Q t D al A (pc + 3) ls (.int (iN r) :: rest) M') : Gd p l e R s m args below meth c kc ks Q t D al A pc ls st M := by
  intro H locs la hP hS hv
  have hPre : ∀ U : State, U.heap = H → s.WarmedH U.vm → RepS t D al M U := fun U hU hW => ⟨by show va_P _ _ _ U.heap; rw [hU]; exact hP, va_K.moved hW.alike X.2.2.2.2.2.2.1, ws_fA (X.2.2.2.2.2.2.2.1 M), nw_warm hW X.2.2.2.2.2.1⟩
  have hAf : ∀ q, fA al q → A q := fun q hq => fA_A (X.2.2.2.2.2.2.2.1 M) hq
  have hG : GoodIn tb (Cond.code y bytes maxL (some rt) :: tb) := tb_GI (tb_cons V.2.2.2.1 (fun _ h => h))
  refine va_calli (va_runSN (As := As) (rest := rest) (nL := nL) (host := host) ⟨X.1, X.2.1, X.2.2.1, X.2.2.2.1, X.2.2.2.2.1⟩ hM ⟨va_cnB n X.2.2.2.2.1 hG rfl rfl rfl (X.2.2.2.2.2.1 _ V.1) (X.2.2.2.2.1 _ V.2.2.1) V.2.2.2.2 hR, X.2.2.2.2.1 _ V.2.1, trivial⟩ ⟨repS_blind, fun U hU hW => ⟨rfl, hPre U hU hW⟩⟩ rfl hn (by show la.size = nL; rw [hv.1, hlen]) hst (lv_room hcat) hd ⟨by have := X.2.2.2.2.2.2.2.2.1; omega, by have := X.2.2.2.2.2.2.2.2.2; omega⟩) hS (fun q _ h => hAf q h) hAf (fun r0 u tt H1 locs1 ht hvm hw hB hz1 hk1 hS1 => ?_)
  obtain ⟨hP1, -, -, -⟩ := hB
  rw [ht] at hP1
  obtain ⟨r2, M2⟩ := u
  have hr0 := hw.1
  dsimp only at hr0 hP1
  subst hr0
  exact k r2 M2 hw.2 H1 locs1 la hP1 hS1 hv
theorem g_callUI (X : Cx p s m args c R kc ks cc own nL t D al A) {y : MethodName} {bytes : ByteArray} {maxL fr lo n idx : Nat} {As rest : List Value} {rt : FieldType} {post : Int → Mem → Prop} {x : MethodName} {owner : String} {o : Int} {ci N : Nat} {C : String} {T : u_T} {ty0 : Nat → FieldType} {fts : List Nat} (hM : CI l y bytes maxL rt fr lo t D al (.ref (al o) :: As) M post) (hk : kd o = (0, ci, fts)) (F : FC ci C T N ty0) (V : UC own C owner idx x y bytes maxL (some rt) n) (hn : As.length = n) (hlen : ls.length = nL) (hR : fr + 1 ≤ R.frames ∧ 8 + (maxL + 11) + lo ≤ R.locals) (hst : st = As.reverse ++ .ref (al o) :: rest) (hcat : (rest.map fun v => v.category).sum ≤ 8) (hd : decode cc pc = .ok (.invokevirtual idx, 3)) (k : ∀ (r : Int) (M' : Mem), post r M' → Gd p l e R s m args below meth c kc ks Q t D al A (pc + 3) ls (.int (iN r) :: rest) M') : Gd p l e R s m args below meth c kc ks Q t D al A pc ls st M := by
  intro H locs la hP hS hv
  have hPre : ∀ U : State, U.heap = H → s.WarmedH U.vm → RepS t D al M U := fun U hU hW => ⟨by show va_P _ _ _ U.heap; rw [hU]; exact hP, va_K.moved hW.alike X.2.2.2.2.2.2.1, ws_fA (X.2.2.2.2.2.2.2.1 M), nw_warm hW X.2.2.2.2.2.1⟩
  have hAf : ∀ q, fA al q → A q := fun q hq => fA_A (X.2.2.2.2.2.2.2.1 M) hq
  have hG : GoodIn tb (va_wsU own idx C owner x y (Cond.code y bytes maxL (some rt) :: tb)) := tb_GI (tb_cons V.1 (tb_cons V.2.1 (tb_cons V.2.2.1 (tb_cons V.2.2.2.1 (tb_cons V.2.2.2.2.1 (tb_cons V.2.2.2.2.2.1 (fun _ h => h)))))))
  refine va_calli (va_runU (As := As) (rest := rest) (nL := nL) ⟨X.1, X.2.1, X.2.2.1, X.2.2.2.1, X.2.2.2.2.1⟩ hM (va_cwA n X.2.2.2.2.1 hG rfl rfl rfl (X.2.2.2.2.2.1 _ V.2.2.2.2.2.2.1) V.2.2.2.2.2.2.2 hR) ⟨repS_blind, va_recv X.2.2.2.2.2.2.1 hP F.1 (at_kd hk (Nat.le_of_ble_eq_true rfl) (cont_o hk)), fun U hU hW => ⟨rfl, hPre U hU hW⟩⟩ rfl hn (by show la.size = nL; rw [hv.1, hlen]) hst (lv_room hcat) hd ⟨by have := X.2.2.2.2.2.2.2.2.1; omega, by have := X.2.2.2.2.2.2.2.2.2; omega⟩) hS (fun q _ h => hAf q h) hAf (fun r0 u tt H1 locs1 ht hvm hw hB hz1 hk1 hS1 => ?_)
  obtain ⟨hP1, -, -, -⟩ := hB
  rw [ht] at hP1
  obtain ⟨r2, M2⟩ := u
  have hr0 := hw.1
  dsimp only at hr0 hP1
  subst hr0
  exact k r2 M2 hw.2 H1 locs1 la hP1 hS1 hv
theorem g_callVJ (X : Cx p s m args c R kc ks cc own nL t D al A) {y : MethodName} {bytes : ByteArray} {maxL fr lo n idx : Nat} {As rest : List Value} {post : Int → Mem → Prop} {o : Int} {ci N : Nat} {C : String} {T : u_T} {ty0 : Nat → FieldType} {fts : List Nat} (hM : CJ l y bytes maxL fr lo t D al (.ref (al o) :: As) M post) (hk : kd o = (0, ci, fts)) (F : FC ci C T N ty0) (V : VC own C idx y bytes maxL (some .long) n) (hn : As.length = n) (hlen : ls.length = nL) (hR : fr + 1 ≤ R.frames ∧ 8 + (maxL + 11) + lo ≤ R.locals) (hst : st = As.reverse ++ .ref (al o) :: rest) (hcat : (rest.map fun v => v.category).sum ≤ 8) (hd : decode cc pc = .ok (.invokevirtual idx, 3)) (k : ∀ (r : Int) (M' : Mem), post r M' → Gd p l e R s m args below meth c kc ks Q t D al A (pc + 3) ls (.long (jN r) :: rest) M') : Gd p l e R s m args below meth c kc ks Q t D al A pc ls st M := by
  intro H locs la hP hS hv
  have hPre : ∀ U : State, U.heap = H → s.WarmedH U.vm → RepS t D al M U := fun U hU hW => ⟨by show va_P _ _ _ U.heap; rw [hU]; exact hP, va_K.moved hW.alike X.2.2.2.2.2.2.1, ws_fA (X.2.2.2.2.2.2.2.1 M), nw_warm hW X.2.2.2.2.2.1⟩
  have hAf : ∀ q, fA al q → A q := fun q hq => fA_A (X.2.2.2.2.2.2.2.1 M) hq
  have hG : GoodIn tb (wsV own idx C y (Cond.code y bytes maxL (some .long) :: tb)) := tb_GI (tb_cons V.1 (tb_cons V.2.1 (tb_cons V.2.2.1 (tb_cons V.2.2.2.1 (tb_cons V.2.2.2.2.1 (fun _ h => h))))))
  refine va_calll (va_runV (As := As) (rest := rest) (nL := nL) ⟨X.1, X.2.1, X.2.2.1, X.2.2.2.1, X.2.2.2.2.1⟩ hM (cwV n X.2.2.2.2.1 hG rfl rfl rfl V.2.2.2.2.2 hR) ⟨repS_blind, va_recv X.2.2.2.2.2.2.1 hP F.1 (at_kd hk (Nat.le_of_ble_eq_true rfl) (cont_o hk)), fun U hU hW => ⟨rfl, hPre U hU hW⟩⟩ rfl hn (by show la.size = nL; rw [hv.1, hlen]) hst (lv_room hcat) hd ⟨by have := X.2.2.2.2.2.2.2.2.1; omega, by have := X.2.2.2.2.2.2.2.2.2; omega⟩) hS (fun q _ h => hAf q h) hAf (fun r0 u tt H1 locs1 ht hvm hw hB hz1 hk1 hS1 => ?_)
  obtain ⟨hP1, -, -, -⟩ := hB
  rw [ht] at hP1
  obtain ⟨r2, M2⟩ := u
  have hr0 := hw.1
  dsimp only at hr0 hP1
  subst hr0
  exact k r2 M2 hw.2 H1 locs1 la hP1 hS1 hv
theorem g_callSJ (X : Cx p s m args c R kc ks cc own nL t D al A) {y : MethodName} {bytes : ByteArray} {maxL fr lo n idx : Nat} {As rest : List Value} {post : Int → Mem → Prop} (hM : CJ l y bytes maxL fr lo t D al As M post) (V : SC own idx y bytes maxL (some .long) n) (hn : As.length = n) (hlen : ls.length = nL) (hR : fr + 1 ≤ R.frames ∧ 8 + (maxL + 11) + lo ≤ R.locals) (hst : st = As.reverse ++ rest) (hcat : (rest.map fun v => v.category).sum ≤ 8) (hd : decode cc pc = .ok (.invokestatic idx, 3)) (k : ∀ (r : Int) (M' : Mem), post r M' → Gd p l e R s m args below meth c kc ks Q t D al A (pc + 3) ls (.long (jN r) :: rest) M') : Gd p l e R s m args below meth c kc ks Q t D al A pc ls st M := by
  intro H locs la hP hS hv
  have hPre : ∀ U : State, U.heap = H → s.WarmedH U.vm → RepS t D al M U := fun U hU hW => ⟨by show va_P _ _ _ U.heap; rw [hU]; exact hP, va_K.moved hW.alike X.2.2.2.2.2.2.1, ws_fA (X.2.2.2.2.2.2.2.1 M), nw_warm hW X.2.2.2.2.2.1⟩
  have hAf : ∀ q, fA al q → A q := fun q hq => fA_A (X.2.2.2.2.2.2.2.1 M) hq
  have hG : GoodIn tb (va_wsS own idx y (Cond.code y bytes maxL (some .long) :: tb)) := tb_GI (tb_cons V.1 (tb_cons V.2.1 (tb_cons V.2.2.1 (tb_cons V.2.2.2.1 (fun _ h => h)))))
  refine va_calll (va_runS (As := As) (rest := rest) (nL := nL) ⟨X.1, X.2.1, X.2.2.1, X.2.2.2.1, X.2.2.2.2.1⟩ hM (va_cwS n X.2.2.2.2.1 hG rfl rfl rfl V.2.2.2.2 hR) ⟨repS_blind, fun U hU hW => ⟨rfl, hPre U hU hW⟩⟩ rfl hn (by show la.size = nL; rw [hv.1, hlen]) hst (lv_room hcat) hd ⟨by have := X.2.2.2.2.2.2.2.2.1; omega, by have := X.2.2.2.2.2.2.2.2.2; omega⟩) hS (fun q _ h => hAf q h) hAf (fun r0 u tt H1 locs1 ht hvm hw hB hz1 hk1 hS1 => ?_)
  obtain ⟨hP1, -, -, -⟩ := hB
  rw [ht] at hP1
  obtain ⟨r2, M2⟩ := u
  have hr0 := hw.1
  dsimp only at hr0 hP1
  subst hr0
  exact k r2 M2 hw.2 H1 locs1 la hP1 hS1 hv
theorem g_callNJ (X : Cx p s m args c R kc ks cc own nL t D al A) {y : MethodName} {bytes : ByteArray} {maxL fr lo n idx : Nat} {As rest : List Value} {post : Int → Mem → Prop} {host : String} (hM : CJ l y bytes maxL fr lo t D al As M post) (V : NC own host idx y bytes maxL (some .long) n) (hn : As.length = n) (hlen : ls.length = nL) (hR : fr + 1 ≤ R.frames ∧ 8 + (maxL + 11) + lo ≤ R.locals) (hst : st = As.reverse ++ rest) (hcat : (rest.map fun v => v.category).sum ≤ 8) (hd : decode cc pc = .ok (.invokestatic idx, 3)) (k : ∀ (r : Int) (M' : Mem), post r M' → Gd p l e R s m args below meth c kc ks Q t D al A (pc + 3) ls (.long (jN r) :: rest) M') : Gd p l e R s m args below meth c kc ks Q t D al A pc ls st M := by
  intro H locs la hP hS hv
  have hPre : ∀ U : State, U.heap = H → s.WarmedH U.vm → RepS t D al M U := fun U hU hW => ⟨by show va_P _ _ _ U.heap; rw [hU]; exact hP, va_K.moved hW.alike X.2.2.2.2.2.2.1, ws_fA (X.2.2.2.2.2.2.2.1 M), nw_warm hW X.2.2.2.2.2.1⟩
  have hAf : ∀ q, fA al q → A q := fun q hq => fA_A (X.2.2.2.2.2.2.2.1 M) hq
  have hG : GoodIn tb (Cond.code y bytes maxL (some .long) :: tb) := tb_GI (tb_cons V.2.2.2.1 (fun _ h => h))
  refine va_calll (va_runSN (As := As) (rest := rest) (nL := nL) (host := host) ⟨X.1, X.2.1, X.2.2.1, X.2.2.2.1, X.2.2.2.2.1⟩ hM ⟨va_cnB n X.2.2.2.2.1 hG rfl rfl rfl (X.2.2.2.2.2.1 _ V.1) (X.2.2.2.2.1 _ V.2.2.1) V.2.2.2.2 hR, X.2.2.2.2.1 _ V.2.1, trivial⟩ ⟨repS_blind, fun U hU hW => ⟨rfl, hPre U hU hW⟩⟩ rfl hn (by show la.size = nL; rw [hv.1, hlen]) hst (lv_room hcat) hd ⟨by have := X.2.2.2.2.2.2.2.2.1; omega, by have := X.2.2.2.2.2.2.2.2.2; omega⟩) hS (fun q _ h => hAf q h) hAf (fun r0 u tt H1 locs1 ht hvm hw hB hz1 hk1 hS1 => ?_)
  obtain ⟨hP1, -, -, -⟩ := hB
  rw [ht] at hP1
  obtain ⟨r2, M2⟩ := u
  have hr0 := hw.1
  dsimp only at hr0 hP1
  subst hr0
  exact k r2 M2 hw.2 H1 locs1 la hP1 hS1 hv
theorem g_callUJ (X : Cx p s m args c R kc ks cc own nL t D al A) {y : MethodName} {bytes : ByteArray} {maxL fr lo n idx : Nat} {As rest : List Value} {post : Int → Mem → Prop} {x : MethodName} {owner : String} {o : Int} {ci N : Nat} {C : String} {T : u_T} {ty0 : Nat → FieldType} {fts : List Nat} (hM : CJ l y bytes maxL fr lo t D al (.ref (al o) :: As) M post) (hk : kd o = (0, ci, fts)) (F : FC ci C T N ty0) (V : UC own C owner idx x y bytes maxL (some .long) n) (hn : As.length = n) (hlen : ls.length = nL) (hR : fr + 1 ≤ R.frames ∧ 8 + (maxL + 11) + lo ≤ R.locals) (hst : st = As.reverse ++ .ref (al o) :: rest) (hcat : (rest.map fun v => v.category).sum ≤ 8) (hd : decode cc pc = .ok (.invokevirtual idx, 3)) (k : ∀ (r : Int) (M' : Mem), post r M' → Gd p l e R s m args below meth c kc ks Q t D al A (pc + 3) ls (.long (jN r) :: rest) M') : Gd p l e R s m args below meth c kc ks Q t D al A pc ls st M := by
  intro H locs la hP hS hv
  have hPre : ∀ U : State, U.heap = H → s.WarmedH U.vm → RepS t D al M U := fun U hU hW => ⟨by show va_P _ _ _ U.heap; rw [hU]; exact hP, va_K.moved hW.alike X.2.2.2.2.2.2.1, ws_fA (X.2.2.2.2.2.2.2.1 M), nw_warm hW X.2.2.2.2.2.1⟩
  have hAf : ∀ q, fA al q → A q := fun q hq => fA_A (X.2.2.2.2.2.2.2.1 M) hq
  have hG : GoodIn tb (va_wsU own idx C owner x y (Cond.code y bytes maxL (some .long) :: tb)) := tb_GI (tb_cons V.1 (tb_cons V.2.1 (tb_cons V.2.2.1 (tb_cons V.2.2.2.1 (tb_cons V.2.2.2.2.1 (tb_cons V.2.2.2.2.2.1 (fun _ h => h)))))))
  refine va_calll (va_runU (As := As) (rest := rest) (nL := nL) ⟨X.1, X.2.1, X.2.2.1, X.2.2.2.1, X.2.2.2.2.1⟩ hM (va_cwA n X.2.2.2.2.1 hG rfl rfl rfl (X.2.2.2.2.2.1 _ V.2.2.2.2.2.2.1) V.2.2.2.2.2.2.2 hR) ⟨repS_blind, va_recv X.2.2.2.2.2.2.1 hP F.1 (at_kd hk (Nat.le_of_ble_eq_true rfl) (cont_o hk)), fun U hU hW => ⟨rfl, hPre U hU hW⟩⟩ rfl hn (by show la.size = nL; rw [hv.1, hlen]) hst (lv_room hcat) hd ⟨by have := X.2.2.2.2.2.2.2.2.1; omega, by have := X.2.2.2.2.2.2.2.2.2; omega⟩) hS (fun q _ h => hAf q h) hAf (fun r0 u tt H1 locs1 ht hvm hw hB hz1 hk1 hS1 => ?_)
  obtain ⟨hP1, -, -, -⟩ := hB
  rw [ht] at hP1
  obtain ⟨r2, M2⟩ := u
  have hr0 := hw.1
  dsimp only at hr0 hP1
  subst hr0
  exact k r2 M2 hw.2 H1 locs1 la hP1 hS1 hv
theorem g_callVV (X : Cx p s m args c R kc ks cc own nL t D al A) {y : MethodName} {bytes : ByteArray} {maxL fr lo n idx : Nat} {As rest : List Value} {post : Mem → Prop} {o : Int} {ci N : Nat} {C : String} {T : u_T} {ty0 : Nat → FieldType} {fts : List Nat} (hM : CV l y bytes maxL fr lo t D al (.ref (al o) :: As) M post) (hk : kd o = (0, ci, fts)) (F : FC ci C T N ty0) (V : VC own C idx y bytes maxL none n) (hn : As.length = n) (hlen : ls.length = nL) (hR : fr + 1 ≤ R.frames ∧ 8 + (maxL + 11) + lo ≤ R.locals) (hst : st = As.reverse ++ .ref (al o) :: rest) (hcat : (rest.map fun v => v.category).sum ≤ 8) (hd : decode cc pc = .ok (.invokevirtual idx, 3)) (k : ∀ (M' : Mem), post M' → Gd p l e R s m args below meth c kc ks Q t D al A (pc + 3) ls rest M') : Gd p l e R s m args below meth c kc ks Q t D al A pc ls st M := by
  intro H locs la hP hS hv
  have hPre : ∀ U : State, U.heap = H → s.WarmedH U.vm → RepS t D al M U := fun U hU hW => ⟨by show va_P _ _ _ U.heap; rw [hU]; exact hP, va_K.moved hW.alike X.2.2.2.2.2.2.1, ws_fA (X.2.2.2.2.2.2.2.1 M), nw_warm hW X.2.2.2.2.2.1⟩
  have hAf : ∀ q, fA al q → A q := fun q hq => fA_A (X.2.2.2.2.2.2.2.1 M) hq
  have hG : GoodIn tb (wsV own idx C y (Cond.code y bytes maxL none :: tb)) := tb_GI (tb_cons V.1 (tb_cons V.2.1 (tb_cons V.2.2.1 (tb_cons V.2.2.2.1 (tb_cons V.2.2.2.2.1 (fun _ h => h))))))
  refine va_callv (va_runV (As := As) (rest := rest) (nL := nL) ⟨X.1, X.2.1, X.2.2.1, X.2.2.2.1, X.2.2.2.2.1⟩ hM (cwV n X.2.2.2.2.1 hG rfl rfl rfl V.2.2.2.2.2 hR) ⟨repS_blind, va_recv X.2.2.2.2.2.2.1 hP F.1 (at_kd hk (Nat.le_of_ble_eq_true rfl) (cont_o hk)), fun U hU hW => ⟨rfl, hPre U hU hW⟩⟩ rfl hn (by show la.size = nL; rw [hv.1, hlen]) hst (lv_room hcat) hd ⟨by have := X.2.2.2.2.2.2.2.2.1; omega, by have := X.2.2.2.2.2.2.2.2.2; omega⟩) hS (fun q _ h => hAf q h) hAf (fun u tt H1 locs1 ht hvm hw hB hz1 hk1 hS1 => ?_)
  obtain ⟨hP1, -, -, -⟩ := hB
  rw [ht] at hP1
  exact k u hw H1 locs1 la hP1 hS1 hv
theorem g_callSV (X : Cx p s m args c R kc ks cc own nL t D al A) {y : MethodName} {bytes : ByteArray} {maxL fr lo n idx : Nat} {As rest : List Value} {post : Mem → Prop} (hM : CV l y bytes maxL fr lo t D al As M post) (V : SC own idx y bytes maxL none n) (hn : As.length = n) (hlen : ls.length = nL) (hR : fr + 1 ≤ R.frames ∧ 8 + (maxL + 11) + lo ≤ R.locals) (hst : st = As.reverse ++ rest) (hcat : (rest.map fun v => v.category).sum ≤ 8) (hd : decode cc pc = .ok (.invokestatic idx, 3)) (k : ∀ (M' : Mem), post M' → Gd p l e R s m args below meth c kc ks Q t D al A (pc + 3) ls rest M') : Gd p l e R s m args below meth c kc ks Q t D al A pc ls st M := by
  intro H locs la hP hS hv
  have hPre : ∀ U : State, U.heap = H → s.WarmedH U.vm → RepS t D al M U := fun U hU hW => ⟨by show va_P _ _ _ U.heap; rw [hU]; exact hP, va_K.moved hW.alike X.2.2.2.2.2.2.1, ws_fA (X.2.2.2.2.2.2.2.1 M), nw_warm hW X.2.2.2.2.2.1⟩
  have hAf : ∀ q, fA al q → A q := fun q hq => fA_A (X.2.2.2.2.2.2.2.1 M) hq
  have hG : GoodIn tb (va_wsS own idx y (Cond.code y bytes maxL none :: tb)) := tb_GI (tb_cons V.1 (tb_cons V.2.1 (tb_cons V.2.2.1 (tb_cons V.2.2.2.1 (fun _ h => h)))))
  refine va_callv (va_runS (As := As) (rest := rest) (nL := nL) ⟨X.1, X.2.1, X.2.2.1, X.2.2.2.1, X.2.2.2.2.1⟩ hM (va_cwS n X.2.2.2.2.1 hG rfl rfl rfl V.2.2.2.2 hR) ⟨repS_blind, fun U hU hW => ⟨rfl, hPre U hU hW⟩⟩ rfl hn (by show la.size = nL; rw [hv.1, hlen]) hst (lv_room hcat) hd ⟨by have := X.2.2.2.2.2.2.2.2.1; omega, by have := X.2.2.2.2.2.2.2.2.2; omega⟩) hS (fun q _ h => hAf q h) hAf (fun u tt H1 locs1 ht hvm hw hB hz1 hk1 hS1 => ?_)
  obtain ⟨hP1, -, -, -⟩ := hB
  rw [ht] at hP1
  exact k u hw H1 locs1 la hP1 hS1 hv
theorem g_callNV (X : Cx p s m args c R kc ks cc own nL t D al A) {y : MethodName} {bytes : ByteArray} {maxL fr lo n idx : Nat} {As rest : List Value} {post : Mem → Prop} {host : String} (hM : CV l y bytes maxL fr lo t D al As M post) (V : NC own host idx y bytes maxL none n) (hn : As.length = n) (hlen : ls.length = nL) (hR : fr + 1 ≤ R.frames ∧ 8 + (maxL + 11) + lo ≤ R.locals) (hst : st = As.reverse ++ rest) (hcat : (rest.map fun v => v.category).sum ≤ 8) (hd : decode cc pc = .ok (.invokestatic idx, 3)) (k : ∀ (M' : Mem), post M' → Gd p l e R s m args below meth c kc ks Q t D al A (pc + 3) ls rest M') : Gd p l e R s m args below meth c kc ks Q t D al A pc ls st M := by
  intro H locs la hP hS hv
  have hPre : ∀ U : State, U.heap = H → s.WarmedH U.vm → RepS t D al M U := fun U hU hW => ⟨by show va_P _ _ _ U.heap; rw [hU]; exact hP, va_K.moved hW.alike X.2.2.2.2.2.2.1, ws_fA (X.2.2.2.2.2.2.2.1 M), nw_warm hW X.2.2.2.2.2.1⟩
  have hAf : ∀ q, fA al q → A q := fun q hq => fA_A (X.2.2.2.2.2.2.2.1 M) hq
  have hG : GoodIn tb (Cond.code y bytes maxL none :: tb) := tb_GI (tb_cons V.2.2.2.1 (fun _ h => h))
  refine va_callv (va_runSN (As := As) (rest := rest) (nL := nL) (host := host) ⟨X.1, X.2.1, X.2.2.1, X.2.2.2.1, X.2.2.2.2.1⟩ hM ⟨va_cnB n X.2.2.2.2.1 hG rfl rfl rfl (X.2.2.2.2.2.1 _ V.1) (X.2.2.2.2.1 _ V.2.2.1) V.2.2.2.2 hR, X.2.2.2.2.1 _ V.2.1, trivial⟩ ⟨repS_blind, fun U hU hW => ⟨rfl, hPre U hU hW⟩⟩ rfl hn (by show la.size = nL; rw [hv.1, hlen]) hst (lv_room hcat) hd ⟨by have := X.2.2.2.2.2.2.2.2.1; omega, by have := X.2.2.2.2.2.2.2.2.2; omega⟩) hS (fun q _ h => hAf q h) hAf (fun u tt H1 locs1 ht hvm hw hB hz1 hk1 hS1 => ?_)
  obtain ⟨hP1, -, -, -⟩ := hB
  rw [ht] at hP1
  exact k u hw H1 locs1 la hP1 hS1 hv
theorem g_callUV (X : Cx p s m args c R kc ks cc own nL t D al A) {y : MethodName} {bytes : ByteArray} {maxL fr lo n idx : Nat} {As rest : List Value} {post : Mem → Prop} {x : MethodName} {owner : String} {o : Int} {ci N : Nat} {C : String} {T : u_T} {ty0 : Nat → FieldType} {fts : List Nat} (hM : CV l y bytes maxL fr lo t D al (.ref (al o) :: As) M post) (hk : kd o = (0, ci, fts)) (F : FC ci C T N ty0) (V : UC own C owner idx x y bytes maxL none n) (hn : As.length = n) (hlen : ls.length = nL) (hR : fr + 1 ≤ R.frames ∧ 8 + (maxL + 11) + lo ≤ R.locals) (hst : st = As.reverse ++ .ref (al o) :: rest) (hcat : (rest.map fun v => v.category).sum ≤ 8) (hd : decode cc pc = .ok (.invokevirtual idx, 3)) (k : ∀ (M' : Mem), post M' → Gd p l e R s m args below meth c kc ks Q t D al A (pc + 3) ls rest M') : Gd p l e R s m args below meth c kc ks Q t D al A pc ls st M := by
  intro H locs la hP hS hv
  have hPre : ∀ U : State, U.heap = H → s.WarmedH U.vm → RepS t D al M U := fun U hU hW => ⟨by show va_P _ _ _ U.heap; rw [hU]; exact hP, va_K.moved hW.alike X.2.2.2.2.2.2.1, ws_fA (X.2.2.2.2.2.2.2.1 M), nw_warm hW X.2.2.2.2.2.1⟩
  have hAf : ∀ q, fA al q → A q := fun q hq => fA_A (X.2.2.2.2.2.2.2.1 M) hq
  have hG : GoodIn tb (va_wsU own idx C owner x y (Cond.code y bytes maxL none :: tb)) := tb_GI (tb_cons V.1 (tb_cons V.2.1 (tb_cons V.2.2.1 (tb_cons V.2.2.2.1 (tb_cons V.2.2.2.2.1 (tb_cons V.2.2.2.2.2.1 (fun _ h => h)))))))
  refine va_callv (va_runU (As := As) (rest := rest) (nL := nL) ⟨X.1, X.2.1, X.2.2.1, X.2.2.2.1, X.2.2.2.2.1⟩ hM (va_cwA n X.2.2.2.2.1 hG rfl rfl rfl (X.2.2.2.2.2.1 _ V.2.2.2.2.2.2.1) V.2.2.2.2.2.2.2 hR) ⟨repS_blind, va_recv X.2.2.2.2.2.2.1 hP F.1 (at_kd hk (Nat.le_of_ble_eq_true rfl) (cont_o hk)), fun U hU hW => ⟨rfl, hPre U hU hW⟩⟩ rfl hn (by show la.size = nL; rw [hv.1, hlen]) hst (lv_room hcat) hd ⟨by have := X.2.2.2.2.2.2.2.2.1; omega, by have := X.2.2.2.2.2.2.2.2.2; omega⟩) hS (fun q _ h => hAf q h) hAf (fun u tt H1 locs1 ht hvm hw hB hz1 hk1 hS1 => ?_)
  obtain ⟨hP1, -, -, -⟩ := hB
  rw [ht] at hP1
  exact k u hw H1 locs1 la hP1 hS1 hv
theorem g_mmax (X : Cx p s m args c R kc ks cc own nL t D al A) {a b : Int} {idx : Nat} (h1 : Cond.methodLink own idx Lib.Math.max.name ∈ tb) (h2 : Cond.static Lib.Math.max.name ∈ tb) (h3 : Cond.initialized "java/lang/Math" ∈ tb) (h4 : Cond.code Lib.Math.max.name Lib.Math.max.code 2 (some .int) ∈ tb) (ha : i32 a) (hb : i32 b) (hlen : ls.length = nL) (hR : 1 ≤ R.frames ∧ 21 ≤ R.locals) (hcat : (st.map fun v => v.category).sum ≤ 8) (hd : decode cc pc = .ok (.invokestatic idx, 3)) (k : Gd p l e R s m args below meth c kc ks Q t D al A (pc + 3) ls (.int (iN (max a b)) :: st) M) : Gd p l e R s m args below meth c kc ks Q t D al A pc ls (.int (iN b) :: .int (iN a) :: st) M := fun H locs la hP hS hv => by
  refine va_mmax X.1 X.2.1 (by rw [X.2.2.1, hv.1, hlen]) X.2.2.2.1 (X.2.2.2.2.1 _ h1) (X.2.2.2.2.1 _ h2) (X.2.2.2.2.1 _ h3) (X.2.2.2.2.1 _ h4) hR.1 (by omega) X.2.2.2.2.2.2.2.2.1 X.2.2.2.2.2.2.2.2.2 hd ?_
  have e : (if iN a < iN b then iN b else iN a) = iN (max a b) := by
    by_cases h : a < b
    · rw [if_pos ((iN_lt ha hb).mpr h)]
      congr 1; omega
    · rw [if_neg (fun q => h ((iN_lt ha hb).mp q))]
      congr 1; omega
  rw [e]
  exact k H locs la hP hS hv
theorem g_mmin (X : Cx p s m args c R kc ks cc own nL t D al A) {a b : Int} {idx : Nat} (h1 : Cond.methodLink own idx Lib.Math.min.name ∈ tb) (h2 : Cond.static Lib.Math.min.name ∈ tb) (h3 : Cond.initialized "java/lang/Math" ∈ tb) (h4 : Cond.code Lib.Math.min.name Lib.Math.min.code 2 (some .int) ∈ tb) (ha : i32 a) (hb : i32 b) (hlen : ls.length = nL) (hR : 1 ≤ R.frames ∧ 21 ≤ R.locals) (hcat : (st.map fun v => v.category).sum ≤ 8) (hd : decode cc pc = .ok (.invokestatic idx, 3)) (k : Gd p l e R s m args below meth c kc ks Q t D al A (pc + 3) ls (.int (iN (min a b)) :: st) M) : Gd p l e R s m args below meth c kc ks Q t D al A pc ls (.int (iN b) :: .int (iN a) :: st) M := fun H locs la hP hS hv => by
  refine va_mmin X.1 X.2.1 (by rw [X.2.2.1, hv.1, hlen]) X.2.2.2.1 (X.2.2.2.2.1 _ h1) (X.2.2.2.2.1 _ h2) (X.2.2.2.2.1 _ h3) (X.2.2.2.2.1 _ h4) hR.1 (by omega) X.2.2.2.2.2.2.2.2.1 X.2.2.2.2.2.2.2.2.2 hd ?_
  have e : (if iN b < iN a then iN b else iN a) = iN (min a b) := by
    by_cases h : b < a
    · rw [if_pos ((iN_lt hb ha).mpr h)]
      congr 1; omega
    · rw [if_neg (fun q => h ((iN_lt hb ha).mp q))]
      congr 1; omega
  rw [e]
  exact k H locs la hP hS hv
theorem g_mabsl (X : Cx p s m args c R kc ks cc own nL t D al A) {a : Int} {idx : Nat} (h1 : Cond.methodLink own idx Lib.MathLoose.abs_long.x ∈ tb) (h2 : Cond.static Lib.MathLoose.abs_long.x ∈ tb) (h3 : Cond.initialized "java/lang/Math" ∈ tb) (h4 : Cond.code Lib.MathLoose.abs_long.x Lib.MathLoose.abs_long.code 2 (some .long) ∈ tb) (ha : i64 a) (hlen : ls.length = nL) (hR : 1 ≤ R.frames ∧ 21 ≤ R.locals) (hcat : (st.map fun v => v.category).sum ≤ 8) (hd : decode cc pc = .ok (.invokestatic idx, 3)) (k : Gd p l e R s m args below meth c kc ks Q t D al A (pc + 3) ls (.long (jN (if 0 < a then a else -a)) :: st) M) : Gd p l e R s m args below meth c kc ks Q t D al A pc ls (.long (jN a) :: st) M := fun H locs la hP hS hv => by
  refine va_mabs_long X.1 X.2.1 (by rw [X.2.2.1, hv.1, hlen]) X.2.2.2.1 (X.2.2.2.2.1 _ h1) (X.2.2.2.2.1 _ h2) (X.2.2.2.2.1 _ h3) (X.2.2.2.2.1 _ h4) hR.1 (by omega) X.2.2.2.2.2.2.2.2.1 X.2.2.2.2.2.2.2.2.2 hd ?_
  have e : (if 0 < jN a then jN a else -jN a) = jN (if 0 < a then a else -a) := by
    have hz : i64 0 := by decide
    have q := jN_lt hz ha
    rw [jN_0] at q
    by_cases h : 0 < a
    · rw [if_pos (q.mpr h), if_pos h]
    · rw [if_neg (fun z => h (q.mp z)), if_neg h]
      exact (Int64.ofInt_neg a).symm
  rw [e]
  exact k H locs la hP hS hv
theorem g_copy (X : Cx p s m args c R kc ks cc own nL t D al A) {o0 o1 sp dp n : Int} {n0 n1 idx : Nat} (h1 : Cond.methodLink own idx arraycopyName ∈ tb) (h2 : Cond.native arraycopyName ∈ tb) (h3 : Cond.static arraycopyName ∈ tb) (h4 : Cond.initialized "java/lang/System" ∈ tb) (hk0 : kd o0 = (1, n0, [])) (hk1 : kd o1 = (1, n1, [])) (hsp : 0 ≤ sp) (hdp : 0 ≤ dp) (hnn : 0 ≤ n) (hs : sp + n ≤ (n0 : Int)) (hdn : dp + n ≤ (n1 : Int)) (hlen : ls.length = nL) (hR : 1 ≤ R.frames ∧ 40 ≤ R.locals) (hcat : (st.map fun v => v.category).sum ≤ 8) (hd : decode cc pc = .ok (.invokestatic idx, 3)) (k : Gd p l e R s m args below meth c kc ks Q t D al A (pc + 3) ls st (cpy M o0 sp o1 dp n)) : Gd p l e R s m args below meth c kc ks Q t D al A pc ls (.int (iN n) :: .int (iN dp) :: .ref (al o1) :: .int (iN sp) :: .ref (al o0) :: st) M := fun H locs la hP hS hv => by
  have hn0 := kd_small hk0
  have hn1 := kd_small hk1
  dsimp only at hn0 hn1
  have hz : i32 0 := by decide
  have neg : ∀ z : Int, 0 ≤ z → z < 2147483648 → ¬ iN z < 0 := fun z h h' q => by
    have := (iN_lt (a := z) (b := 0) (by constructor <;> omega) hz).mp q
    omega
  have c1 := iN_clamp (a := sp) ⟨hsp, by omega⟩
  have c2 := iN_clamp (a := dp) ⟨hdp, by omega⟩
  have c3 := iN_clamp (a := n) ⟨hnn, by omega⟩
  refine va_copyi X.1 X.2.1 (by rw [X.2.2.1, hv.1, hlen]) X.2.2.2.1 (X.2.2.2.2.1 _ h1) (X.2.2.2.2.1 _ h2) (X.2.2.2.2.1 _ h3) (X.2.2.2.2.1 _ h4) X.2.2.2.2.2.2.1 hP (X.2.2.2.2.2.2.2.1 M) hS o0.toNat o1.toNat 0 0 (at_kd hk0 (Nat.le_of_ble_eq_true rfl) (cont_i hk0)) (at_kd hk1 (Nat.le_of_ble_eq_true rfl) (cont_i hk1)) rfl rfl rfl (neg sp hsp (by omega)) (neg dp hdp (by omega)) (neg n hnn (by omega)) (by rw [c1, c3]; omega) (by rw [c2, c3]; omega) (fun i _ => rfl) hR.1 ?_ hd (fun H1 locs1 hP1 hD1 hS1 => ?_)
  · have : nativeFrameWords "java/lang/System" "arraycopy" 5 ≤ 21 := by decide +kernel
    omega
  · rw [c1, c2, c3] at hP1
    have hc : cont t al (cpy M o0 sp o1 dp n) o1 = .inl (t.1, n1, .inl (va_cpy (fun j : Nat => iN (M o0 j)) (fun j : Nat => iN (M o1 j)) sp.toNat dp.toNat n.toNat)) := by
      rw [cont_i hk1]
      congr 4
      funext j
      by_cases h : dp.toNat ≤ j ∧ j < dp.toNat + n.toNat
      · have e : dp ≤ (j : Int) ∧ (j : Int) < dp + n := by omega
        have e2 : sp + ((j : Int) - dp) = ((sp.toNat + (j - dp.toNat) : Nat) : Int) := by omega
        simp only [va_cpy, if_pos h, cpy, e, and_self, if_true, e2]
      · have e : ¬ (dp ≤ (j : Int) ∧ (j : Int) < dp + n) := by omega
        simp only [va_cpy, if_neg h, cpy, true_and, if_neg e]
    rw [ws_cpy t al M (kd_in hk1 (Nat.le_of_ble_eq_true rfl)).1 hc] at hP1
    exact k H1 locs1 la hP1 hS1 hv
end GD2
theorem CI.of {l : Launch} {y : MethodName} {cc : ByteArray} {nL fr lo : Nat} {rt : FieldType} {t : TT} {D : va_G} {al : Int → Nat} {av : List Value} {M : Mem} {post : Int → Mem → Prop} {own : String} {ls0 : List (Option Value)} (hy : plainName y.cls = true) (ho : y.cls = own) (hlen : (lg_sl av).length ≤ nL) (hent : entry av nL = ls0)
    (body : ∀ (p : Program) (e : Env) (s : State) (m : MethodId) (args : Array Value) (below : List Frame) (meth : Method) (c : Code), Cx p s m args c (rmN fr lo) 0 0 cc own nL t D al (fA al) → meth.sig.returnType = some rt → meth.locks = false → Gd p l e (rmN fr lo) s m args below meth c 0 0 (MQ below (QI t D al post) args s 0 0 (fA al)) t D al (fA al) 0 ls0 [] M) : CI l y cc nL rt fr lo t D al av M post := by
  refine Met.ofW (cc := cc) (maxL := nL) (ret := some rt) hy rfl ?_
  intro p e s m args below meth c s₁ B hml hv
  obtain ⟨rfl, hP, hK, hD, hN⟩ := hv
  have hts : ∀ w ∈ tb, w.before av.toArray s = true := fun w hw => atoms_spec B.pre w (List.mem_cons_of_mem _ hw)
  have hown : s.vm.findClass own = some m.cls := ho ▸ findClass_of_methodNamed B.named
  have h := body p e s m av.toArray below meth c ⟨B.exec, B.bytes, hml, hown, hts, hN, hK, fun M' => ws_D hD M', Nat.zero_le _, Nat.zero_le _⟩ B.returns B.notSynchronized
  rw [lg_entry_eq]
  exact h s.heap [] _ hP va_S.rf (hent ▸ entry_lvp av hlen)
theorem CJ.of {l : Launch} {y : MethodName} {cc : ByteArray} {nL fr lo : Nat} {t : TT} {D : va_G} {al : Int → Nat} {av : List Value} {M : Mem} {post : Int → Mem → Prop} {own : String} {ls0 : List (Option Value)} (hy : plainName y.cls = true) (ho : y.cls = own) (hlen : (lg_sl av).length ≤ nL) (hent : entry av nL = ls0)
    (body : ∀ (p : Program) (e : Env) (s : State) (m : MethodId) (args : Array Value) (below : List Frame) (meth : Method) (c : Code), Cx p s m args c (rmN fr lo) 0 0 cc own nL t D al (fA al) → meth.sig.returnType = some .long → meth.locks = false → Gd p l e (rmN fr lo) s m args below meth c 0 0 (MQ below (QJ t D al post) args s 0 0 (fA al)) t D al (fA al) 0 ls0 [] M) : CJ l y cc nL fr lo t D al av M post := by
  refine Met.ofW (cc := cc) (maxL := nL) (ret := some .long) hy rfl ?_
  intro p e s m args below meth c s₁ B hml hv
  obtain ⟨rfl, hP, hK, hD, hN⟩ := hv
  have hts : ∀ w ∈ tb, w.before av.toArray s = true := fun w hw => atoms_spec B.pre w (List.mem_cons_of_mem _ hw)
  have hown : s.vm.findClass own = some m.cls := ho ▸ findClass_of_methodNamed B.named
  have h := body p e s m av.toArray below meth c ⟨B.exec, B.bytes, hml, hown, hts, hN, hK, fun M' => ws_D hD M', Nat.zero_le _, Nat.zero_le _⟩ B.returns B.notSynchronized
  rw [lg_entry_eq]
  exact h s.heap [] _ hP va_S.rf (hent ▸ entry_lvp av hlen)
theorem CV.of {l : Launch} {y : MethodName} {cc : ByteArray} {nL fr lo : Nat} {t : TT} {D : va_G} {al : Int → Nat} {av : List Value} {M : Mem} {post : Mem → Prop} {own : String} {ls0 : List (Option Value)} (hy : plainName y.cls = true) (ho : y.cls = own) (hlen : (lg_sl av).length ≤ nL) (hent : entry av nL = ls0)
    (body : ∀ (p : Program) (e : Env) (s : State) (m : MethodId) (args : Array Value) (below : List Frame) (meth : Method) (c : Code), Cx p s m args c (rmN fr lo) 0 0 cc own nL t D al (fA al) → meth.sig.returnType = none → meth.locks = false → Gd p l e (rmN fr lo) s m args below meth c 0 0 (MQ below (QV t D al post) args s 0 0 (fA al)) t D al (fA al) 0 ls0 [] M) : CV l y cc nL fr lo t D al av M post := by
  refine Met.ofW (cc := cc) (maxL := nL) (ret := none) hy rfl ?_
  intro p e s m args below meth c s₁ B hml hv
  obtain ⟨rfl, hP, hK, hD, hN⟩ := hv
  have hts : ∀ w ∈ tb, w.before av.toArray s = true := fun w hw => atoms_spec B.pre w (List.mem_cons_of_mem _ hw)
  have hown : s.vm.findClass own = some m.cls := ho ▸ findClass_of_methodNamed B.named
  have h := body p e s m av.toArray below meth c ⟨B.exec, B.bytes, hml, hown, hts, hN, hK, fun M' => ws_D hD M', Nat.zero_le _, Nat.zero_le _⟩ B.returns B.notSynchronized
  rw [lg_entry_eq]
  exact h s.heap [] _ hP va_S.rf (hent ▸ entry_lvp av hlen)
theorem fc0 : FC 0 "RedSkies$Dealing" TX0 9 tyX0 := ⟨rfl, inRX0, tyX0_ok, nmX0⟩
theorem fc1 : FC 1 "RedSkies$LampReader" TX1 6 tyX1 := ⟨rfl, inRX1, tyX1_ok, nmX1⟩
theorem fc2 : FC 2 "RedSkies$Law" TX2 3 tyX2 := ⟨rfl, inRX2, tyX2_ok, nmX2⟩
theorem fc3 : FC 3 "RedSkies$LawReader" TX3 5 tyX3 := ⟨rfl, inRX3, tyX3_ok, nmX3⟩
theorem fc4 : FC 4 "RedSkies$MeasureReader" TX4 6 tyX4 := ⟨rfl, inRX4, tyX4_ok, nmX4⟩
theorem fc5 : FC 5 "RedSkies$Page" TX5 2 tyX5 := ⟨rfl, inRX5, tyX5_ok, nmX5⟩
theorem fc6 : FC 6 "RedSkies$Painter" TX6 1 tyX6 := ⟨rfl, inRX6, tyX6_ok, nmX6⟩
theorem fc7 : FC 7 "RedSkies$Show" TX8 8 tyX8 := ⟨rfl, inRX8, tyX8_ok, nmX8⟩
theorem fc8 : FC 8 "RedSkies" TX9 18 tyX9 := ⟨rfl, inRX9, tyX9_ok, nmX9⟩
theorem fc9 : FC 9 "RedSkiesModel" TX10 55 tyX10 := ⟨rfl, inRX10, tyX10_ok, nmX10⟩
theorem kd_0 : kd 0 = (0, 8, [4, 6, 9, 11, 13, 18, 19, 20, 25, 27, 65, 103, 116, 0, 0, 0, 0, 2]) := by decide +kernel
theorem kd_1 : kd 1 = (0, 5, [5, 0]) := by decide +kernel
theorem kd_2 : kd 2 = (1, 40, []) := by decide +kernel
theorem kd_3 : kd 3 = (0, 1, [7, 8, 0, 0, 0, 0]) := by decide +kernel
theorem kd_4 : kd 4 = (1, 3, []) := by decide +kernel
theorem kd_5 : kd 5 = (2, 3, []) := by decide +kernel
theorem kd_6 : kd 6 = (0, 4, [10, 0, 0, 0, 0, 0]) := by decide +kernel
theorem kd_7 : kd 7 = (1, 24, []) := by decide +kernel
theorem kd_8 : kd 8 = (0, 3, [12, 0, 0, 0, 2]) := by decide +kernel
theorem kd_9 : kd 9 = (1, 5, []) := by decide +kernel
theorem kd_10 : kd 10 = (4, 4, [11]) := by decide +kernel
theorem kr_11 {i : Int} (h0 : 0 ≤ i) (h1 : i < 4) : kd (11 + i) = (1, 3, []) := kd_nat (b := 11) (n := 4) (by decide +kernel) h0 h1
theorem kd_11 : kd 11 = (1, 3, []) := by decide +kernel
theorem kd_12 : kd 12 = (1, 3, []) := by decide +kernel
theorem kd_13 : kd 13 = (1, 3, []) := by decide +kernel
theorem kd_14 : kd 14 = (1, 3, []) := by decide +kernel
theorem kd_15 : kd 15 = (1, 4, []) := by decide +kernel
theorem kd_16 : kd 16 = (1, 4, []) := by decide +kernel
theorem kd_17 : kd 17 = (4, 4, [18]) := by decide +kernel
theorem kr_18 {i : Int} (h0 : 0 ≤ i) (h1 : i < 4) : kd (18 + i) = (1, 24, []) := kd_nat (b := 18) (n := 4) (by decide +kernel) h0 h1
theorem kd_18 : kd 18 = (1, 24, []) := by decide +kernel
theorem kd_19 : kd 19 = (1, 24, []) := by decide +kernel
theorem kd_20 : kd 20 = (1, 24, []) := by decide +kernel
theorem kd_21 : kd 21 = (1, 24, []) := by decide +kernel
theorem kd_22 : kd 22 = (0, 2, [26, 0, 0]) := by decide +kernel
theorem kd_23 : kd 23 = (1, 5, []) := by decide +kernel
theorem kd_24 : kd 24 = (0, 7, [28, 45, 62, 63, 64, 0, 0, 0]) := by decide +kernel
theorem kd_25 : kd 25 = (4, 16, [26]) := by decide +kernel
theorem kr_26 {i : Int} (h0 : 0 ≤ i) (h1 : i < 16) : kd (26 + i) = (1, 6, []) := kd_nat (b := 26) (n := 16) (by decide +kernel) h0 h1
theorem kd_26 : kd 26 = (1, 6, []) := by decide +kernel
theorem kd_27 : kd 27 = (1, 6, []) := by decide +kernel
theorem kd_28 : kd 28 = (1, 6, []) := by decide +kernel
theorem kd_29 : kd 29 = (1, 6, []) := by decide +kernel
theorem kd_30 : kd 30 = (1, 6, []) := by decide +kernel
theorem kd_31 : kd 31 = (1, 6, []) := by decide +kernel
theorem kd_32 : kd 32 = (1, 6, []) := by decide +kernel
theorem kd_33 : kd 33 = (1, 6, []) := by decide +kernel
theorem kd_34 : kd 34 = (1, 6, []) := by decide +kernel
theorem kd_35 : kd 35 = (1, 6, []) := by decide +kernel
theorem kd_36 : kd 36 = (1, 6, []) := by decide +kernel
theorem kd_37 : kd 37 = (1, 6, []) := by decide +kernel
theorem kd_38 : kd 38 = (1, 6, []) := by decide +kernel
theorem kd_39 : kd 39 = (1, 6, []) := by decide +kernel
theorem kd_40 : kd 40 = (1, 6, []) := by decide +kernel
theorem kd_41 : kd 41 = (1, 6, []) := by decide +kernel
theorem kd_42 : kd 42 = (4, 16, [43]) := by decide +kernel
theorem kr_43 {i : Int} (h0 : 0 ≤ i) (h1 : i < 16) : kd (43 + i) = (1, 12, []) := kd_nat (b := 43) (n := 16) (by decide +kernel) h0 h1
theorem kd_43 : kd 43 = (1, 12, []) := by decide +kernel
theorem kd_44 : kd 44 = (1, 12, []) := by decide +kernel
theorem kd_45 : kd 45 = (1, 12, []) := by decide +kernel
theorem kd_46 : kd 46 = (1, 12, []) := by decide +kernel
theorem kd_47 : kd 47 = (1, 12, []) := by decide +kernel
theorem kd_48 : kd 48 = (1, 12, []) := by decide +kernel
theorem kd_49 : kd 49 = (1, 12, []) := by decide +kernel
theorem kd_50 : kd 50 = (1, 12, []) := by decide +kernel
theorem kd_51 : kd 51 = (1, 12, []) := by decide +kernel
theorem kd_52 : kd 52 = (1, 12, []) := by decide +kernel
theorem kd_53 : kd 53 = (1, 12, []) := by decide +kernel
theorem kd_54 : kd 54 = (1, 12, []) := by decide +kernel
theorem kd_55 : kd 55 = (1, 12, []) := by decide +kernel
theorem kd_56 : kd 56 = (1, 12, []) := by decide +kernel
theorem kd_57 : kd 57 = (1, 12, []) := by decide +kernel
theorem kd_58 : kd 58 = (1, 12, []) := by decide +kernel
theorem kd_59 : kd 59 = (1, 6, []) := by decide +kernel
theorem kd_60 : kd 60 = (1, 401, []) := by decide +kernel
theorem kd_61 : kd 61 = (1, 401, []) := by decide +kernel
theorem kd_62 : kd 62 = (0, 7, [66, 83, 100, 101, 102, 0, 0, 0]) := by decide +kernel
theorem kd_63 : kd 63 = (4, 16, [64]) := by decide +kernel
theorem kr_64 {i : Int} (h0 : 0 ≤ i) (h1 : i < 16) : kd (64 + i) = (1, 6, []) := kd_nat (b := 64) (n := 16) (by decide +kernel) h0 h1
theorem kd_64 : kd 64 = (1, 6, []) := by decide +kernel
theorem kd_65 : kd 65 = (1, 6, []) := by decide +kernel
theorem kd_66 : kd 66 = (1, 6, []) := by decide +kernel
theorem kd_67 : kd 67 = (1, 6, []) := by decide +kernel
theorem kd_68 : kd 68 = (1, 6, []) := by decide +kernel
theorem kd_69 : kd 69 = (1, 6, []) := by decide +kernel
theorem kd_70 : kd 70 = (1, 6, []) := by decide +kernel
theorem kd_71 : kd 71 = (1, 6, []) := by decide +kernel
theorem kd_72 : kd 72 = (1, 6, []) := by decide +kernel
theorem kd_73 : kd 73 = (1, 6, []) := by decide +kernel
theorem kd_74 : kd 74 = (1, 6, []) := by decide +kernel
theorem kd_75 : kd 75 = (1, 6, []) := by decide +kernel
theorem kd_76 : kd 76 = (1, 6, []) := by decide +kernel
theorem kd_77 : kd 77 = (1, 6, []) := by decide +kernel
theorem kd_78 : kd 78 = (1, 6, []) := by decide +kernel
theorem kd_79 : kd 79 = (1, 6, []) := by decide +kernel
theorem kd_80 : kd 80 = (4, 16, [81]) := by decide +kernel
theorem kr_81 {i : Int} (h0 : 0 ≤ i) (h1 : i < 16) : kd (81 + i) = (1, 12, []) := kd_nat (b := 81) (n := 16) (by decide +kernel) h0 h1
theorem kd_81 : kd 81 = (1, 12, []) := by decide +kernel
theorem kd_82 : kd 82 = (1, 12, []) := by decide +kernel
theorem kd_83 : kd 83 = (1, 12, []) := by decide +kernel
theorem kd_84 : kd 84 = (1, 12, []) := by decide +kernel
theorem kd_85 : kd 85 = (1, 12, []) := by decide +kernel
theorem kd_86 : kd 86 = (1, 12, []) := by decide +kernel
theorem kd_87 : kd 87 = (1, 12, []) := by decide +kernel
theorem kd_88 : kd 88 = (1, 12, []) := by decide +kernel
theorem kd_89 : kd 89 = (1, 12, []) := by decide +kernel
theorem kd_90 : kd 90 = (1, 12, []) := by decide +kernel
theorem kd_91 : kd 91 = (1, 12, []) := by decide +kernel
theorem kd_92 : kd 92 = (1, 12, []) := by decide +kernel
theorem kd_93 : kd 93 = (1, 12, []) := by decide +kernel
theorem kd_94 : kd 94 = (1, 12, []) := by decide +kernel
theorem kd_95 : kd 95 = (1, 12, []) := by decide +kernel
theorem kd_96 : kd 96 = (1, 12, []) := by decide +kernel
theorem kd_97 : kd 97 = (1, 6, []) := by decide +kernel
theorem kd_98 : kd 98 = (1, 401, []) := by decide +kernel
theorem kd_99 : kd 99 = (1, 401, []) := by decide +kernel
theorem kd_100 : kd 100 = (0, 0, [104, 105, 0, 1, 1, 1, 1, 106, 0]) := by decide +kernel
theorem kd_101 : kd 101 = (1, 16, []) := by decide +kernel
theorem kd_102 : kd 102 = (1, 16, []) := by decide +kernel
theorem kd_103 : kd 103 = (4, 9, [104]) := by decide +kernel
theorem kr_104 {i : Int} (h0 : 0 ≤ i) (h1 : i < 9) : kd (104 + i) = (1, 129, []) := kd_nat (b := 104) (n := 9) (by decide +kernel) h0 h1
theorem kd_104 : kd 104 = (1, 129, []) := by decide +kernel
theorem kd_105 : kd 105 = (1, 129, []) := by decide +kernel
theorem kd_106 : kd 106 = (1, 129, []) := by decide +kernel
theorem kd_107 : kd 107 = (1, 129, []) := by decide +kernel
theorem kd_108 : kd 108 = (1, 129, []) := by decide +kernel
theorem kd_109 : kd 109 = (1, 129, []) := by decide +kernel
theorem kd_110 : kd 110 = (1, 129, []) := by decide +kernel
theorem kd_111 : kd 111 = (1, 129, []) := by decide +kernel
theorem kd_112 : kd 112 = (1, 129, []) := by decide +kernel
theorem kd_113 : kd 113 = (0, 6, [1]) := by decide +kernel
theorem kd_114 : kd 114 = (0, 9, [118, 0, 0, 0, 0, 0, 0, 0, 0, 119, 0, 120, 121, 0, 122, 0, 123, 0, 124, 0, 0, 125, 126, 0, 127, 128, 0, 129, 0, 0, 130, 131, 132, 133, 134, 135, 136, 1, 1, 0, 0, 137, 138, 0, 0, 0, 0, 0, 0, 139, 140, 141, 142, 143, 1]) := by decide +kernel
theorem kd_115 : kd 115 = (1, 40, []) := by decide +kernel
theorem kd_116 : kd 116 = (1, 3, []) := by decide +kernel
theorem kd_117 : kd 117 = (1, 24, []) := by decide +kernel
theorem kd_118 : kd 118 = (1, 5, []) := by decide +kernel
theorem kd_119 : kd 119 = (1, 12, []) := by decide +kernel
theorem kd_120 : kd 120 = (1, 96, []) := by decide +kernel
theorem kd_121 : kd 121 = (1, 5, []) := by decide +kernel
theorem kd_122 : kd 122 = (1, 4, []) := by decide +kernel
theorem kd_123 : kd 123 = (1, 4, []) := by decide +kernel
theorem kd_124 : kd 124 = (1, 96, []) := by decide +kernel
theorem kd_125 : kd 125 = (1, 192, []) := by decide +kernel
theorem kd_126 : kd 126 = (1, 6, []) := by decide +kernel
theorem kd_127 : kd 127 = (1, 16, []) := by decide +kernel
theorem kd_128 : kd 128 = (1, 16, []) := by decide +kernel
theorem kd_129 : kd 129 = (2, 16, []) := by decide +kernel
theorem kd_130 : kd 130 = (1, 16, []) := by decide +kernel
theorem kd_131 : kd 131 = (3, 8721, []) := by decide +kernel
theorem kd_132 : kd 132 = (3, 513, []) := by decide +kernel
theorem kd_133 : kd 133 = (3, 513, []) := by decide +kernel
theorem kd_134 : kd 134 = (1, 401, []) := by decide +kernel
theorem kd_135 : kd 135 = (1, 401, []) := by decide +kernel
theorem kd_136 : kd 136 = (1, 96, []) := by decide +kernel
theorem kd_137 : kd 137 = (1, 192, []) := by decide +kernel
theorem kd_138 : kd 138 = (1, 6, []) := by decide +kernel
theorem kd_139 : kd 139 = (1, 401, []) := by decide +kernel
theorem kd_140 : kd 140 = (1, 401, []) := by decide +kernel
