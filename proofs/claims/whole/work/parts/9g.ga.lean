/-! The constructors' rows: arrays and fields of a growing world. -/
theorem valsS_row {al : Int → Nat} {M M' : Mem} {S : Sts} {o : Int} (h : M' o = M o) : ∀ (r : List Nat) (b : Nat), valsS al M' S o b r = valsS al M S o b r
  | [], _ => rfl
  | f :: r, b => by
    rw [valsS, valsS, valsS_row h r (b + 1)]
    unfold fvS fv
    rw [h]
theorem contS_row {t : TT} {al : Int → Nat} {M M' : Mem} {S : Sts} {o : Int} (h : M' o = M o) : contS t al M' S o = contS t al M S o := by
  unfold contS
  by_cases c : (kd o).1 = 0
  · rw [if_pos c, if_pos c, valsS_row h]
  · rw [if_neg c, if_neg c]
    unfold cont contK
    rw [if_neg c, if_neg c, h]
theorem wsG_i {n : Nat} {t : TT} {al : Int → Nat} {M : Mem} {S : Sts} {o N : Nat} (ho : o < n) (hk : kd (o : Int) = (1, N, [])) : (wsG n t al M S)[o]? = some (al (o : Int), .inl (t.1, N, .inl (fun j => iN (M (o : Int) (j : Int))))) := by
  rw [wsG_at t al M S ho]
  unfold contS cont
  rw [hk]
  rfl
theorem wsG_seti {n : Nat} {t : TT} {al : Int → Nat} {M M' : Mem} {S : Sts} {o N : Nat} (ho : o < n) (hk : kd (o : Int) = (1, N, [])) (h : ∀ o' : Int, o' ≠ o → M' o' = M o') : (wsG n t al M S).set o (al (o : Int), .inl (t.1, N, .inl (fun j => iN (M' (o : Int) (j : Int))))) = wsG n t al M' S := by
  apply List.ext_getElem?
  intro j
  by_cases hj : j < n
  · by_cases e : o = j
    · subst e
      rw [List.getElem?_set_self (by rw [wsG_len]; exact hj), wsG_i hj hk]
    · rw [List.getElem?_set_ne e, wsG_at t al M _ hj, wsG_at t al M' _ hj, contS_row (h (j : Int) (by omega))]
  · rw [List.getElem?_eq_none (by rw [List.length_set, wsG_len]; omega), List.getElem?_eq_none (by rw [wsG_len]; omega)]
section
variable {p : Program} {l : Launch} {e : Env} {R : Room} {s : State} {m : MethodId} {args : Array Value} {below : List Frame} {meth : Method} {c : Code} {Q : State → Prop} {t : TT} {D : va_G} {B n kc ks pc : Nat} {ls : List (Option Value)} {st : List Value} {M : Mem} {S : Sts} {cc : ByteArray} {own : String} {nL : Nat}
theorem gc_alen (X : Cc p s m args c cc own nL t D) {o N : Nat} (ho : o < n) (hk : kd (o : Int) = (1, N, [])) (hd : decode cc pc = .ok (.arraylength, 1)) (kk : Gc p l e R s m args below meth c Q t D B n kc ks (pc + 1) ls (.int (iN N) :: st) M S) : Gc p l e R s m args below meth c Q t D B n kc ks pc ls (.ref (alB B (o : Int)) :: st) M S := fun H locs la hP hz hS hv => va_alen X.1 X.2.1 X.2.2.2.2.2.2.1 hP o 0 (wsG_i ho hk) (ty := .int) rfl (Int32.ofInt_eq_ofNat).symm hd (kk H locs la hP hz hS hv)
theorem gc_iast (X : Cc p s m args c cc own nL t D) (hkc : s.heap.size + kc = B + n) {o N : Nat} {i v : Int} (ho : o < n) (hk : kd (o : Int) = (1, N, [])) (hN : N ≤ 100000) (h0 : 0 ≤ i) (h1 : i < (N : Int)) (hd : decode cc pc = .ok (.iastore, 1)) (kk : Gc p l e R s m args below meth c Q t D B n kc ks (pc + 1) ls st (mu M (o : Int) i v) S) : Gc p l e R s m args below meth c Q t D B n kc ks pc ls (.int (iN v) :: .int (iN i) :: .ref (alB B (o : Int)) :: st) M S := by
  intro H locs la hP hz hS hv
  refine va_iast X.1 X.2.1 X.2.2.2.2.2.2.1 hP (wsG_D B n t M S (fun _ h => h)) hS o 0 (wsG_i ho hk) rfl (iN_in h0 h1 (by omega)) hd (fun H1 locs1 hP1 hD1 hS1 => ?_)
  rw [← arr_upd h0 (by omega), wsG_seti ho hk (M' := mu M (o : Int) i v) (fun o' h => mu_o M _ _ h)] at hP1
  intro T0 hT X0
  have hub : T0.heap.size ≤ s.heap.size + kc := X0.same.2.2.1
  have hlb : alB B ((n - 1 : Nat) : Int) < H1.size := (hP1 (n - 1) _ (wsG_at t (alB B) (mu M (o : Int) i v) S (by omega))).lt
  have hz1 : H1.size = B + n := by
    rw [hT] at hub
    unfold alB at hlb
    omega
  exact kk H1 locs1 la hP1 hz1 hS1 hv T0 hT X0
end

