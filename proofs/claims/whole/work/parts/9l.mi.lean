/-! The reference's constructor. -/
theorem valsS_lo {al : Int → Nat} {M : Mem} {S : Sts} {o k v : Int} : ∀ (r : List Nat) (b : Nat), k < b → valsS al (mu M o k v) S o b r = valsS al M S o b r
  | [], _, _ => rfl
  | f :: r, b, h => by
    rw [valsS, valsS, valsS_lo r (b + 1) (by omega)]
    have e : (b : Int) ≠ k := by omega
    simp [fvS, fv, mu_k M o v e]
theorem valsS_seti {al : Int → Nat} {M : Mem} {S : Sts} {o v : Int} : ∀ (r : List Nat) (b j : Nat), r[j]? = some 0 → (valsS al M S o b r).set j (.int (iN v)) = valsS al (mu M o ((b + j : Nat) : Int) v) S o b r
  | [], b, j, h => by simp at h
  | f :: r, b, 0, h => by
    have hf : f = 0 := by simpa using h
    rw [valsS, valsS, List.set_cons_zero, valsS_lo r (b + 1) (by omega)]
    simp [fvS, fv, hf, mu_same]
  | f :: r, b, j + 1, h => by
    have e : b + (j + 1) = b + 1 + j := by omega
    have h2 : r[j]? = some 0 := by simpa using h
    rw [valsS, valsS, List.set_cons_succ, valsS_seti r (b + 1) j h2, ← e]
    have e2 : (b : Int) ≠ ((b + (j + 1) : Nat) : Int) := by omega
    simp only [fvS, fv, mu_k M o v e2]
theorem wsG_setf {n : Nat} {t : TT} {al : Int → Nat} {M : Mem} {S : Sts} {o k ci : Nat} {v : Int} {fts : List Nat} (ho : o < n) (hk : kd (o : Int) = (0, ci, fts)) (hf : fts[k]? = some 0) : (wsG n t al M S).set o (al (o : Int), .inr (ci, (valsS al M S (o : Int) 0 fts).set k (.int (iN v)))) = wsG n t al (mu M (o : Int) (k : Int) v) S := by
  apply List.ext_getElem?
  intro j
  by_cases hj : j < n
  · by_cases e : o = j
    · subst e
      rw [List.getElem?_set_self (by rw [wsG_len]; exact hj), wsG_at t al _ S hj]
      have z := valsS_seti (al := al) (M := M) (S := S) (o := (o : Int)) (v := v) fts 0 k hf
      rw [Nat.zero_add] at z
      rw [z]
      unfold contS
      rw [hk, if_pos rfl]
    · rw [List.getElem?_set_ne e, wsG_at t al M _ hj, wsG_at t al _ _ hj, contS_row (mu_o M _ _ (by omega))]
  · rw [List.getElem?_eq_none (by rw [List.length_set, wsG_len]; omega), List.getElem?_eq_none (by rw [wsG_len]; omega)]
section
variable {p : Program} {l : Launch} {e : Env} {R : Room} {s : State} {m : MethodId} {args : Array Value} {below : List Frame} {meth : Method} {c : Code} {Q : State → Prop} {t : TT} {D : va_G} {B n kc ks pc : Nat} {ls : List (Option Value)} {st : List Value} {M : Mem} {S : Sts} {cc : ByteArray} {own : String} {nL : Nat}
theorem gc_puti (X : Cc p s m args c cc own nL t D) (hkc : s.heap.size + kc = B + n) {o k N idx ci : Nat} {v : Int} {C : String} {T : u_T} {ty0 : Nat → FieldType} {fts : List Nat} (ho : o < n) (hk : kd (o : Int) = (0, ci, fts)) (F : FC ci C T N ty0) (hkN : k < N) (hw : Cond.fieldLink own idx (T k).1 (T k).2.1 (T k).2.2.1 ∈ tb) (hf : fts[k]? = some 0) (hfin : (T k).2.2.2 = false) (hty : ty0 k = .int)
    (hd : decode cc pc = .ok (.putfield idx, 3)) (kk : Gc p l e R s m args below meth c Q t D B n kc ks (pc + 3) ls st (mu M (o : Int) (k : Int) v) S) : Gc p l e R s m args below meth c Q t D B n kc ks pc ls (.int (iN v) :: .ref (alB B (o : Int)) :: st) M S := by
  intro H locs la hP hz hS hv
  have hat := wsG_at t (alB B) M S ho
  have hco : contS t (alB B) M S (o : Int) = .inr (ci, valsS (alB B) M S (o : Int) 0 fts) := by unfold contS; rw [hk, if_pos rfl]
  rw [hco] at hat
  refine va_put X.1 X.2.1 X.2.2.2.2.1 F.2.1 ty0 F.2.2.1 F.2.2.2 X.2.2.2.1 X.2.2.2.2.2.2.1 hP (wsG_D B n t M S (fun _ h => h)) hS o hat F.1 k hkN (X.2.2.2.2.1 _ hw) (fun _ h => h) hfin (ty := .int) (by rw [F.2.2.1 k hkN, hty]) rfl rfl (by rw [valsS_len]; exact (List.getElem?_eq_some_iff.mp hf).1) hd (fun H1 locs1 hP1 hD1 hS1 => ?_)
  rw [wsG_setf ho hk hf] at hP1
  intro T0 hT X0
  have hub : T0.heap.size ≤ s.heap.size + kc := X0.same.2.2.1
  have hlb : alB B ((n - 1 : Nat) : Int) < H1.size := (hP1 (n - 1) _ (wsG_at t (alB B) (mu M (o : Int) (k : Int) v) S (by omega))).lt
  have hz1 : H1.size = B + n := by
    rw [hT] at hub
    unfold alB at hlb
    omega
  exact kk H1 locs1 la hP1 hz1 hS1 hv T0 hT X0
end

