/-! The constructors' rows: a reference put. -/
def stU (S : Sts) (o k : Int) : Sts := fun o' k' => if o' = o ∧ k' = k then true else S o' k'
theorem valsS_off {al : Int → Nat} {M : Mem} {S S' : Sts} {o : Int} : ∀ (r : List Nat) (b : Nat), (∀ k : Nat, b ≤ k → S' o k = S o k) → valsS al M S' o b r = valsS al M S o b r
  | [], _, _ => rfl
  | f :: r, b, h => by
    rw [valsS, valsS, valsS_off r (b + 1) (fun k hk => h k (by omega))]
    unfold fvS
    rw [h b (Nat.le_refl _)]
theorem valsS_set {al : Int → Nat} {M : Mem} {S : Sts} {o : Int} {g : Nat} : ∀ (r : List Nat) (b j : Nat), r[j]? = some (g + 3) → (valsS al M S o b r).set j (.ref (al (g : Int))) = valsS al M (stU S o ((b + j : Nat) : Int)) o b r
  | [], b, j, h => by simp at h
  | f :: r, b, 0, h => by
    have hf : f = g + 3 := by simpa using h
    rw [valsS, valsS, List.set_cons_zero, valsS_off (S' := stU S o ((b + 0 : Nat) : Int)) (S := S) r (b + 1) (fun k hk => if_neg (by omega))]
    congr 1
    have e : stU S o ((b + 0 : Nat) : Int) o (b : Int) = true := if_pos ⟨rfl, by omega⟩
    unfold fvS
    rw [if_neg (fun q => by rw [e] at q; exact absurd q.2 (by decide))]
    unfold fv
    rw [if_neg (by omega), if_neg (by omega), if_neg (by omega), hf, show g + 3 - 3 = g by omega]
  | f :: r, b, j + 1, h => by
    have e : b + (j + 1) = b + 1 + j := by omega
    have h2 : r[j]? = some (g + 3) := by simpa using h
    rw [valsS, valsS, List.set_cons_succ, valsS_set r (b + 1) j h2, ← e]
    congr 1
    have e2 : stU S o ((b + (j + 1) : Nat) : Int) o (b : Int) = S o b := if_neg (by omega)
    unfold fvS
    rw [e2]
theorem valsS_len {al : Int → Nat} {M : Mem} {S : Sts} {o : Int} : ∀ (r : List Nat) (b : Nat), (valsS al M S o b r).length = r.length
  | [], _ => rfl
  | f :: r, b => by rw [valsS, List.length_cons, valsS_len r, List.length_cons]
theorem wsG_set {n : Nat} {t : TT} {al : Int → Nat} {M : Mem} {S : Sts} {o k g ci : Nat} {fts : List Nat} (ho : o < n) (hk : kd (o : Int) = (0, ci, fts)) (hf : fts[k]? = some (g + 3)) : (wsG n t al M S).set o (al (o : Int), .inr (ci, (valsS al M S (o : Int) 0 fts).set k (.ref (al (g : Int))))) = wsG n t al M (stU S (o : Int) (k : Int)) := by
  apply List.ext_getElem?
  intro j
  by_cases hj : j < n
  · rw [wsG_at t al M _ hj]
    by_cases e : o = j
    · subst e
      rw [List.getElem?_set_self (by rw [wsG_len]; exact hj)]
      have z := valsS_set (al := al) (M := M) (S := S) (o := (o : Int)) fts 0 k hf
      rw [Nat.zero_add] at z
      rw [z]
      unfold contS
      rw [hk, if_pos rfl]
    · rw [List.getElem?_set_ne e, wsG_at t al M _ hj]
      unfold contS
      rw [valsS_off (S' := stU S (o : Int) (k : Int)) (S := S) _ 0 (fun i _ => if_neg (by omega))]
  · have a : ((wsG n t al M S).set o (al (o : Int), .inr (ci, (valsS al M S (o : Int) 0 fts).set k (.ref (al (g : Int)))))).length ≤ j := by rw [List.length_set, wsG_len]; omega
    have b : (wsG n t al M (stU S (o : Int) (k : Int))).length ≤ j := by rw [wsG_len]; omega
    rw [List.getElem?_eq_none a, List.getElem?_eq_none b]
theorem va_at_lt {D : va_G} {cl : List vw_C} {q : Nat × va_E} {H : Heap} (h : va_at D cl q H) : q.1 < H.size := h.lt
section
variable {p : Program} {l : Launch} {e : Env} {R : Room} {s : State} {m : MethodId} {args : Array Value} {below : List Frame} {meth : Method} {c : Code} {Q : State → Prop} {t : TT} {D : va_G} {B n kc ks pc : Nat} {ls : List (Option Value)} {st : List Value} {M : Mem} {S : Sts} {cc : ByteArray} {own : String} {nL : Nat}
theorem gc_putr (X : Cc p s m args c cc own nL t D) (hin2 : meth.name = "<init>") (hkc : s.heap.size + kc = B + n) {o k N idx ci g : Nat} {C : String} {T : u_T} {ty0 : Nat → FieldType} {fts : List Nat} (ho : o < n) (hk : kd (o : Int) = (0, ci, fts)) (F : FC ci C T N ty0) (hkN : k < N) (hw : Cond.fieldLink own idx (T k).1 (T k).2.1 (T k).2.2.1 ∈ tb) (hf : fts[k]? = some (g + 3)) (hfin : (T k).2.2.2 = true) (hdecl : (T k).1 = own) (href : (ty0 k).isReference = true)
    (hd : decode cc pc = .ok (.putfield idx, 3)) (kk : Gc p l e R s m args below meth c Q t D B n kc ks (pc + 3) ls st M (stU S (o : Int) (k : Int))) : Gc p l e R s m args below meth c Q t D B n kc ks pc ls (.ref (alB B (g : Int)) :: .ref (alB B (o : Int)) :: st) M S := by
  intro H locs la hP hz hS hv
  have hfit : fits (ty0 k) (.ref (alB B (g : Int))) = true := tb_ref href _
  have hnr : narrow (ty0 k) (.ref (alB B (g : Int))) = .ref (alB B (g : Int)) := by cases ty0 k <;> rfl
  have hat := wsG_at t (alB B) M S ho
  have hco : contS t (alB B) M S (o : Int) = .inr (ci, valsS (alB B) M S (o : Int) 0 fts) := by unfold contS; rw [hk, if_pos rfl]
  rw [hco] at hat
  refine va_putF X.1 X.2.1 X.2.2.2.2.1 F.2.1 ty0 F.2.2.1 F.2.2.2 X.2.2.2.1 X.2.2.2.2.2.2.1 hP (wsG_D B n t M S (fun _ h => h)) hS o hat F.1 k hkN (X.2.2.2.2.1 _ hw) (fun _ h => h) hfin hin2 hdecl (F.2.2.1 k hkN) hnr hfit (by rw [valsS_len]; exact (List.getElem?_eq_some_iff.mp hf).1) hd (fun H1 locs1 hP1 hD1 hS1 => ?_)
  rw [wsG_set ho hk hf] at hP1
  intro T0 hT X0
  have hub : T0.heap.size ≤ s.heap.size + kc := X0.same.2.2.1
  have hlb : alB B ((n - 1 : Nat) : Int) < H1.size := (hP1 (n - 1) _ (wsG_at t (alB B) M (stU S (o : Int) (k : Int)) (by omega))).lt
  have hz1 : H1.size = B + n := by
    rw [hT] at hub
    unfold alB at hlb
    omega
  exact kk H1 locs1 la hP1 hz1 hS1 hv T0 hT X0
end

