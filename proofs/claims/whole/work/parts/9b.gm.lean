/-! The constructors' rows: a table, an object. -/
theorem gc_Pk {t : TT} {D : va_G} {B n k : Nat} {M : Mem} {S : Sts} {H H1 : Heap} (hP : va_P D vwCl (wsG n t (alB B) M S) H) (hz : H.size = B + n) (ho : ∀ q, q < H.size → H1[q]? = H[q]?) (hn : ∀ o : Nat, n ≤ o → o < n + k → va_at D vwCl (alB B (o : Int), contS t (alB B) M S (o : Int)) H1) : va_P D vwCl (wsG (n + k) t (alB B) M S) H1 := fun i q hq => by
  have hl := (List.getElem?_eq_some_iff.mp hq).1
  rw [wsG_len] at hl
  rw [wsG_at t (alB B) M S hl] at hq
  cases hq
  by_cases c : i < n
  · exact (hP i _ (wsG_at t (alB B) M S c)).kept (ho _ (by show alB B (i : Int) < _; unfold alB; rw [hz]; omega))
  · exact hn i (by omega) hl
def dv0 (f : Nat) : Value := if 3 ≤ f then .null else if f = 1 then .long 0 else .int 0
theorem valsS_0 {al : Int → Nat} {M : Mem} {S : Sts} {o : Int} (hS : ∀ k : Int, S o k = false) (hM : ∀ k : Int, M o k = 0) : ∀ (r : List Nat) (b : Nat), valsS al M S o b r = r.map dv0
  | [], _ => rfl
  | f :: r, b => by
    rw [valsS, List.map_cons, valsS_0 hS hM r (b + 1)]
    congr 1
    unfold fvS dv0
    by_cases h : 3 ≤ f
    · rw [if_pos ⟨h, hS _⟩, if_pos h]
    · rw [if_neg (fun q => h q.1), if_neg h]
      unfold fv
      rw [hM]
      by_cases h0 : f = 0
      · rw [if_pos h0, if_neg (by omega)]; rfl
      · rw [if_neg h0]
        by_cases h1 : f = 1
        · rw [if_pos h1, if_pos h1]; rfl
        · rw [if_neg h1, if_neg h1, if_pos (by omega)]; rfl
section
variable {p : Program} {l : Launch} {e : Env} {R : Room} {s : State} {m : MethodId} {args : Array Value} {below : List Frame} {meth : Method} {c : Code} {Q : State → Prop} {t : TT} {D : va_G} {B n kc ks pc : Nat} {ls : List (Option Value)} {st : List Value} {M : Mem} {S : Sts} {cc : ByteArray} {own : String} {nL : Nat}
theorem gc_mnew (X : Cc p s m args c cc own nL t D) {a b : Int} {N K index : Nat} (ha : 0 ≤ a ∧ a ≤ 100000) (hN : a.toNat = N) (hb : 0 ≤ b ∧ b ≤ 100000) (hK : b.toNat = K) (hk : kd (n : Int) = (4, N, [n + 1])) (hk2 : ∀ j : Nat, j < N → kd ((n + 1 + j : Nat) : Int) = (1, K, [])) (hz0 : ∀ (j i : Nat), j < N → M ((n + 1 + j : Nat) : Int) (i : Int) = 0)
    (hw1 : Cond.classLink own index "[[I" ∈ tb) (hw3 : Cond.arrayClass .int ∈ tb) (hc : kc + (1 + N) ≤ R.cells) (hs : ks + (N + N * K) ≤ R.slots) (hd : decode cc pc = .ok (.multianewarray index 2, 4))
    (k : Gc p l e R s m args below meth c Q t D B (n + (1 + N)) (kc + 1 + N) (ks + N + N * K) (pc + 4) ls (.ref (alB B (n : Int)) :: st) M S) : Gc p l e R s m args below meth c Q t D B n kc ks pc ls (.int (iN b) :: .int (iN a) :: st) M S := by
  intro H locs la hP hz hS hv
  have hi : i32 a := ⟨by omega, by omega⟩
  have hj : i32 b := ⟨by omega, by omega⟩
  refine mz_row X.1 X.2.1 X.2.2.2.1 (X.2.2.2.2.1 _ hw1) X.2.2.2.2.2.2.2 (X.2.2.2.2.1 _ hw3) (g := F0 m pc la (.int (iN b) :: .int (iN a) :: st)) rfl hd (N := N) (K := K) (by rw [iN_clamp ⟨ha.1, by omega⟩]; exact hN) (by rw [iN_clamp ⟨hb.1, by omega⟩]; exact hK) rfl (by rw [show (0 : Int32) = iN 0 from rfl, iN_lt hi (by decide)]; omega) (by rw [show (0 : Int32) = iN 0 from rfl, iN_lt hj (by decide)]; omega) (by omega) (by omega) hc hs hS.1 (fun cA comp H1 hf1 hf2 z1 o1 e1 e2 => ?_)
  have hr : (Value.ref H.size) = .ref (alB B (n : Int)) := by unfold alB; rw [hz]; rfl
  rw [hr]
  have hcA : s.vm.findClass "[[I" = some t.2.2.2 := (X.2.2.2.2.2.2.1.2 3 (t.2.2.2, .array .int) rfl).2
  have hcI : s.vm.findClass "[I" = some t.1 := (X.2.2.2.2.2.2.1.2 0 (t.1, .int) rfl).2
  obtain rfl : cA = t.2.2.2 := Option.some.inj (hf1.symm.trans hcA)
  obtain rfl : comp = t.1 := Option.some.inj (hf2.symm.trans hcI)
  refine k H1 locs la (gc_Pk hP hz o1 (fun o h1 h2 => ?_)) (by rw [z1, hz]; omega) (gc_S hS (by omega) o1) hv
  by_cases q : o = n
  · subst q
    have ee : contS t (alB B) M S (o : Int) = .inl (t.2.2.2, N, .inr (.inr (.inr (.inr (fun j => some (alB B (((o + 1 : Nat) : Int) + (j : Int)))))))) := by
      unfold contS cont
      rw [hk]
      rfl
    rw [ee]
    show H1[alB B (o : Int)]? = some (vp_cell t.2.2.2 (N, .inr (.inr (.inr (.inr (fun j => some (alB B (((o + 1 : Nat) : Int) + (j : Int))))))))) 
    have ea : alB B (o : Int) = H.size := by unfold alB; rw [hz]; rfl
    rw [ea, e1, tbF_full]
    show some (arrV t.2.2.2 N (fun j => Value.ref (H.size + 1 + j))) = some (arrV t.2.2.2 N (fun j => va_rf (some (alB B (((o + 1 : Nat) : Int) + (j : Int))))))
    have eF : (fun j : Nat => Value.ref (H.size + 1 + j)) = fun j : Nat => va_rf (some (alB B (((o + 1 : Nat) : Int) + (j : Int)))) := funext fun j => by
      show Value.ref (H.size + 1 + j) = Value.ref (B + (((o + 1 : Nat) : Int) + (j : Int)).toNat)
      have e3 : (((o + 1 : Nat) : Int) + (j : Int)).toNat = o + 1 + j := by omega
      have e4 : H.size + 1 + j = B + (o + 1 + j) := by rw [hz]; omega
      rw [e3, e4]
    rw [eF]
  · have hj2 : o - (n + 1) < N := by omega
    have hh := e2 (o - (n + 1)) hj2
    have ho : n + 1 + (o - (n + 1)) = o := by omega
    have kk2 := hk2 (o - (n + 1)) hj2
    rw [ho] at kk2
    have ee : contS t (alB B) M S (o : Int) = .inl (t.1, K, .inl (fun j => iN (M (o : Int) (j : Int)))) := by
      unfold contS cont
      rw [kk2]
      rfl
    rw [ee]
    show H1[alB B (o : Int)]? = some (vp_cell t.1 (K, .inl (fun j => iN (M (o : Int) (j : Int)))))
    have ea : alB B (o : Int) = H.size + 1 + (o - (n + 1)) := by unfold alB; rw [hz]; omega
    have em : (fun j : Nat => iN (M (o : Int) (j : Int))) = fun _ => 0 := funext fun i => by
      have z := hz0 (o - (n + 1)) i hj2
      rw [ho] at z
      rw [z]; rfl
    rw [ea, hh, em]
    rfl
/-- an object made, all at its defaults -/
theorem gc_obj (X : Cc p s m args c cc own nL t D) {ci N index : Nat} {C : String} {T : u_T} {ty0 : Nat → FieldType} {fts : List Nat} (F : FC ci C T N ty0) (hk : kd (n : Int) = (0, ci, fts)) (hS0 : ∀ k : Int, S (n : Int) k = false) (hM0 : ∀ k : Int, M (n : Int) k = 0) (hdv : (List.range N).map (fun j => defaultValue (ty0 j)) = fts.map dv0)
    (hw1 : Cond.classLink own index C ∈ tb) (hw2 : Cond.instantiable C N ∈ tb) (hw3 : Cond.initialized C ∈ tb) (hc : kc + 1 ≤ R.cells) (hs : ks + N ≤ R.slots) (hd : decode cc pc = .ok (.new index, 3))
    (k : Gc p l e R s m args below meth c Q t D B (n + 1) (kc + 1) (ks + N) (pc + 3) ls (.ref (alB B (n : Int)) :: st) M S) : Gc p l e R s m args below meth c Q t D B n kc ks pc ls st M S := by
  intro H locs la hP hz hS hv
  have hKn := X.2.2.2.2.2.2.1.1 ci _ F.1
  refine W.newcK X.1 X.2.1 X.2.2.2.1 (X.2.2.2.2.1 _ hw1) (X.2.2.2.2.1 _ hw2) (X.2.2.2.2.1 _ hw3) (g := F0 m pc la st) rfl hd hc hs hKn.2.1 rfl (fun H1 kC hkC e1 z1 o1 => ?_)
  have hr : (Value.ref H.size) = .ref (alB B (n : Int)) := by unfold alB; rw [hz]; rfl
  rw [hr]
  refine k H1 locs la (gc_P hP hz o1 ?_) (by rw [z1, hz]; omega) (gc_S hS (by omega) o1) hv
  have ee : contS t (alB B) M S (n : Int) = .inr (ci, fts.map dv0) := by
    unfold contS
    rw [hk, if_pos rfl, valsS_0 hS0 hM0]
  rw [ee]
  have ea : alB B (n : Int) = H.size := by unfold alB; rw [hz]; rfl
  rw [ea]
  refine ⟨_, F.1, (u_born ty0 X.2.2.2.2.1 F.2.1 hKn hkC e1 F.2.2.1).to (fun j hj => ?_)⟩
  show defaultValue (ty0 j) = vp_V (fts.map dv0) j
  rw [← hdv]
  unfold vp_V
  rw [List.getD_eq_getElem?_getD, List.getElem?_map, List.getElem?_range hj]
  rfl
end

