/-! The constructors' rows: locals, jumps, a reference read, an int put. -/
theorem valsS_get {al : Int → Nat} {M : Mem} {S : Sts} {o : Int} : ∀ (fts : List Nat) (b k : Nat), (valsS al M S o b fts)[k]? = (fts[k]?).map (fvS al M S o (b + k))
  | [], b, k => by simp [valsS]
  | f :: r, b, 0 => by simp [valsS]
  | f :: r, b, k + 1 => by
    rw [valsS, List.getElem?_cons_succ, List.getElem?_cons_succ, valsS_get r (b + 1) k]
    congr 2; omega
section
variable {p : Program} {l : Launch} {e : Env} {R : Room} {s : State} {m : MethodId} {args : Array Value} {below : List Frame} {meth : Method} {c : Code} {Q : State → Prop} {t : TT} {D : va_G} {B n kc ks pc : Nat} {ls : List (Option Value)} {st : List Value} {M : Mem} {S : Sts} {cc : ByteArray} {own : String} {nL : Nat}
theorem gc_iload (X : Cc p s m args c cc own nL t D) {k : Fin 4} {i : Nat} {x : Int32} (hd : decode cc pc = .ok (.iload_n k, 1)) (hi : (k : Nat) = i) (hl : ls[i]? = some (some (.int x))) (kk : Gc p l e R s m args below meth c Q t D B n kc ks (pc + 1) ls (.int x :: st) M S) : Gc p l e R s m args below meth c Q t D B n kc ks pc ls st M S := fun H locs la hP hz hS hv => lv_iload_n X.1 X.2.1 hd hi (hv.2.2 i _ hl) (kk H locs la hP hz hS hv)
theorem gc_istore (X : Cc p s m args c cc own nL t D) {k : Fin 4} {i : Nat} {x : Int32} (hd : decode cc pc = .ok (.istore_n k, 1)) (hi : (k : Nat) = i) (hn : i < ls.length) (ho : lok ls i) (kk : Gc p l e R s m args below meth c Q t D B n kc ks (pc + 1) (ls.set i (some (.int x))) st M S) : Gc p l e R s m args below meth c Q t D B n kc ks pc ls (.int x :: st) M S := by
  subst hi
  intro H locs la hP hz hS hv
  obtain ⟨la2, e2, hv2⟩ := lvp_set1 (v := .int x) hv hn rfl ho
  intro T hT Xs
  obtain ⟨tt, aa, bb⟩ := kk H locs la2 hP hz hS hv2 T hT Xs
  refine ⟨tt, ?_, bb⟩
  jvm_step Xs.here [Xs.here.top, ↓top_set Xs.here.top, X.1, X.2.1, hd, e2]
  exact aa
theorem gc_iinc (X : Cc p s m args c cc own nL t D) {i : Nat} {a x : Int} (hd : decode cc pc = .ok (.iinc i a, 3)) (hl : ls[i]? = some (some (.int (iN x)))) (hn : i < ls.length) (ho : lok ls i) (kk : Gc p l e R s m args below meth c Q t D B n kc ks (pc + 3) (ls.set i (some (.int (iN (x + a))))) st M S) : Gc p l e R s m args below meth c Q t D B n kc ks pc ls st M S := by
  intro H locs la hP hz hS hv
  have hg := hv.2.2 i _ hl
  obtain ⟨la2, e2, hv2⟩ := lvp_set1 (v := .int (iN x + Int32.ofInt a)) hv hn rfl ho
  intro T hT Xs
  obtain ⟨tt, aa, bb⟩ := kk H locs la2 hP hz hS (by rw [iN_add]; exact hv2) T hT Xs
  refine ⟨tt, ?_, bb⟩
  jvm_step Xs.here [Xs.here.top, ↓top_set Xs.here.top, X.1, X.2.1, hd, hg, e2]
  exact aa
theorem gc_goto (X : Cc p s m args c cc own nL t D) {off : Int} {tgt : Nat} (hd : decode cc pc = .ok (.goto off, 3)) (ht : (pc : Int) + off = (tgt : Int)) (kk : Gc p l e R s m args below meth c Q t D B n kc ks tgt ls st M S) : Gc p l e R s m args below meth c Q t D B n kc ks pc ls st M S := fun H locs la hP hz hS hv => lv_goto X.1 X.2.1 hd ht (kk H locs la hP hz hS hv)
theorem gc_icmp_ge (X : Cc p s m args c cc own nL t D) {a b off : Int} {tgt : Nat} (hd : decode cc pc = .ok (.if_icmp .ge off, 3)) (ht : (pc : Int) + off = (tgt : Int)) (ha : i32 a) (hb : i32 b) (kt : b ≤ a → Gc p l e R s m args below meth c Q t D B n kc ks tgt ls st M S) (kf : a < b → Gc p l e R s m args below meth c Q t D B n kc ks (pc + 3) ls st M S) : Gc p l e R s m args below meth c Q t D B n kc ks pc ls (.int (iN b) :: .int (iN a) :: st) M S := by
  intro H locs la hP hz hS hv
  refine lv_icmp_ge X.1 X.2.1 hd ht (fun q => kt ?_ H locs la hP hz hS hv) (fun q => kf ?_ H locs la hP hz hS hv)
  all_goals (simp only [ne_eq, iN_eq ha hb, iN_eq hb ha, iN_lt ha hb, iN_lt hb ha, iN_le ha hb, iN_le hb ha, ge_iff_le, gt_iff_lt] at q <;> omega)
theorem gc_getr (X : Cc p s m args c cc own nL t D) {o k N idx ci g : Nat} {C : String} {T : u_T} {ty0 : Nat → FieldType} {fts : List Nat} (ho : o < n) (hk : kd (o : Int) = (0, ci, fts)) (F : FC ci C T N ty0) (hkN : k < N) (hw : Cond.fieldLink own idx (T k).1 (T k).2.1 (T k).2.2.1 ∈ tb) (hf : fts[k]? = some (g + 3)) (hSk : S (o : Int) (k : Int) = true) (hd : decode cc pc = .ok (.getfield idx, 3)) (kk : Gc p l e R s m args below meth c Q t D B n kc ks (pc + 3) ls (.ref (alB B (g : Int)) :: st) M S) : Gc p l e R s m args below meth c Q t D B n kc ks pc ls (.ref (alB B (o : Int)) :: st) M S := fun H locs la hP hz hS hv => by
  have hat := wsG_at t (alB B) M S ho
  have hco : contS t (alB B) M S (o : Int) = .inr (ci, valsS (alB B) M S (o : Int) 0 fts) := by unfold contS; rw [hk, if_pos rfl]
  rw [hco] at hat
  refine va_get X.1 X.2.1 X.2.2.2.2.1 F.2.1 X.2.2.2.1 X.2.2.2.2.2.2.1 hP o hat F.1 k hkN (X.2.2.2.2.1 _ hw) (fun _ h => h) (v := .ref (alB B (g : Int))) ?_ hd (kk H locs la hP hz hS hv)
  rw [valsS_get, hf, Nat.zero_add]
  show some (fvS (alB B) M S (o : Int) k (g + 3)) = _
  unfold fvS
  rw [if_neg (fun q => by rw [hSk] at q; exact absurd q.2 (by decide))]
  unfold fv
  rw [if_neg (by omega), if_neg (by omega), if_neg (by omega), show g + 3 - 3 = g by omega]
end

