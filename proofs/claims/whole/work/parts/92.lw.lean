/-! The law's own rows: the script, equal answers. -/
theorem g_sld {p : Program} {l : Launch} {e : Env} {R : Room} {s : State} {m : MethodId} {args : Array Value} {below : List Frame} {meth : Method} {c : Code} {kc ks : Nat} {Q : State → Prop} {t : TT} {D : va_G} {al : Int → Nat} {A : Nat → Prop} {cc : ByteArray} {own : String} {nL pc : Nat} {ls : List (Option Value)} {st : List Value} {M : Mem} (X : Cx p s m args c R kc ks cc own nL t D al A) {b L : Nat} {xs : Nat → Int32} (hX : va_X b L xs s s.heap) (hbl : b < s.heap.size) (hbA : ¬ A b) {j : Int} (h0 : 0 ≤ j) (h1 : j < L) (hL : L ≤ 448) (hd : decode cc pc = .ok (.iaload, 1)) (k : Gd p l e R s m args below meth c kc ks Q t D al A (pc + 1) ls (.int (iN (xs j.toNat).toInt) :: st) M) : Gd p l e R s m args below meth c kc ks Q t D al A pc ls (.int (iN j) :: .ref b :: st) M := fun H locs la hP hS hv => by
  refine va_sld X.1 X.2.1 hX hbl hbA hS (i := iN j) (iN_in h0 h1 (by omega)) hd ?_
  rw [iN_clamp ⟨h0, by omega⟩, ← iN_of (xs j.toNat)]
  exact k H locs la hP hS hv
theorem g_slen {p : Program} {l : Launch} {e : Env} {R : Room} {s : State} {m : MethodId} {args : Array Value} {below : List Frame} {meth : Method} {c : Code} {kc ks : Nat} {Q : State → Prop} {t : TT} {D : va_G} {al : Int → Nat} {A : Nat → Prop} {cc : ByteArray} {own : String} {nL pc : Nat} {ls : List (Option Value)} {st : List Value} {M : Mem} (X : Cx p s m args c R kc ks cc own nL t D al A) {b L : Nat} {xs : Nat → Int32} (hX : va_X b L xs s s.heap) (hbl : b < s.heap.size) (hbA : ¬ A b) (hd : decode cc pc = .ok (.arraylength, 1)) (k : Gd p l e R s m args below meth c kc ks Q t D al A (pc + 1) ls (.int (iN L) :: st) M) : Gd p l e R s m args below meth c kc ks Q t D al A pc ls (.ref b :: st) M := fun H locs la hP hS hv => by
  refine va_slen X.1 X.2.1 hX hbl hbA hS hd ?_
  exact k H locs la hP hS hv
theorem g_icmp_same {p : Program} {l : Launch} {e : Env} {R : Room} {s : State} {m : MethodId} {args : Array Value} {below : List Frame} {meth : Method} {c : Code} {kc ks : Nat} {Q : State → Prop} {t : TT} {D : va_G} {al : Int → Nat} {A : Nat → Prop} {cc : ByteArray} {own : String} {nL pc : Nat} {ls : List (Option Value)} {st : List Value} {M : Mem} (X : Cx p s m args c R kc ks cc own nL t D al A) {a b2 off : Int} {tgt : Nat} (hd : decode cc pc = .ok (.if_icmp .eq off, 3)) (ht : (pc : Int) + off = (tgt : Int)) (hab : a = b2) (kt : Gd p l e R s m args below meth c kc ks Q t D al A tgt ls st M) : Gd p l e R s m args below meth c kc ks Q t D al A pc ls (.int (iN b2) :: .int (iN a) :: st) M := by
  subst hab
  intro H locs la hP hS hv
  exact lv_icmp_eq X.1 X.2.1 hd ht (fun _ => kt H locs la hP hS hv) (fun q => absurd rfl q)
theorem g_lcmp_same {p : Program} {l : Launch} {e : Env} {R : Room} {s : State} {m : MethodId} {args : Array Value} {below : List Frame} {meth : Method} {c : Code} {kc ks : Nat} {Q : State → Prop} {t : TT} {D : va_G} {al : Int → Nat} {A : Nat → Prop} {cc : ByteArray} {own : String} {nL pc : Nat} {ls : List (Option Value)} {st : List Value} {M : Mem} (X : Cx p s m args c R kc ks cc own nL t D al A) {a b2 off : Int} {tgt : Nat} (hd : decode cc pc = .ok (.lcmp, 1)) (hd2 : decode cc (pc + 1) = .ok (.ifCond .eq off, 3)) (ht : ((pc + 1 : Nat) : Int) + off = (tgt : Int)) (hab : a = b2) (kt : Gd p l e R s m args below meth c kc ks Q t D al A tgt ls st M) : Gd p l e R s m args below meth c kc ks Q t D al A pc ls (.long (jN b2) :: .long (jN a) :: st) M := by
  subst hab
  intro H locs la hP hS hv
  refine W.lcmp X.1 X.2.1 hd ?_
  have ec : lg_cmp (jN a) (jN a) = 0 := by
    have h1 : ¬ (jN a < jN a) := Int64.lt_irrefl
    simp only [lg_cmp, gt_iff_lt, if_neg h1, if_true]
  rw [ec]
  exact lv_if_eq X.1 X.2.1 hd2 ht (fun _ => kt H locs la hP hS hv) (fun q => absurd rfl q)
theorem EQ.pgW {M M1 : Mem} (h : EQ M M1) (x : WPage M) : WPage M1 := by unfold WPage at x ⊢; rw [h 114 (by omega), h 115 (by omega)]; exact x
theorem EQ.dnW {M M1 : Mem} (h : EQ M M1) (x : WDone M) : WDone M1 := by unfold WDone at x ⊢; rw [h 114 (by omega)]; exact x
theorem EQ.bbW {M M1 : Mem} (h : EQ M M1) (x : B118 M) : B118 M1 := by unfold B118 at x ⊢; rw [h 118 (by omega)]; exact x

