/-! The law's start. -/
theorem ls_set : ∀ o ∈ List.range NO, ∀ k ∈ List.range 60, ((kd (o : Int)).1 = 0 ∧ 3 ≤ (kd (o : Int)).2.2.getD k 0) → (stU (stU (stU (stU (stU (stU (stU (stU (stU (stU (stU (stU (stU (stU (stU (stU (stU (stU (stU (stU (stU (stU (stU (stU (stU (stU (stU (stU (stU (stU (stU (stU (stU (stU (stU (stU (stU (stU (stU (stU (stU (stU (stU (stU (stU (stU (stU (stU (stU (stU (stU (stU (stU (stU (stU (stU (stU (stU (fun _ _ => false) ((1 : Nat) : Int) ((0 : Nat) : Int)) ((0 : Nat) : Int) ((0 : Nat) : Int)) ((3 : Nat) : Int) ((0 : Nat) : Int)) ((3 : Nat) : Int) ((1 : Nat) : Int)) ((0 : Nat) : Int) ((1 : Nat) : Int)) ((6 : Nat) : Int) ((0 : Nat) : Int)) ((0 : Nat) : Int) ((2 : Nat) : Int)) ((8 : Nat) : Int) ((0 : Nat) : Int)) ((0 : Nat) : Int) ((3 : Nat) : Int)) ((0 : Nat) : Int) ((4 : Nat) : Int)) ((0 : Nat) : Int) ((5 : Nat) : Int)) ((0 : Nat) : Int) ((6 : Nat) : Int)) ((0 : Nat) : Int) ((7 : Nat) : Int)) ((22 : Nat) : Int) ((0 : Nat) : Int)) ((0 : Nat) : Int) ((8 : Nat) : Int)) ((24 : Nat) : Int) ((0 : Nat) : Int)) ((24 : Nat) : Int) ((1 : Nat) : Int)) ((24 : Nat) : Int) ((2 : Nat) : Int)) ((24 : Nat) : Int) ((3 : Nat) : Int)) ((24 : Nat) : Int) ((4 : Nat) : Int)) ((0 : Nat) : Int) ((9 : Nat) : Int)) ((62 : Nat) : Int) ((0 : Nat) : Int)) ((62 : Nat) : Int) ((1 : Nat) : Int)) ((62 : Nat) : Int) ((2 : Nat) : Int)) ((62 : Nat) : Int) ((3 : Nat) : Int)) ((62 : Nat) : Int) ((4 : Nat) : Int)) ((0 : Nat) : Int) ((10 : Nat) : Int)) ((100 : Nat) : Int) ((0 : Nat) : Int)) ((100 : Nat) : Int) ((1 : Nat) : Int)) ((100 : Nat) : Int) ((7 : Nat) : Int)) ((0 : Nat) : Int) ((11 : Nat) : Int)) ((0 : Nat) : Int) ((12 : Nat) : Int)) ((114 : Nat) : Int) ((0 : Nat) : Int)) ((114 : Nat) : Int) ((9 : Nat) : Int)) ((114 : Nat) : Int) ((11 : Nat) : Int)) ((114 : Nat) : Int) ((12 : Nat) : Int)) ((114 : Nat) : Int) ((14 : Nat) : Int)) ((114 : Nat) : Int) ((16 : Nat) : Int)) ((114 : Nat) : Int) ((18 : Nat) : Int)) ((114 : Nat) : Int) ((21 : Nat) : Int)) ((114 : Nat) : Int) ((22 : Nat) : Int)) ((114 : Nat) : Int) ((24 : Nat) : Int)) ((114 : Nat) : Int) ((25 : Nat) : Int)) ((114 : Nat) : Int) ((27 : Nat) : Int)) ((114 : Nat) : Int) ((30 : Nat) : Int)) ((114 : Nat) : Int) ((31 : Nat) : Int)) ((114 : Nat) : Int) ((32 : Nat) : Int)) ((114 : Nat) : Int) ((33 : Nat) : Int)) ((114 : Nat) : Int) ((34 : Nat) : Int)) ((114 : Nat) : Int) ((35 : Nat) : Int)) ((114 : Nat) : Int) ((36 : Nat) : Int)) ((114 : Nat) : Int) ((41 : Nat) : Int)) ((114 : Nat) : Int) ((42 : Nat) : Int)) ((114 : Nat) : Int) ((49 : Nat) : Int)) ((114 : Nat) : Int) ((50 : Nat) : Int)) ((114 : Nat) : Int) ((51 : Nat) : Int)) ((114 : Nat) : Int) ((52 : Nat) : Int)) ((114 : Nat) : Int) ((53 : Nat) : Int)) (o : Int) (k : Int) = true := by decide +kernel
theorem ls_len : ∀ o ∈ List.range NO, (kd (o : Int)).2.2.length ≤ 60 := by decide +kernel
theorem law_start {p : Program} {l : Launch} {e : Env} {s : State} {m : MethodId} {args : Array Value} {below : List Frame} {meth : Method} {c : Code} {Q : State → Prop} {t : TT} {D : va_G} {B b : Nat} (X : Cc p s m args c cL_law "RedSkiesLaw" 4 t D)
    (hf : Gd p l e room_1 s m args below meth c 141 15979 Q t D (alB B) (fun q => B ≤ q) 18 [some (.ref b), some (.ref (alB B 0)), some (.ref (alB B 114)), some (.int (iN 0))] [] M00) : Gc p l e room_1 s m args below meth c Q t D B 0 0 0 0 [some (.ref b), none, none, none] [] (fun _ _ => 0) (fun _ _ => false) := by
  refine gc_obj X (n := 0) fc8 kd_0 (fun k => rfl) (fun k => rfl) rfl wd_82 wd_83 wd_67 (Nat.le_of_ble_eq_true rfl) (Nat.le_of_ble_eq_true rfl) dL_law_0 ?_
  refine gc_dup X dL_law_3 ?_
  refine gc_initL X (cc_X9_init_0 l t D B _ _ (fun o k h => rfl) (fun o k h => rfl)) wd_86 wd_67 wd_84 wd_85 rfl (by decide +kernel) ⟨(Nat.le_of_ble_eq_true rfl), (Nat.le_of_ble_eq_true rfl)⟩ ⟨(Nat.le_of_ble_eq_true rfl), (Nat.le_of_ble_eq_true rfl)⟩ rfl (Nat.le_of_ble_eq_true rfl) dL_law_4 ?_
  refine gc_astore X dL_law_7 rfl (by simp) (by simp [lok]; try rfl) ?_
  have hz : ∀ o k : Int, 114 ≤ o → (fil (fil (fun _ _ => (0 : Int)) ((60 : Nat) : Int) ((401 : Nat) : Int) (-1)) ((98 : Nat) : Int) ((401 : Nat) : Int) (-1)) o k = 0 := fun o k h => by
    show (if o = 98 ∧ 0 ≤ k ∧ k < 401 then (-1 : Int) else if o = 60 ∧ 0 ≤ k ∧ k < 401 then -1 else 0) = 0
    rw [if_neg (by omega), if_neg (by omega)]
  refine gc_obj X (n := 114) fc9 kd_114 (fun k => by simp [stU]) (fun k => hz _ _ (by decide)) rfl wd_821 wd_822 wd_78 (Nat.le_of_ble_eq_true rfl) (Nat.le_of_ble_eq_true rfl) dL_law_8 ?_
  refine gc_dup X dL_law_11 ?_
  refine gc_initL X (cc_X10_init_114 l t D B _ _ (fun o k h => hz o k (by omega))) wd_825 wd_78 wd_823 wd_824 rfl (by decide +kernel) ⟨(Nat.le_of_ble_eq_true rfl), (Nat.le_of_ble_eq_true rfl)⟩ ⟨(Nat.le_of_ble_eq_true rfl), (Nat.le_of_ble_eq_true rfl)⟩ rfl (Nat.le_of_ble_eq_true rfl) dL_law_12 ?_
  refine gc_astore X dL_law_15 rfl (by simp) (by simp [lok]; try rfl) ?_
  refine gc_iconst X dL_law_16 ?_
  refine gc_istore X dL_law_17 rfl (by simp) (by simp [lok]; try rfl) ?_
  refine gd_gc (fun o k f ho h0 hk h3 => ?_) ?_
  · have hl := (List.getElem?_eq_some_iff.mp hk).1
    have hl2 := ls_len o (List.mem_range.mpr ho)
    refine ls_set o (List.mem_range.mpr ho) k (List.mem_range.mpr (by omega)) ⟨h0, ?_⟩
    rw [List.getD_eq_getElem?_getD, hk]
    exact h3
  · have e := M00_e
    exact e ▸ hf

