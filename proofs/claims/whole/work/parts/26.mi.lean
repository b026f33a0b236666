set_option maxRecDepth 100000 in
set_option maxHeartbeats 4000000 in
theorem c_X10_standing (lL : Launch) (tT : TT) (dD : va_G) (al : Int → Nat) (M : Mem) (i : Int) (hL : LK M) (h0 : 0 ≤ i) (h1 : i < M 114 29) : CI lL yX10_standing cX10_standing 5 FieldType.int 0 0 tT dD al [.ref (al 114), .int (iN i)] M (fun r M' => r = agM M i ∧ M' = M) := by
  refine CI.of (own := "RedSkiesModel") (ls0 := [some (.ref (al 114)), some (.int (iN i)), none, none, none]) (by decide +kernel) rfl (Nat.le_of_ble_eq_true rfl) rfl ?_
  intro pP eE sS mI aA bB mM cC X hr hlk
  obtain ⟨Q, hQ⟩ : ∃ Q : State → Prop, Q = MQ bB (QI tT dD al (fun r M' => r = agM M i ∧ M' = M)) aA sS 0 0 (fA al) := ⟨_, rfl⟩
  rw [← hQ]
  have w0 := hL.1
  have w1 := hL.2 i h0 h1
  refine g_iconst X dX10_standing_0 ?_
  refine g_istore_n_2 X dX10_standing_1 rfl rfl (fun v2_1 ev2_1 => ?_)
  subst v2_1
  refine g_iconst X dX10_standing_2 ?_
  refine g_istore_n_3 X dX10_standing_3 rfl rfl (fun v3_3 ev3_3 => ?_)
  subst v3_3
  have L_4 : ∀ (n : Nat) (sum : Int) (j : Int), (0 ≤ j) → (j ≤ M 114 29) → (sum = sm (fun j => if one1 j = 1 ∧ M 127 j = M 127 i then sgn (M 128 i - M 128 j) else 0) j.toNat) → (16 - j).toNat < n → Gd pP lL eE (rmN 0 0) sS mI aA bB mM cC 0 0 Q tT dD al (fA al) 4 [some (.ref (al 114)), some (.int (iN i)), some (.int (iN sum)), some (.int (iN j)), none] [] M := by
    intro n
    induction n with
    | zero => intro sum j hj hj2 hs hm; exact absurd hm (Nat.not_lt_zero _)
    | succ n ih =>
      intro sum j hj hj2 hs hm
      have ih_4 := ih
      clear ih
      refine g_iload_n X dX10_standing_4 rfl rfl ?_
      refine g_aload_n X dX10_standing_5 rfl rfl ?_
      refine g_geti (kz := 29) X kd_114 fc9 (k := 29) (by decide) rfl wd_856 rfl dX10_standing_6 ?_
      refine g_icmp_ge (tgt := 87) X dX10_standing_9 (by decide) ⟨by omega, by omega⟩ ⟨by omega, by omega⟩ (fun q9 => ?_) (fun q9 => ?_)
      · refine g_iload_n X dX10_standing_87 rfl rfl ?_
        rw [hQ]
        refine g_iret X hr hlk dX10_standing_88 ?_
        obtain rfl : j = M 114 29 := by omega
        exact ⟨hs, rfl⟩
      · have w2 := hL.2 j hj (by omega)
        refine g_aload_n X dX10_standing_12 rfl rfl ?_
        refine g_getr (r := 127) X kd_114 fc9 (k := 30) (by decide) rfl wd_857 rfl (by decide) dX10_standing_13 ?_
        refine g_iload_n X dX10_standing_16 rfl rfl ?_
        refine g_iald X kd_127 (by omega) (by omega) dX10_standing_17 ?_
        refine g_aload_n X dX10_standing_18 rfl rfl ?_
        refine g_getr (r := 127) X kd_114 fc9 (k := 30) (by decide) rfl wd_857 rfl (by decide) dX10_standing_19 ?_
        refine g_iload_n X dX10_standing_22 rfl rfl ?_
        refine g_iald X kd_127 (by omega) (by omega) dX10_standing_23 ?_
        refine g_icmp_ne (tgt := 31) X dX10_standing_24 (by decide) ⟨by omega, by omega⟩ ⟨by omega, by omega⟩ (fun q24 => ?_) (fun q24 => ?_)
        · refine g_iconst X dX10_standing_31 ?_
          refine g_istore_4 X dX10_standing_32 rfl (fun v4_32 ev4_32 => ?_)
          subst v4_32
          refine g_iload_n X dX10_standing_34 rfl rfl ?_
          refine g_iload X dX10_standing_35 rfl ?_
          refine g_if_eq (tgt := 55) X dX10_standing_37 (by decide) (by decide) (fun _ => ?_) (fun q => absurd q (by decide))
          refine g_iconst X dX10_standing_55 ?_
          refine g_goto (tgt := 79) X dX10_standing_56 (by decide) ?_
          refine g_iadd X dX10_standing_79 ?_
          refine g_istore_n_2 X dX10_standing_80 rfl rfl (fun v2_80 ev2_80 => ?_)
          subst v2_80
          refine g_iinc_3 X dX10_standing_81 rfl (fun v3_81 ev3_81 => ?_)
          subst v3_81
          refine g_goto (tgt := 4) X dX10_standing_84 (by decide) ?_
          exact g_sub (ih_4 _ _ (by omega) (by omega) (by clear X hr hlk hQ ih_4; rw [sm_s _ hj, ← hs]; clear hs; unfold sgn one1; grind) (by omega)) ⟨rfl, rfl, rfl, rfl, trivial⟩
        · refine g_iconst X dX10_standing_27 ?_
          refine g_goto (tgt := 32) X dX10_standing_28 (by decide) ?_
          refine g_istore_4 X dX10_standing_32 rfl (fun v4_32 ev4_32 => ?_)
          subst v4_32
          refine g_iload_n X dX10_standing_34 rfl rfl ?_
          refine g_iload X dX10_standing_35 rfl ?_
          refine g_if_eq (tgt := 55) X dX10_standing_37 (by decide) (by decide) (fun q => absurd q (by decide)) (fun _ => ?_)
          refine g_aload_n X dX10_standing_40 rfl rfl ?_
          refine g_getr (r := 128) X kd_114 fc9 (k := 31) (by decide) rfl wd_858 rfl (by decide) dX10_standing_41 ?_
          refine g_iload_n X dX10_standing_44 rfl rfl ?_
          refine g_iald X kd_128 (by omega) (by omega) dX10_standing_45 ?_
          refine g_aload_n X dX10_standing_46 rfl rfl ?_
          refine g_getr (r := 128) X kd_114 fc9 (k := 31) (by decide) rfl wd_858 rfl (by decide) dX10_standing_47 ?_
          refine g_iload_n X dX10_standing_50 rfl rfl ?_
          refine g_iald X kd_128 (by omega) (by omega) dX10_standing_51 ?_
          refine g_icmp_ne (tgt := 59) X dX10_standing_52 (by decide) ⟨by omega, by omega⟩ ⟨by omega, by omega⟩ (fun q52 => ?_) (fun q52 => ?_)
          · refine g_aload_n X dX10_standing_59 rfl rfl ?_
            refine g_getr (r := 128) X kd_114 fc9 (k := 31) (by decide) rfl wd_858 rfl (by decide) dX10_standing_60 ?_
            refine g_iload_n X dX10_standing_63 rfl rfl ?_
            refine g_iald X kd_128 (by omega) (by omega) dX10_standing_64 ?_
            refine g_aload_n X dX10_standing_65 rfl rfl ?_
            refine g_getr (r := 128) X kd_114 fc9 (k := 31) (by decide) rfl wd_858 rfl (by decide) dX10_standing_66 ?_
            refine g_iload_n X dX10_standing_69 rfl rfl ?_
            refine g_iald X kd_128 (by omega) (by omega) dX10_standing_70 ?_
            refine g_icmp_le (tgt := 78) X dX10_standing_71 (by decide) ⟨by omega, by omega⟩ ⟨by omega, by omega⟩ (fun q71 => ?_) (fun q71 => ?_)
            · refine g_iconst X dX10_standing_78 ?_
              refine g_iadd X dX10_standing_79 ?_
              refine g_istore_n_2 X dX10_standing_80 rfl rfl (fun v2_80 ev2_80 => ?_)
              subst v2_80
              refine g_iinc_3 X dX10_standing_81 rfl (fun v3_81 ev3_81 => ?_)
              subst v3_81
              refine g_goto (tgt := 4) X dX10_standing_84 (by decide) ?_
              exact g_sub (ih_4 _ _ (by omega) (by omega) (by clear X hr hlk hQ ih_4; rw [sm_s _ hj, ← hs]; clear hs; unfold sgn one1; grind) (by omega)) ⟨rfl, rfl, rfl, rfl, trivial⟩
            · refine g_iconst X dX10_standing_74 ?_
              refine g_goto (tgt := 79) X dX10_standing_75 (by decide) ?_
              refine g_iadd X dX10_standing_79 ?_
              refine g_istore_n_2 X dX10_standing_80 rfl rfl (fun v2_80 ev2_80 => ?_)
              subst v2_80
              refine g_iinc_3 X dX10_standing_81 rfl (fun v3_81 ev3_81 => ?_)
              subst v3_81
              refine g_goto (tgt := 4) X dX10_standing_84 (by decide) ?_
              exact g_sub (ih_4 _ _ (by omega) (by omega) (by clear X hr hlk hQ ih_4; rw [sm_s _ hj, ← hs]; clear hs; unfold sgn one1; grind) (by omega)) ⟨rfl, rfl, rfl, rfl, trivial⟩
          · refine g_iconst X dX10_standing_55 ?_
            refine g_goto (tgt := 79) X dX10_standing_56 (by decide) ?_
            refine g_iadd X dX10_standing_79 ?_
            refine g_istore_n_2 X dX10_standing_80 rfl rfl (fun v2_80 ev2_80 => ?_)
            subst v2_80
            refine g_iinc_3 X dX10_standing_81 rfl (fun v3_81 ev3_81 => ?_)
            subst v3_81
            refine g_goto (tgt := 4) X dX10_standing_84 (by decide) ?_
            exact g_sub (ih_4 _ _ (by omega) (by omega) (by clear X hr hlk hQ ih_4; rw [sm_s _ hj, ← hs]; clear hs; unfold sgn one1; grind) (by omega)) ⟨rfl, rfl, rfl, rfl, trivial⟩
  exact g_sub (L_4 _ _ _ (by omega) (by omega) (rfl) (Nat.lt_succ_self _)) ⟨rfl, rfl, rfl, rfl, trivial⟩
set_option maxRecDepth 100000 in
set_option maxHeartbeats 4000000 in
theorem c_X10_statNow (lL : Launch) (tT : TT) (dD : va_G) (al : Int → Nat) (M : Mem)  (hL : LK M) : CI lL yX10_statNow cX10_statNow 3 FieldType.int 1 24 tT dD al [.ref (al 114)] M (fun r M' => r = stM M ∧ M' = M) := by
  refine CI.of (own := "RedSkiesModel") (ls0 := [some (.ref (al 114)), none, none]) (by decide +kernel) rfl (Nat.le_of_ble_eq_true rfl) rfl ?_
  intro pP eE sS mI aA bB mM cC X hr hlk
  obtain ⟨Q, hQ⟩ : ∃ Q : State → Prop, Q = MQ bB (QI tT dD al (fun r M' => r = stM M ∧ M' = M)) aA sS 0 0 (fA al) := ⟨_, rfl⟩
  rw [← hQ]
  have w0 := hL.1
  refine g_iconst X dX10_statNow_0 ?_
  refine g_istore_n_1 X dX10_statNow_1 rfl rfl (fun v1_1 ev1_1 => ?_)
  subst v1_1
  refine g_iconst X dX10_statNow_2 ?_
  refine g_istore_n_2 X dX10_statNow_3 rfl rfl (fun v2_3 ev2_3 => ?_)
  subst v2_3
  have L_4 : ∀ (n : Nat) (sum : Int) (i : Int), (0 ≤ i) → (i ≤ M 114 29) → (sum = sm (fun i => if one1 i = 1 ∧ M 129 i = 1 then agM M i else 0) i.toNat) → (16 - i).toNat < n → Gd pP lL eE (rmN 1 24) sS mI aA bB mM cC 0 0 Q tT dD al (fA al) 4 [some (.ref (al 114)), some (.int (iN sum)), some (.int (iN i))] [] M := by
    intro n
    induction n with
    | zero => intro sum i hi hi2 hs hm; exact absurd hm (Nat.not_lt_zero _)
    | succ n ih =>
      intro sum i hi hi2 hs hm
      have ih_4 := ih
      clear ih
      refine g_iload_n X dX10_statNow_4 rfl rfl ?_
      refine g_aload_n X dX10_statNow_5 rfl rfl ?_
      refine g_geti (kz := 29) X kd_114 fc9 (k := 29) (by decide) rfl wd_856 rfl dX10_statNow_6 ?_
      refine g_icmp_ge (tgt := 39) X dX10_statNow_9 (by decide) ⟨by omega, by omega⟩ ⟨by omega, by omega⟩ (fun q9 => ?_) (fun q9 => ?_)
      · refine g_iload_n X dX10_statNow_39 rfl rfl ?_
        rw [hQ]
        refine g_iret X hr hlk dX10_statNow_40 ?_
        obtain rfl : i = M 114 29 := by omega
        exact ⟨hs, rfl⟩
      · have w2 := hL.2 i hi (by omega)
        refine g_iload_n X dX10_statNow_12 rfl rfl ?_
        refine g_aload_n X dX10_statNow_13 rfl rfl ?_
        refine g_getr (r := 129) X kd_114 fc9 (k := 32) (by decide) rfl wd_859 rfl (by decide) dX10_statNow_14 ?_
        refine g_iload_n X dX10_statNow_17 rfl rfl ?_
        refine g_zald X kd_129 (by omega) (by omega) dX10_statNow_18 ?_
        refine g_if_eq (tgt := 30) X dX10_statNow_19 (by decide) ⟨by omega, by omega⟩ (fun q19 => ?_) (fun q19 => ?_)
        · refine g_iconst X dX10_statNow_30 ?_
          refine g_iadd X dX10_statNow_31 ?_
          refine g_istore_n_1 X dX10_statNow_32 rfl rfl (fun v1_32 ev1_32 => ?_)
          subst v1_32
          refine g_iinc_2 X dX10_statNow_33 rfl (fun v2_33 ev2_33 => ?_)
          subst v2_33
          refine g_goto (tgt := 4) X dX10_statNow_36 (by decide) ?_
          exact g_sub (ih_4 _ _ (by omega) (by omega) (by clear X hr hlk hQ ih_4; rw [sm_s _ hi, ← hs]; clear hs; unfold one1; grind) (by omega)) ⟨rfl, rfl, rfl, trivial⟩
        · refine g_aload_n X dX10_statNow_22 rfl rfl ?_
          refine g_iload_n X dX10_statNow_23 rfl rfl ?_
          refine g_callVI X (c_X10_standing lL tT dD al _ _ hL hi (by omega)) kd_114 fc9 lk_RX10_259 rfl rfl ⟨by decide, by decide⟩ rfl (Nat.le_of_ble_eq_true rfl) dX10_statNow_24 (fun r24 M24 hc24 => ?_)
          obtain ⟨hr24, hm24⟩ := hc24
          subst r24
          subst M24
          refine g_goto (tgt := 31) X dX10_statNow_27 (by decide) ?_
          refine g_iadd X dX10_statNow_31 ?_
          refine g_istore_n_1 X dX10_statNow_32 rfl rfl (fun v1_32 ev1_32 => ?_)
          subst v1_32
          refine g_iinc_2 X dX10_statNow_33 rfl (fun v2_33 ev2_33 => ?_)
          subst v2_33
          refine g_goto (tgt := 4) X dX10_statNow_36 (by decide) ?_
          exact g_sub (ih_4 _ _ (by omega) (by omega) (by clear X hr hlk hQ ih_4; rw [sm_s _ hi, ← hs]; clear hs; unfold one1; grind) (by omega)) ⟨rfl, rfl, rfl, trivial⟩
  exact g_sub (L_4 _ _ _ (by omega) (by omega) (rfl) (Nat.lt_succ_self _)) ⟨rfl, rfl, rfl, trivial⟩
set_option maxRecDepth 100000 in
set_option maxHeartbeats 4000000 in
theorem c_X10_look (lL : Launch) (tT : TT) (dD : va_G) (al : Int → Nat) (M : Mem) (m w but : Int) (hW : WV M) (hm0 : 0 ≤ m) (hm1 : m < M 114 15) (hw : 0 ≤ w ∧ w ≤ 9) (hbut : i32 but) : CV lL yX10_look cX10_look 5 4 93 tT dD al [.ref (al 114), .int (iN m), .int (iN w), .int (iN but)] M (fun M' => SM M M' ∧ LkU M M' m w but (M 114 23)) := by
  refine CV.of (own := "RedSkiesModel") (ls0 := [some (.ref (al 114)), some (.int (iN m)), some (.int (iN w)), some (.int (iN but)), none]) (by decide +kernel) rfl (Nat.le_of_ble_eq_true rfl) rfl ?_
  intro pP eE sS mI aA bB mM cC X hr hlk
  obtain ⟨Q, hQ⟩ : ∃ Q : State → Prop, Q = MQ bB (QV tT dD al (fun M' => SM M M' ∧ LkU M M' m w but (M 114 23))) aA sS 0 0 (fA al) := ⟨_, rfl⟩
  rw [← hQ]
  have w1 := hW.n
  have w3 := hW.mea
  have s29 : scrM 114 29 := by unfold scrM; omega
  have s127 : ∀ k, scrM 127 k := fun k => by unfold scrM; omega
  have s128 : ∀ k, scrM 128 k := fun k => by unfold scrM; omega
  have s129 : ∀ k, scrM 129 k := fun k => by unfold scrM; omega
  have s130 : ∀ k, scrM 130 k := fun k => by unfold scrM; omega
  refine g_aload_n X dX10_look_0 rfl rfl ?_
  refine g_iconst X dX10_look_1 ?_
  refine g_puti (kz := 29) X kd_114 fc9 (k := 29) (by decide) rfl wd_856 rfl rfl rfl dX10_look_2 ?_
  refine g_iconst X dX10_look_5 ?_
  refine g_istore_4 X dX10_look_6 rfl (fun v4_6 ev4_6 => ?_)
  subst v4_6
  have L_8 : ∀ (n : Nat) (k : Int) (M1 : Mem), (0 ≤ k) → (k ≤ M 114 23) → (SM M M1) → (LkU M M1 m w but k) → (16 - k).toNat < n → Gd pP lL eE (rmN 4 93) sS mI aA bB mM cC 0 0 Q tT dD al (fA al) 8 [some (.ref (al 114)), some (.int (iN m)), some (.int (iN w)), some (.int (iN but)), some (.int (iN k))] [] M1 := by
    intro n
    induction n with
    | zero => intro k M1 hk hk2 hS hU hm; exact absurd hm (Nat.not_lt_zero _)
    | succ n ih =>
      intro k M1 hk hk2 hS hU hm
      have r23 := hS.fld (k := 23) (by omega)
      have r15 := hS.fld (k := 15) (by omega)
      have r124 := hS.row (o := 124) (by omega)
      have r1 : M1 124 (6 * k) = M 124 (6 * k) := by rw [r124]
      have r2 : M1 124 (6 * k + 1) = M 124 (6 * k + 1) := by rw [r124]
      have hlk0 := hU.2.1.1
      have hU1 := hU.1
      have hcn := cnL_rng M but k.toNat
      have ih_8 := ih
      clear ih
      refine g_iload X dX10_look_8 rfl ?_
      refine g_aload_n X dX10_look_10 rfl rfl ?_
      refine g_geti (kz := 23) X kd_114 fc9 (k := 23) (by decide) rfl wd_850 rfl dX10_look_11 ?_
      refine g_icmp_ge (tgt := 112) X dX10_look_14 (by decide) ⟨by omega, by omega⟩ ⟨by omega, by omega⟩ (fun q14 => ?_) (fun q14 => ?_)
      · rw [hQ]
        refine g_vret X hr hlk dX10_look_112 ?_
        obtain rfl : k = M 114 23 := by omega
        exact ⟨hS, hU⟩
      · refine g_aload_n X dX10_look_17 rfl rfl ?_
        refine g_iload X dX10_look_18 rfl ?_
        refine g_callVI X (c_X10_isCounted lL tT dD al _ _ (hS.WV hW) hk (by omega)) kd_114 fc9 lk_RX10_228 rfl rfl ⟨by decide, by decide⟩ rfl (Nat.le_of_ble_eq_true rfl) dX10_look_20 (fun r20 M20 hc20 => ?_)
        obtain ⟨hr20, hm20⟩ := hc20
        subst r20
        subst M20
        refine g_if_eq (tgt := 106) X dX10_look_23 (by decide) (b2i_i32 _) (fun q23 => ?_) (fun q23 => ?_)
        · have q23 := b2i_f q23
          refine g_iinc_4 X dX10_look_106 rfl (fun v4_106 ev4_106 => ?_)
          subst v4_106
          refine g_goto (tgt := 8) X dX10_look_109 (by decide) ?_
          exact g_sub (ih_8 _ _ (by omega) (by omega) (by first | exact hS | exact ((((hS.mu _ (s127 _)).mu _ (s128 _)).mu _ (s129 _)).mu _ (s130 _)).mu _ s29) (by first | exact LkU_skip hk hU (by unfold mbL; rw [if_neg (by omega)]) | exact LkU_take hk (by omega) hU (by unfold mbL; rw [if_pos (by omega)]) rfl (by omega) rfl (by omega) rfl) (by omega)) ⟨rfl, rfl, rfl, rfl, rfl, trivial⟩
        · have q23 := b2i_t q23
          refine g_iload X dX10_look_26 rfl ?_
          refine g_iload_n X dX10_look_28 rfl rfl ?_
          refine g_icmp_eq (tgt := 106) X dX10_look_29 (by decide) ⟨by omega, by omega⟩ ⟨by omega, by omega⟩ (fun q29 => ?_) (fun q29 => ?_)
          · refine g_iinc_4 X dX10_look_106 rfl (fun v4_106 ev4_106 => ?_)
            subst v4_106
            refine g_goto (tgt := 8) X dX10_look_109 (by decide) ?_
            exact g_sub (ih_8 _ _ (by omega) (by omega) (by first | exact hS | exact ((((hS.mu _ (s127 _)).mu _ (s128 _)).mu _ (s129 _)).mu _ (s130 _)).mu _ s29) (by first | exact LkU_skip hk hU (by unfold mbL; rw [if_neg (by omega)]) | exact LkU_take hk (by omega) hU (by unfold mbL; rw [if_pos (by omega)]) rfl (by omega) rfl (by omega) rfl) (by omega)) ⟨rfl, rfl, rfl, rfl, rfl, trivial⟩
          · have w4 := hW.row hk (by omega)
            have w5 := vlu_rng hW (p := k) hm0 (by omega)
            refine g_aload_n X dX10_look_32 rfl rfl ?_
            refine g_getr (r := 127) X kd_114 fc9 (k := 30) (by decide) rfl wd_857 rfl (by decide) dX10_look_33 ?_
            refine g_aload_n X dX10_look_36 rfl rfl ?_
            refine g_geti (kz := 29) X kd_114 fc9 (k := 29) (by decide) rfl wd_856 rfl dX10_look_37 ?_
            refine g_aload_n X dX10_look_40 rfl rfl ?_
            refine g_getr (r := 124) X kd_114 fc9 (k := 24) (by decide) rfl wd_851 rfl (by decide) dX10_look_41 ?_
            refine g_bipush X dX10_look_44 (by decide +kernel) ?_
            refine g_iload X dX10_look_46 rfl ?_
            refine g_imul X dX10_look_48 ?_
            refine g_iconst X dX10_look_49 ?_
            refine g_iadd X dX10_look_50 ?_
            refine g_iald X kd_124 (by omega) (by omega) dX10_look_51 ?_
            refine g_teq (b := M 124 (6 * k + 1)) (by exact r2) ?_
            refine g_iast X kd_127 (by omega) (by omega) dX10_look_52 ?_
            refine g_aload_n X dX10_look_53 rfl rfl ?_
            refine g_getr (r := 128) X kd_114 fc9 (k := 31) (by decide) rfl wd_858 rfl (by decide) dX10_look_54 ?_
            refine g_aload_n X dX10_look_57 rfl rfl ?_
            refine g_geti (kz := 29) X kd_114 fc9 (k := 29) (by decide) rfl wd_856 rfl dX10_look_58 ?_
            refine g_teq (b := (M1 114 29)) (by first | (simp [mu]; done) | (simp only [mu]; repeat (first | rw [if_pos (⟨rfl, rfl⟩)] | rw [if_neg (by omega)]))) ?_
            refine g_aload_n X dX10_look_61 rfl rfl ?_
            have hSx : SM M (mu M1 127 (M1 114 29) (M 124 (6 * k + 1))) := hS.mu _ (s127 _)
            have hSx23 := hSx.fld (k := 23) (by omega)
            have hSx15 := hSx.fld (k := 15) (by omega)
            refine g_iload_n X dX10_look_62 rfl rfl ?_
            refine g_iload X dX10_look_63 rfl ?_
            refine g_callVI X (c_X10_valueOf lL tT dD al _ _ _ (hSx.WV hW) hm0 (by omega) hk (by omega)) kd_114 fc9 lk_RX10_218 rfl rfl ⟨by decide, by decide⟩ rfl (Nat.le_of_ble_eq_true rfl) dX10_look_65 (fun r65 M65 hc65 => ?_)
            obtain ⟨hr65, hm65⟩ := hc65
            subst r65
            subst M65
            refine g_teq (b := vlu M m k) (by rw [hSx.e_vlu]) ?_
            refine g_iast X kd_128 (by omega) (by omega) dX10_look_68 ?_
            refine g_aload_n X dX10_look_69 rfl rfl ?_
            refine g_getr (r := 129) X kd_114 fc9 (k := 32) (by decide) rfl wd_859 rfl (by decide) dX10_look_70 ?_
            refine g_aload_n X dX10_look_73 rfl rfl ?_
            refine g_geti (kz := 29) X kd_114 fc9 (k := 29) (by decide) rfl wd_856 rfl dX10_look_74 ?_
            refine g_teq (b := (M1 114 29)) (by first | (simp [mu]; done) | (simp only [mu]; repeat (first | rw [if_pos (⟨rfl, rfl⟩)] | rw [if_neg (by omega)]))) ?_
            refine g_aload_n X dX10_look_77 rfl rfl ?_
            have hSy : SM M (mu (mu M1 127 (M1 114 29) (M 124 (6 * k + 1))) 128 (M1 114 29) (vlu M m k)) := hSx.mu _ (s128 _)
            have hSy23 := hSy.fld (k := 23) (by omega)
            refine g_iload X dX10_look_78 rfl ?_
            refine g_iload_n X dX10_look_80 rfl rfl ?_
            refine g_callVI X (c_X10_isNearPicture lL tT dD al _ _ _ (hSy.WV hW) hk (by omega) hw) kd_114 fc9 lk_RX10_231 rfl rfl ⟨by decide, by decide⟩ rfl (Nat.le_of_ble_eq_true rfl) dX10_look_81 (fun r81 M81 hc81 => ?_)
            obtain ⟨hr81, hm81⟩ := hc81
            subst r81
            subst M81
            refine g_teq (b := b2i (nrS M (M 124 (6 * k)) (M 124 (6 * k + 2)) w)) (by rw [hSy.e_nrS, hSy.row (o := 124) (by omega)]) ?_
            refine g_zast X kd_129 (by omega) (by omega) (b2i_01 _) dX10_look_84 ?_
            refine g_aload_n X dX10_look_85 rfl rfl ?_
            refine g_getr (r := 130) X kd_114 fc9 (k := 33) (by decide) rfl wd_860 rfl (by decide) dX10_look_86 ?_
            refine g_aload_n X dX10_look_89 rfl rfl ?_
            refine g_geti (kz := 29) X kd_114 fc9 (k := 29) (by decide) rfl wd_856 rfl dX10_look_90 ?_
            refine g_teq (b := (M1 114 29)) (by first | (simp [mu]; done) | (simp only [mu]; repeat (first | rw [if_pos (⟨rfl, rfl⟩)] | rw [if_neg (by omega)]))) ?_
            refine g_iload X dX10_look_93 rfl ?_
            refine g_iast X kd_130 (by omega) (by omega) dX10_look_95 ?_
            refine g_aload_n X dX10_look_96 rfl rfl ?_
            refine g_dup X dX10_look_97 rfl ?_
            refine g_geti (kz := 29) X kd_114 fc9 (k := 29) (by decide) rfl wd_856 rfl dX10_look_98 ?_
            refine g_teq (b := (M1 114 29)) (by first | (simp [mu]; done) | (simp only [mu]; repeat (first | rw [if_pos (⟨rfl, rfl⟩)] | rw [if_neg (by omega)]))) ?_
            refine g_iconst X dX10_look_101 ?_
            refine g_iadd X dX10_look_102 ?_
            refine g_puti (kz := 29) X kd_114 fc9 (k := 29) (by decide) rfl wd_856 rfl rfl rfl dX10_look_103 ?_
            refine g_iinc_4 X dX10_look_106 rfl (fun v4_106 ev4_106 => ?_)
            subst v4_106
            refine g_goto (tgt := 8) X dX10_look_109 (by decide) ?_
            exact g_sub (ih_8 _ _ (by omega) (by omega) (by first | exact hS | exact ((((hS.mu _ (s127 _)).mu _ (s128 _)).mu _ (s129 _)).mu _ (s130 _)).mu _ s29) (by first | exact LkU_skip hk hU (by unfold mbL; rw [if_neg (by omega)]) | exact LkU_take hk (by omega) hU (by unfold mbL; rw [if_pos (by omega)]) rfl (by omega) rfl (by omega) rfl) (by omega)) ⟨rfl, rfl, rfl, rfl, rfl, trivial⟩
  exact g_sub (L_8 _ _ _ (by omega) (by omega) ((SM.rfl' M).mu _ s29) (⟨by simp [mu]; rfl, ⟨by simp [mu], fun i a b => by simp [mu] at b; omega⟩, fun p a b => by omega⟩) (Nat.lt_succ_self _)) ⟨rfl, rfl, rfl, rfl, rfl, trivial⟩
