set_option maxRecDepth 100000 in
set_option maxHeartbeats 4000000 in
theorem c_X9_stat (lL : Launch) (tT : TT) (dD : va_G) (al : Int → Nat) (M : Mem) (m w : Int) (hV : IV M) (im : i32 m) (iw : i32 w) : CI lL yX9_stat cX9_stat 3 FieldType.int 4 97 tT dD al [.ref (al 0), .int (iN m), .int (iN w)] M (fun r M' => r = (if 0 ≤ m ∧ m < M 114 15 then (if 0 ≤ w ∧ w ≤ 9 then stV M m w (-1) else -1002) else -1001) ∧ XS M M') := by
  refine CI.of (own := "RedSkies") (ls0 := [some (.ref (al 0)), some (.int (iN m)), some (.int (iN w))]) (by decide +kernel) rfl (Nat.le_of_ble_eq_true rfl) rfl ?_
  intro pP eE sS mI aA bB mM cC X hr hlk
  obtain ⟨Q, hQ⟩ : ∃ Q : State → Prop, Q = MQ bB (QI tT dD al (fun r M' => r = (if 0 ≤ m ∧ m < M 114 15 then (if 0 ≤ w ∧ w ≤ 9 then stV M m w (-1) else -1002) else -1001) ∧ XS M M')) aA sS 0 0 (fA al) := ⟨_, rfl⟩
  rw [← hQ]
  have hW := hV.w
  have w2 := hW.n
  have n1 := hV.hn
  have w3 := hW.mea
  have w4 := hW.pig
  have w5 := hW.lam
  have w6 := hW.law
  have k1 := hV.la
  have k2 := hV.pi
  have k3 := hV.me
  have k4 := hV.lw
  refine g_aload_n X dX9_stat_0 rfl rfl ?_
  refine g_iload_n X dX9_stat_1 rfl rfl ?_
  refine g_callVI X (c_X9_isMeasure lL tT dD al _ _ ⟨by omega, by omega⟩ ⟨by omega, by omega⟩) kd_0 fc8 lk_RX9_160 rfl rfl ⟨by decide, by decide⟩ rfl (Nat.le_of_ble_eq_true rfl) dX9_stat_2 (fun r2 M2 hc2 => ?_)
  obtain ⟨hr2, hm2⟩ := hc2
  subst r2
  subst M2
  refine g_if_ne (tgt := 12) X dX9_stat_5 (by decide) (b2i_i32 _) (fun q5 => ?_) (fun q5 => ?_)
  · have q5 := b2i_t q5
    refine g_iload_n X dX9_stat_12 rfl rfl ?_
    refine g_bipush X dX9_stat_13 (by decide +kernel) ?_
    refine g_callSI X (c_X9_isWithin lL tT dD al _ _ _ ⟨by omega, by omega⟩ (by decide)) lk_RX9_126 rfl rfl ⟨by decide, by decide⟩ rfl (Nat.le_of_ble_eq_true rfl) dX9_stat_15 (fun r15 M15 hc15 => ?_)
    obtain ⟨hr15, hm15⟩ := hc15
    subst r15
    subst M15
    refine g_if_ne (tgt := 25) X dX9_stat_18 (by decide) (b2i_i32 _) (fun q18 => ?_) (fun q18 => ?_)
    · have q18 := b2i_t q18
      refine g_aload_n X dX9_stat_25 rfl rfl ?_
      refine g_iload_n X dX9_stat_26 rfl rfl ?_
      refine g_callVV X (c_X9_layOut lL tT dD al _ _ hV (by omega) (by omega)) kd_0 fc8 lk_RX9_186 rfl rfl ⟨by decide, by decide⟩ rfl (Nat.le_of_ble_eq_true rfl) dX9_stat_27 (fun M27 hc27 => ?_)
      have hV1 := hc27.1.iv hV
      have hP1 := hc27.pf1 hW (by omega) (by omega) w
      have es := congrFun (congrFun (congrFun hc27.1.eq.e_stV m) w) (-1)
      have eu := congrFun (congrFun (congrFun hc27.1.eq.e_upV m) w) (-1)
      have el := congrFun (congrFun (congrFun hc27.1.eq.e_lowV m) w) (-1)
      refine g_aload_n X dX9_stat_30 rfl rfl ?_
      refine g_getr (r := 100) X kd_0 fc8 (k := 11) (by decide) rfl wd_314 rfl (by decide) dX9_stat_31 ?_
      refine g_aload_n X dX9_stat_34 rfl rfl ?_
      refine g_getr (r := 24) X kd_0 fc8 (k := 9) (by decide) rfl wd_312 rfl (by decide) dX9_stat_35 ?_
      refine g_callVI X (c_X8_counted lL tT dD al _  hV1) kd_24 fc7 lk_RX9_190 rfl rfl ⟨by decide, by decide⟩ rfl (Nat.le_of_ble_eq_true rfl) dX9_stat_38 (fun r38 M38 hc38 => ?_)
      obtain ⟨hr38, hm38⟩ := hc38
      subst r38
      subst M38
      refine g_aload_n X dX9_stat_41 rfl rfl ?_
      refine g_getr (r := 24) X kd_0 fc8 (k := 9) (by decide) rfl wd_312 rfl (by decide) dX9_stat_42 ?_
      refine g_iload_n X dX9_stat_45 rfl rfl ?_
      refine g_callVI X (c_X8_nearOnes lL tT dD al _ _ hV1 (by omega)) kd_24 fc7 lk_RX9_194 rfl rfl ⟨by decide, by decide⟩ rfl (Nat.le_of_ble_eq_true rfl) dX9_stat_46 (fun r46 M46 hc46 => ?_)
      obtain ⟨hr46, hm46⟩ := hc46
      subst r46
      subst M46
      refine g_callVI X (c_X0_pairs lL tT dD al _ _ _ hP1.1) kd_100 fc0 lk_RX9_198 rfl rfl ⟨by decide, by decide⟩ rfl (Nat.le_of_ble_eq_true rfl) dX9_stat_49 (fun r49 M49 hc49 => ?_)
      obtain ⟨hr49, hm49⟩ := hc49
      subst r49
      subst M49
      refine g_teq (b := stV M m w (-1)) (by exact hP1.st.trans es) ?_
      rw [hQ]
      refine g_iret X hr hlk dX9_stat_52 ?_
      first | exact ⟨by rw [if_neg (by omega)], by exact XS.rf M⟩ | exact ⟨by rw [if_pos (by omega), if_neg (by omega)], by exact XS.rf M⟩ | exact ⟨by rw [if_pos (by omega), if_pos (by omega)], by exact hc27.1⟩
    · have q18 := b2i_f q18
      refine g_sipush X dX9_stat_21 (by decide +kernel) ?_
      rw [hQ]
      refine g_iret X hr hlk dX9_stat_24 ?_
      first | exact ⟨by rw [if_neg (by omega)], by exact XS.rf M⟩ | exact ⟨by rw [if_pos (by omega), if_neg (by omega)], by exact XS.rf M⟩ | exact ⟨by rw [if_pos (by omega), if_pos (by omega)], by exact hc27.1⟩
  · have q5 := b2i_f q5
    refine g_sipush X dX9_stat_8 (by decide +kernel) ?_
    rw [hQ]
    refine g_iret X hr hlk dX9_stat_11 ?_
    first | exact ⟨by rw [if_neg (by omega)], by exact XS.rf M⟩ | exact ⟨by rw [if_pos (by omega), if_neg (by omega)], by exact XS.rf M⟩ | exact ⟨by rw [if_pos (by omega), if_pos (by omega)], by exact hc27.1⟩
set_option maxRecDepth 100000 in
set_option maxHeartbeats 4000000 in
theorem c_X9_odds (lL : Launch) (tT : TT) (dD : va_G) (al : Int → Nat) (M : Mem) (m w z : Int) (hV : IV M) (im : i32 m) (iw : i32 w) (iz : i32 z) : CJ lL yX9_odds cX9_odds 4 4 97 tT dD al [.ref (al 0), .int (iN m), .int (iN w), .int (iN z)] M (fun r M' => r = (if 0 ≤ m ∧ m < M 114 15 then (if (0 ≤ w ∧ w ≤ 9) ∧ (0 ≤ z ∧ z ≤ 1) then trmS (upV M m w (-1)) (lowV M m w (-1)) z else -102) else -101) ∧ XS M M') := by
  refine CJ.of (own := "RedSkies") (ls0 := [some (.ref (al 0)), some (.int (iN m)), some (.int (iN w)), some (.int (iN z))]) (by decide +kernel) rfl (Nat.le_of_ble_eq_true rfl) rfl ?_
  intro pP eE sS mI aA bB mM cC X hr hlk
  obtain ⟨Q, hQ⟩ : ∃ Q : State → Prop, Q = MQ bB (QJ tT dD al (fun r M' => r = (if 0 ≤ m ∧ m < M 114 15 then (if (0 ≤ w ∧ w ≤ 9) ∧ (0 ≤ z ∧ z ≤ 1) then trmS (upV M m w (-1)) (lowV M m w (-1)) z else -102) else -101) ∧ XS M M')) aA sS 0 0 (fA al) := ⟨_, rfl⟩
  rw [← hQ]
  have hW := hV.w
  have w2 := hW.n
  have n1 := hV.hn
  have w3 := hW.mea
  have w4 := hW.pig
  have w5 := hW.lam
  have w6 := hW.law
  have k1 := hV.la
  have k2 := hV.pi
  have k3 := hV.me
  have k4 := hV.lw
  refine g_aload_n X dX9_odds_0 rfl rfl ?_
  refine g_iload_n X dX9_odds_1 rfl rfl ?_
  refine g_callVI X (c_X9_isMeasure lL tT dD al _ _ ⟨by omega, by omega⟩ ⟨by omega, by omega⟩) kd_0 fc8 lk_RX9_160 rfl rfl ⟨by decide, by decide⟩ rfl (Nat.le_of_ble_eq_true rfl) dX9_odds_2 (fun r2 M2 hc2 => ?_)
  obtain ⟨hr2, hm2⟩ := hc2
  subst r2
  subst M2
  refine g_if_ne (tgt := 12) X dX9_odds_5 (by decide) (b2i_i32 _) (fun q5 => ?_) (fun q5 => ?_)
  · have q5 := b2i_t q5
    refine g_iload_n X dX9_odds_12 rfl rfl ?_
    refine g_bipush X dX9_odds_13 (by decide +kernel) ?_
    refine g_callSI X (c_X9_isWithin lL tT dD al _ _ _ ⟨by omega, by omega⟩ (by decide)) lk_RX9_126 rfl rfl ⟨by decide, by decide⟩ rfl (Nat.le_of_ble_eq_true rfl) dX9_odds_15 (fun r15 M15 hc15 => ?_)
    obtain ⟨hr15, hm15⟩ := hc15
    subst r15
    subst M15
    refine g_if_eq (tgt := 29) X dX9_odds_18 (by decide) (b2i_i32 _) (fun q18 => ?_) (fun q18 => ?_)
    · have q18 := b2i_f q18
      refine g_ldc2 X (n := (-102)) wd_646 (by decide +kernel) dX9_odds_29 ?_
      rw [hQ]
      refine g_lret X hr hlk dX9_odds_32 ?_
      first | exact ⟨by rw [if_neg (by omega)], by exact XS.rf M⟩ | exact ⟨by rw [if_pos (by omega), if_neg (by omega)], by exact XS.rf M⟩ | exact ⟨by rw [if_pos (by omega), if_pos (by omega)], by exact hc35.1.tr hc57.1.xs⟩
    · have q18 := b2i_t q18
      refine g_iload_n X dX9_odds_21 rfl rfl ?_
      refine g_iconst X dX9_odds_22 ?_
      refine g_callSI X (c_X9_isWithin lL tT dD al _ _ _ ⟨by omega, by omega⟩ (by decide)) lk_RX9_126 rfl rfl ⟨by decide, by decide⟩ rfl (Nat.le_of_ble_eq_true rfl) dX9_odds_23 (fun r23 M23 hc23 => ?_)
      obtain ⟨hr23, hm23⟩ := hc23
      subst r23
      subst M23
      refine g_if_ne (tgt := 33) X dX9_odds_26 (by decide) (b2i_i32 _) (fun q26 => ?_) (fun q26 => ?_)
      · have q26 := b2i_t q26
        refine g_aload_n X dX9_odds_33 rfl rfl ?_
        refine g_iload_n X dX9_odds_34 rfl rfl ?_
        refine g_callVV X (c_X9_layOut lL tT dD al _ _ hV (by omega) (by omega)) kd_0 fc8 lk_RX9_186 rfl rfl ⟨by decide, by decide⟩ rfl (Nat.le_of_ble_eq_true rfl) dX9_odds_35 (fun M35 hc35 => ?_)
        have hV1 := hc35.1.iv hV
        have hP1 := hc35.pf1 hW (by omega) (by omega) w
        have es := congrFun (congrFun (congrFun hc35.1.eq.e_stV m) w) (-1)
        have eu := congrFun (congrFun (congrFun hc35.1.eq.e_upV m) w) (-1)
        have el := congrFun (congrFun (congrFun hc35.1.eq.e_lowV m) w) (-1)
        refine g_aload_n X dX9_odds_38 rfl rfl ?_
        refine g_getr (r := 100) X kd_0 fc8 (k := 11) (by decide) rfl wd_314 rfl (by decide) dX9_odds_39 ?_
        refine g_aload_n X dX9_odds_42 rfl rfl ?_
        refine g_getr (r := 24) X kd_0 fc8 (k := 9) (by decide) rfl wd_312 rfl (by decide) dX9_odds_43 ?_
        refine g_callVI X (c_X8_counted lL tT dD al _  hV1) kd_24 fc7 lk_RX9_190 rfl rfl ⟨by decide, by decide⟩ rfl (Nat.le_of_ble_eq_true rfl) dX9_odds_46 (fun r46 M46 hc46 => ?_)
        obtain ⟨hr46, hm46⟩ := hc46
        subst r46
        subst M46
        refine g_aload_n X dX9_odds_49 rfl rfl ?_
        refine g_getr (r := 24) X kd_0 fc8 (k := 9) (by decide) rfl wd_312 rfl (by decide) dX9_odds_50 ?_
        refine g_iload_n X dX9_odds_53 rfl rfl ?_
        refine g_callVI X (c_X8_nearOnes lL tT dD al _ _ hV1 (by omega)) kd_24 fc7 lk_RX9_194 rfl rfl ⟨by decide, by decide⟩ rfl (Nat.le_of_ble_eq_true rfl) dX9_odds_54 (fun r54 M54 hc54 => ?_)
        obtain ⟨hr54, hm54⟩ := hc54
        subst r54
        subst M54
        refine g_callVV X (c_X0_deal lL tT dD al _ _ _ hP1.1) kd_100 fc0 lk_RX9_205 rfl rfl ⟨by decide, by decide⟩ rfl (Nat.le_of_ble_eq_true rfl) dX9_odds_57 (fun M57 hc57 => ?_)
        have ur := up_le M35 (cntB M35 (M35 114 23).toNat) (nrB M35 w (M35 114 23).toNat)
        have up := upT_pos hP1.1
        rw [hP1.up, eu] at ur up
        rw [hP1.low, el] at ur
        refine g_aload_n X dX9_odds_60 rfl rfl ?_
        refine g_getr (r := 100) X kd_0 fc8 (k := 11) (by decide) rfl wd_314 rfl (by decide) dX9_odds_61 ?_
        refine g_getl (kz := 3) X kd_100 fc0 (k := 3) (by decide) rfl wd_264 rfl dX9_odds_64 ?_
        refine g_teql (b := upV M m w (-1)) (by exact hc57.2.2.1.trans (hP1.up.trans eu)) ?_
        refine g_aload_n X dX9_odds_67 rfl rfl ?_
        refine g_getr (r := 100) X kd_0 fc8 (k := 11) (by decide) rfl wd_314 rfl (by decide) dX9_odds_68 ?_
        refine g_getl (kz := 4) X kd_100 fc0 (k := 4) (by decide) rfl wd_266 rfl dX9_odds_71 ?_
        refine g_teql (b := lowV M m w (-1)) (by exact hc57.2.2.2.trans (hP1.low.trans el)) ?_
        refine g_iload_n X dX9_odds_74 rfl rfl ?_
        refine g_callSJ X (c_X9_inLowestTerms lL tT dD al _ _ _ _ (by omega) (by omega) iz) lk_RX9_215 rfl rfl ⟨by decide, by decide⟩ rfl (Nat.le_of_ble_eq_true rfl) dX9_odds_75 (fun r75 M75 hc75 => ?_)
        obtain ⟨hr75, hm75⟩ := hc75
        subst r75
        subst M75
        rw [hQ]
        refine g_lret X hr hlk dX9_odds_78 ?_
        first | exact ⟨by rw [if_neg (by omega)], by exact XS.rf M⟩ | exact ⟨by rw [if_pos (by omega), if_neg (by omega)], by exact XS.rf M⟩ | exact ⟨by rw [if_pos (by omega), if_pos (by omega)], by exact hc35.1.tr hc57.1.xs⟩
      · have q26 := b2i_f q26
        refine g_ldc2 X (n := (-102)) wd_646 (by decide +kernel) dX9_odds_29 ?_
        rw [hQ]
        refine g_lret X hr hlk dX9_odds_32 ?_
        first | exact ⟨by rw [if_neg (by omega)], by exact XS.rf M⟩ | exact ⟨by rw [if_pos (by omega), if_neg (by omega)], by exact XS.rf M⟩ | exact ⟨by rw [if_pos (by omega), if_pos (by omega)], by exact hc35.1.tr hc57.1.xs⟩
  · have q5 := b2i_f q5
    refine g_ldc2 X (n := (-101)) wd_645 (by decide +kernel) dX9_odds_8 ?_
    rw [hQ]
    refine g_lret X hr hlk dX9_odds_11 ?_
    first | exact ⟨by rw [if_neg (by omega)], by exact XS.rf M⟩ | exact ⟨by rw [if_pos (by omega), if_neg (by omega)], by exact XS.rf M⟩ | exact ⟨by rw [if_pos (by omega), if_pos (by omega)], by exact hc35.1.tr hc57.1.xs⟩
set_option maxRecDepth 100000 in
set_option maxHeartbeats 4000000 in
theorem c_X9_refusalToLook (lL : Launch) (tT : TT) (dD : va_G) (al : Int → Nat) (M : Mem) (m w : Int) (hV : IV M) (hD : ID M) (hN : WDone M) (im : i32 m) (iw : i32 w) : CI lL yX9_refusalToLook cX9_refusalToLook 3 FieldType.int 1 21 tT dD al [.ref (al 0), .int (iN m), .int (iN w)] M (fun r M' => r = (if 0 ≤ m ∧ m < M 114 15 then (if 0 ≤ w ∧ w ≤ 9 then (if M 114 39 = 30 then -103 else 0) else -102) else -101) ∧ M' = M) := by
  refine CI.of (own := "RedSkies") (ls0 := [some (.ref (al 0)), some (.int (iN m)), some (.int (iN w))]) (by decide +kernel) rfl (Nat.le_of_ble_eq_true rfl) rfl ?_
  intro pP eE sS mI aA bB mM cC X hr hlk
  obtain ⟨Q, hQ⟩ : ∃ Q : State → Prop, Q = MQ bB (QI tT dD al (fun r M' => r = (if 0 ≤ m ∧ m < M 114 15 then (if 0 ≤ w ∧ w ≤ 9 then (if M 114 39 = 30 then -103 else 0) else -102) else -101) ∧ M' = M)) aA sS 0 0 (fA al) := ⟨_, rfl⟩
  rw [← hQ]
  have hW := hV.w
  have w2 := hW.n
  have n1 := hV.hn
  have w3 := hW.mea
  have w4 := hW.pig
  have w5 := hW.lam
  have w6 := hW.law
  have k1 := hV.la
  have k2 := hV.pi
  have k3 := hV.me
  have k4 := hV.lw
  have d1 : M 0 16 = M 114 39 := hD
  have d2 : 0 ≤ M 114 39 ∧ M 114 39 ≤ 30 := hN
  refine g_aload_n X dX9_refusalToLook_0 rfl rfl ?_
  refine g_iload_n X dX9_refusalToLook_1 rfl rfl ?_
  refine g_callVI X (c_X9_isMeasure lL tT dD al _ _ ⟨by omega, by omega⟩ ⟨by omega, by omega⟩) kd_0 fc8 lk_RX9_160 rfl rfl ⟨by decide, by decide⟩ rfl (Nat.le_of_ble_eq_true rfl) dX9_refusalToLook_2 (fun r2 M2 hc2 => ?_)
  obtain ⟨hr2, hm2⟩ := hc2
  subst r2
  subst M2
  refine g_if_ne (tgt := 11) X dX9_refusalToLook_5 (by decide) (b2i_i32 _) (fun q5 => ?_) (fun q5 => ?_)
  · have q5 := b2i_t q5
    refine g_iload_n X dX9_refusalToLook_11 rfl rfl ?_
    refine g_bipush X dX9_refusalToLook_12 (by decide +kernel) ?_
    refine g_callSI X (c_X9_isWithin lL tT dD al _ _ _ ⟨by omega, by omega⟩ (by decide)) lk_RX9_126 rfl rfl ⟨by decide, by decide⟩ rfl (Nat.le_of_ble_eq_true rfl) dX9_refusalToLook_14 (fun r14 M14 hc14 => ?_)
    obtain ⟨hr14, hm14⟩ := hc14
    subst r14
    subst M14
    refine g_if_ne (tgt := 23) X dX9_refusalToLook_17 (by decide) (b2i_i32 _) (fun q17 => ?_) (fun q17 => ?_)
    · have q17 := b2i_t q17
      refine g_aload_n X dX9_refusalToLook_23 rfl rfl ?_
      refine g_geti (kz := 16) X kd_0 fc8 (k := 16) (by decide) rfl wd_319 rfl dX9_refusalToLook_24 ?_
      refine g_bipush X dX9_refusalToLook_27 (by decide +kernel) ?_
      refine g_icmp_lt (tgt := 37) X dX9_refusalToLook_29 (by decide) ⟨by omega, by omega⟩ (by decide) (fun q29 => ?_) (fun q29 => ?_)
      · refine g_iconst X dX9_refusalToLook_37 ?_
        rw [hQ]
        refine g_iret X hr hlk dX9_refusalToLook_38 ?_
        first | exact ⟨by rw [if_neg (by omega)], rfl⟩ | exact ⟨by rw [if_pos (by omega), if_neg (by omega)], rfl⟩ | exact ⟨by rw [if_pos (by omega), if_pos (by omega), if_pos (by omega)], rfl⟩ | exact ⟨by rw [if_pos (by omega), if_pos (by omega), if_neg (by omega)], rfl⟩
      · refine g_bipush X dX9_refusalToLook_32 (by decide +kernel) ?_
        refine g_goto (tgt := 38) X dX9_refusalToLook_34 (by decide) ?_
        rw [hQ]
        refine g_iret X hr hlk dX9_refusalToLook_38 ?_
        first | exact ⟨by rw [if_neg (by omega)], rfl⟩ | exact ⟨by rw [if_pos (by omega), if_neg (by omega)], rfl⟩ | exact ⟨by rw [if_pos (by omega), if_pos (by omega), if_pos (by omega)], rfl⟩ | exact ⟨by rw [if_pos (by omega), if_pos (by omega), if_neg (by omega)], rfl⟩
    · have q17 := b2i_f q17
      refine g_bipush X dX9_refusalToLook_20 (by decide +kernel) ?_
      rw [hQ]
      refine g_iret X hr hlk dX9_refusalToLook_22 ?_
      first | exact ⟨by rw [if_neg (by omega)], rfl⟩ | exact ⟨by rw [if_pos (by omega), if_neg (by omega)], rfl⟩ | exact ⟨by rw [if_pos (by omega), if_pos (by omega), if_pos (by omega)], rfl⟩ | exact ⟨by rw [if_pos (by omega), if_pos (by omega), if_neg (by omega)], rfl⟩
  · have q5 := b2i_f q5
    refine g_bipush X dX9_refusalToLook_8 (by decide +kernel) ?_
    rw [hQ]
    refine g_iret X hr hlk dX9_refusalToLook_10 ?_
    first | exact ⟨by rw [if_neg (by omega)], rfl⟩ | exact ⟨by rw [if_pos (by omega), if_neg (by omega)], rfl⟩ | exact ⟨by rw [if_pos (by omega), if_pos (by omega), if_pos (by omega)], rfl⟩ | exact ⟨by rw [if_pos (by omega), if_pos (by omega), if_neg (by omega)], rfl⟩
set_option maxRecDepth 100000 in
set_option maxHeartbeats 4000000 in
theorem c_X9_hangs (lL : Launch) (tT : TT) (dD : va_G) (al : Int → Nat) (M : Mem) (m w : Int) (hV : IV M) (hD : ID M) (hN : WDone M) (im : i32 m) (iw : i32 w) : CI lL yX9_hangs cX9_hangs 4 FieldType.int 5 124 tT dD al [.ref (al 0), .int (iN m), .int (iN w)] M (fun r M' => r = (if 0 ≤ m ∧ m < M 114 15 then (if 0 ≤ w ∧ w ≤ 9 then (if M 114 39 = 30 then -103 else (hgS M m w (M 114 23).toNat).1) else -102) else -101) ∧ (if (0 ≤ m ∧ m < M 114 15) ∧ (0 ≤ w ∧ w ≤ 9) ∧ M 114 39 ≠ 30 then XS (mu M 0 16 (M 0 16 + 1)) M' else M' = M)) := by
  refine CI.of (own := "RedSkies") (ls0 := [some (.ref (al 0)), some (.int (iN m)), some (.int (iN w)), none]) (by decide +kernel) rfl (Nat.le_of_ble_eq_true rfl) rfl ?_
  intro pP eE sS mI aA bB mM cC X hr hlk
  obtain ⟨Q, hQ⟩ : ∃ Q : State → Prop, Q = MQ bB (QI tT dD al (fun r M' => r = (if 0 ≤ m ∧ m < M 114 15 then (if 0 ≤ w ∧ w ≤ 9 then (if M 114 39 = 30 then -103 else (hgS M m w (M 114 23).toNat).1) else -102) else -101) ∧ (if (0 ≤ m ∧ m < M 114 15) ∧ (0 ≤ w ∧ w ≤ 9) ∧ M 114 39 ≠ 30 then XS (mu M 0 16 (M 0 16 + 1)) M' else M' = M))) aA sS 0 0 (fA al) := ⟨_, rfl⟩
  rw [← hQ]
  have hW := hV.w
  have w2 := hW.n
  have n1 := hV.hn
  have w3 := hW.mea
  have w4 := hW.pig
  have w5 := hW.lam
  have w6 := hW.law
  have k1 := hV.la
  have k2 := hV.pi
  have k3 := hV.me
  have k4 := hV.lw
  have d1 : M 0 16 = M 114 39 := hD
  have d2 : 0 ≤ M 114 39 ∧ M 114 39 ≤ 30 := hN
  refine g_aload_n X dX9_hangs_0 rfl rfl ?_
  refine g_iload_n X dX9_hangs_1 rfl rfl ?_
  refine g_iload_n X dX9_hangs_2 rfl rfl ?_
  refine g_callVI X (c_X9_refusalToLook lL tT dD al _ _ _ hV hD hN im iw) kd_0 fc8 lk_RX9_233 rfl rfl ⟨by decide, by decide⟩ rfl (Nat.le_of_ble_eq_true rfl) dX9_hangs_3 (fun r3 M3 hc3 => ?_)
  obtain ⟨hr3, hm3⟩ := hc3
  subst r3
  subst M3
  refine g_istore_n_3 X dX9_hangs_6 rfl rfl (fun v3_6 ev3_6 => ?_)
  subst v3_6
  refine g_iload_n X dX9_hangs_7 rfl rfl ?_
  refine g_if_eq (tgt := 13) X dX9_hangs_8 (by decide) ⟨by omega, by omega⟩ (fun q8 => ?_) (fun q8 => ?_)
  · refine g_aload_n X dX9_hangs_13 rfl rfl ?_
    refine g_dup X dX9_hangs_14 rfl ?_
    refine g_geti (kz := 16) X kd_0 fc8 (k := 16) (by decide) rfl wd_319 rfl dX9_hangs_15 ?_
    refine g_iconst X dX9_hangs_18 ?_
    refine g_iadd X dX9_hangs_19 ?_
    refine g_puti (kz := 16) X kd_0 fc8 (k := 16) (by decide) rfl wd_319 rfl rfl rfl dX9_hangs_20 ?_
    have hK : K6 M (mu M 0 16 (M 0 16 + 1)) := K6.of M _
    have hOK : (0 ≤ m ∧ m < M 114 15) ∧ (0 ≤ w ∧ w ≤ 9) ∧ M 114 39 ≠ 30 := by grind
    refine g_aload_n X dX9_hangs_23 rfl rfl ?_
    refine g_iload_n X dX9_hangs_24 rfl rfl ?_
    refine g_callVV X (c_X9_layOut lL tT dD al _ _ (hK.iv hV) (by omega) (by rw [hK.row (o := 114) (by omega)]; omega)) kd_0 fc8 lk_RX9_186 rfl rfl ⟨by decide, by decide⟩ rfl (Nat.le_of_ble_eq_true rfl) dX9_hangs_25 (fun M25 hc25 => ?_)
    have hV1 := hc25.1.iv (hK.iv hV)
    have hLe : EQ M M25 := hK.eq.tr hc25.1.eq
    have hP1 := hc25.pf1 (hK.eq.WV hW) (by omega) (by rw [hK.row (o := 114) (by omega)]; omega) w
    refine g_aload_n X dX9_hangs_28 rfl rfl ?_
    refine g_getr (r := 100) X kd_0 fc8 (k := 11) (by decide) rfl wd_314 rfl (by decide) dX9_hangs_29 ?_
    refine g_aload_n X dX9_hangs_32 rfl rfl ?_
    refine g_getr (r := 24) X kd_0 fc8 (k := 9) (by decide) rfl wd_312 rfl (by decide) dX9_hangs_33 ?_
    refine g_callVI X (c_X8_counted lL tT dD al _  hV1) kd_24 fc7 lk_RX9_190 rfl rfl ⟨by decide, by decide⟩ rfl (Nat.le_of_ble_eq_true rfl) dX9_hangs_36 (fun r36 M36 hc36 => ?_)
    obtain ⟨hr36, hm36⟩ := hc36
    subst r36
    subst M36
    refine g_aload_n X dX9_hangs_39 rfl rfl ?_
    refine g_getr (r := 24) X kd_0 fc8 (k := 9) (by decide) rfl wd_312 rfl (by decide) dX9_hangs_40 ?_
    refine g_iload_n X dX9_hangs_43 rfl rfl ?_
    refine g_callVI X (c_X8_nearOnes lL tT dD al _ _ hV1 (by omega)) kd_24 fc7 lk_RX9_194 rfl rfl ⟨by decide, by decide⟩ rfl (Nat.le_of_ble_eq_true rfl) dX9_hangs_44 (fun r44 M44 hc44 => ?_)
    obtain ⟨hr44, hm44⟩ := hc44
    subst r44
    subst M44
    refine g_callVI X (c_X0_heaviest lL tT dD al _ _ _ hP1.1) kd_100 fc0 lk_RX9_239 rfl rfl ⟨by decide, by decide⟩ rfl (Nat.le_of_ble_eq_true rfl) dX9_hangs_47 (fun r47 M47 hc47 => ?_)
    obtain ⟨hr47, hc47⟩ := hc47
    subst r47
    refine g_teq (b := (hgS M m w (M 114 23).toNat).1) (by exact (congrArg Prod.fst (hg_16 hP1)).trans (by rw [hLe.e_hgS m w, hLe 114 (by omega)])) ?_
    rw [hQ]
    refine g_iret X hr hlk dX9_hangs_50 ?_
    refine ⟨by rw [if_pos hOK.1, if_pos hOK.2.1, if_neg hOK.2.2], ?_⟩
    rw [if_pos hOK]; exact hc25.1.tr hc47.xs
  · refine g_iload_n X dX9_hangs_11 rfl rfl ?_
    rw [hQ]
    refine g_iret X hr hlk dX9_hangs_12 ?_
    clear X hr hlk hQ
    have hNO : ¬ ((0 ≤ m ∧ m < M 114 15) ∧ (0 ≤ w ∧ w ≤ 9) ∧ M 114 39 ≠ 30) := by grind
    refine ⟨by grind, ?_⟩
    rw [if_neg hNO]
set_option maxRecDepth 100000 in
set_option maxHeartbeats 4000000 in
theorem c_X9_next (lL : Launch) (tT : TT) (dD : va_G) (al : Int → Nat) (M : Mem) (m w : Int) (hV : IV M) (hD : ID M) (hN : WDone M) (im : i32 m) (iw : i32 w) : CI lL yX9_next cX9_next 4 FieldType.int 6 148 tT dD al [.ref (al 0), .int (iN m), .int (iN w)] M (fun r M' => r = (if 0 ≤ m ∧ m < M 114 15 then (if 0 ≤ w ∧ w ≤ 9 then (if M 114 39 = 30 then -103 else (nvV M m w).1) else -102) else -101) ∧ (if (0 ≤ m ∧ m < M 114 15) ∧ (0 ≤ w ∧ w ≤ 9) ∧ M 114 39 ≠ 30 then XS (mu M 0 16 (M 0 16 + 1)) M' else M' = M)) := by
  refine CI.of (own := "RedSkies") (ls0 := [some (.ref (al 0)), some (.int (iN m)), some (.int (iN w)), none]) (by decide +kernel) rfl (Nat.le_of_ble_eq_true rfl) rfl ?_
  intro pP eE sS mI aA bB mM cC X hr hlk
  obtain ⟨Q, hQ⟩ : ∃ Q : State → Prop, Q = MQ bB (QI tT dD al (fun r M' => r = (if 0 ≤ m ∧ m < M 114 15 then (if 0 ≤ w ∧ w ≤ 9 then (if M 114 39 = 30 then -103 else (nvV M m w).1) else -102) else -101) ∧ (if (0 ≤ m ∧ m < M 114 15) ∧ (0 ≤ w ∧ w ≤ 9) ∧ M 114 39 ≠ 30 then XS (mu M 0 16 (M 0 16 + 1)) M' else M' = M))) aA sS 0 0 (fA al) := ⟨_, rfl⟩
  rw [← hQ]
  have hW := hV.w
  have w2 := hW.n
  have n1 := hV.hn
  have w3 := hW.mea
  have w4 := hW.pig
  have w5 := hW.lam
  have w6 := hW.law
  have k1 := hV.la
  have k2 := hV.pi
  have k3 := hV.me
  have k4 := hV.lw
  have d1 : M 0 16 = M 114 39 := hD
  have d2 : 0 ≤ M 114 39 ∧ M 114 39 ≤ 30 := hN
  refine g_aload_n X dX9_next_0 rfl rfl ?_
  refine g_iload_n X dX9_next_1 rfl rfl ?_
  refine g_iload_n X dX9_next_2 rfl rfl ?_
  refine g_callVI X (c_X9_refusalToLook lL tT dD al _ _ _ hV hD hN im iw) kd_0 fc8 lk_RX9_233 rfl rfl ⟨by decide, by decide⟩ rfl (Nat.le_of_ble_eq_true rfl) dX9_next_3 (fun r3 M3 hc3 => ?_)
  obtain ⟨hr3, hm3⟩ := hc3
  subst r3
  subst M3
  refine g_istore_n_3 X dX9_next_6 rfl rfl (fun v3_6 ev3_6 => ?_)
  subst v3_6
  refine g_iload_n X dX9_next_7 rfl rfl ?_
  refine g_if_eq (tgt := 13) X dX9_next_8 (by decide) ⟨by omega, by omega⟩ (fun q8 => ?_) (fun q8 => ?_)
  · refine g_aload_n X dX9_next_13 rfl rfl ?_
    refine g_dup X dX9_next_14 rfl ?_
    refine g_geti (kz := 16) X kd_0 fc8 (k := 16) (by decide) rfl wd_319 rfl dX9_next_15 ?_
    refine g_iconst X dX9_next_18 ?_
    refine g_iadd X dX9_next_19 ?_
    refine g_puti (kz := 16) X kd_0 fc8 (k := 16) (by decide) rfl wd_319 rfl rfl rfl dX9_next_20 ?_
    have hK : K6 M (mu M 0 16 (M 0 16 + 1)) := K6.of M _
    have hOK : (0 ≤ m ∧ m < M 114 15) ∧ (0 ≤ w ∧ w ≤ 9) ∧ M 114 39 ≠ 30 := by grind
    refine g_aload_n X dX9_next_23 rfl rfl ?_
    refine g_iload_n X dX9_next_24 rfl rfl ?_
    refine g_callVV X (c_X9_layOut lL tT dD al _ _ (hK.iv hV) (by omega) (by rw [hK.row (o := 114) (by omega)]; omega)) kd_0 fc8 lk_RX9_186 rfl rfl ⟨by decide, by decide⟩ rfl (Nat.le_of_ble_eq_true rfl) dX9_next_25 (fun M25 hc25 => ?_)
    have hV1 := hc25.1.iv (hK.iv hV)
    have hLe : EQ M M25 := hK.eq.tr hc25.1.eq
    have hP1 := hc25.pf1 (hK.eq.WV hW) (by omega) (by rw [hK.row (o := 114) (by omega)]; omega) w
    refine g_aload_n X dX9_next_28 rfl rfl ?_
    refine g_getr (r := 100) X kd_0 fc8 (k := 11) (by decide) rfl wd_314 rfl (by decide) dX9_next_29 ?_
    refine g_aload_n X dX9_next_32 rfl rfl ?_
    refine g_getr (r := 24) X kd_0 fc8 (k := 9) (by decide) rfl wd_312 rfl (by decide) dX9_next_33 ?_
    refine g_callVI X (c_X8_counted lL tT dD al _  hV1) kd_24 fc7 lk_RX9_190 rfl rfl ⟨by decide, by decide⟩ rfl (Nat.le_of_ble_eq_true rfl) dX9_next_36 (fun r36 M36 hc36 => ?_)
    obtain ⟨hr36, hm36⟩ := hc36
    subst r36
    subst M36
    refine g_aload_n X dX9_next_39 rfl rfl ?_
    refine g_getr (r := 24) X kd_0 fc8 (k := 9) (by decide) rfl wd_312 rfl (by decide) dX9_next_40 ?_
    refine g_iload_n X dX9_next_43 rfl rfl ?_
    refine g_callVI X (c_X8_nearOnes lL tT dD al _ _ hV1 (by omega)) kd_24 fc7 lk_RX9_194 rfl rfl ⟨by decide, by decide⟩ rfl (Nat.le_of_ble_eq_true rfl) dX9_next_44 (fun r44 M44 hc44 => ?_)
    obtain ⟨hr44, hm44⟩ := hc44
    subst r44
    subst M44
    refine g_callVI X (c_X0_mostOpen lL tT dD al _ _ _ hP1.1) kd_100 fc0 lk_RX9_242 rfl rfl ⟨by decide, by decide⟩ rfl (Nat.le_of_ble_eq_true rfl) dX9_next_47 (fun r47 M47 hc47 => ?_)
    obtain ⟨hr47, hc47⟩ := hc47
    subst r47
    refine g_teq (b := (nvV M m w).1) (by exact (congrArg Prod.fst (nv_16 hP1)).trans (by rw [hLe.e_nvV])) ?_
    rw [hQ]
    refine g_iret X hr hlk dX9_next_50 ?_
    refine ⟨by rw [if_pos hOK.1, if_pos hOK.2.1, if_neg hOK.2.2], ?_⟩
    rw [if_pos hOK]; exact hc25.1.tr hc47.xs
  · refine g_iload_n X dX9_next_11 rfl rfl ?_
    rw [hQ]
    refine g_iret X hr hlk dX9_next_12 ?_
    clear X hr hlk hQ
    have hNO : ¬ ((0 ≤ m ∧ m < M 114 15) ∧ (0 ≤ w ∧ w ≤ 9) ∧ M 114 39 ≠ 30) := by grind
    refine ⟨by grind, ?_⟩
    rw [if_neg hNO]
set_option maxRecDepth 100000 in
set_option maxHeartbeats 4000000 in
theorem c_X9_layOut5 (lL : Launch) (tT : TT) (dD : va_G) (al : Int → Nat) (M : Mem) (m : Int) (hV : IV M) (hm0 : 0 ≤ m) (hm1 : m < M 114 15) : CV lL yX9_layOut cX9_layOut 3 3 75 tT dD al [.ref (al 0), .int (iN m)] M (fun M' => LO M M' m (M 114 23) ∧ M' 100 = M 100) := by
  refine CV.of (own := "RedSkies") (ls0 := [some (.ref (al 0)), some (.int (iN m)), none]) (by decide +kernel) rfl (Nat.le_of_ble_eq_true rfl) rfl ?_
  intro pP eE sS mI aA bB mM cC X hr hlk
  obtain ⟨Q, hQ⟩ : ∃ Q : State → Prop, Q = MQ bB (QV tT dD al (fun M' => LO M M' m (M 114 23) ∧ M' 100 = M 100)) aA sS 0 0 (fA al) := ⟨_, rfl⟩
  rw [← hQ]
  have hW := hV.w
  have w2 := hW.n
  have n1 := hV.hn
  refine g_iconst X dX9_layOut_0 ?_
  refine g_istore_n_2 X dX9_layOut_1 rfl rfl (fun v2_1 ev2_1 => ?_)
  subst v2_1
  have L_2 : ∀ (n : Nat) (k : Int) (M1 : Mem), (0 ≤ k) → (k ≤ M 114 23) → (LO M M1 m k) → (M1 100 = M 100) → (16 - k).toNat < n → Gd pP lL eE (rmN 3 75) sS mI aA bB mM cC 0 0 Q tT dD al (fA al) 2 [some (.ref (al 0)), some (.int (iN m)), some (.int (iN k))] [] M1 := by
    intro n
    induction n with
    | zero => intro k M1 hk hk2 hL h100 hm; exact absurd hm (Nat.not_lt_zero _)
    | succ n ih =>
      intro k M1 hk hk2 hL h100 hm
      have hV1 := hL.1.iv hV
      have n2 := hV1.hn
      have e23 : M1 114 23 = M 114 23 := hL.1.eq.fld (by decide)
      have e15 : M1 114 15 = M 114 15 := hL.1.eq.fld (by decide)
      have ih_2 := ih
      clear ih
      refine g_iload_n X dX9_layOut_2 rfl rfl ?_
      refine g_aload_n X dX9_layOut_3 rfl rfl ?_
      refine g_getr (r := 24) X kd_0 fc8 (k := 9) (by decide) rfl wd_312 rfl (by decide) dX9_layOut_4 ?_
      refine g_geti (kz := 5) X kd_24 fc7 (k := 5) (by decide) rfl wd_228 rfl dX9_layOut_7 ?_
      refine g_icmp_ge (tgt := 54) X dX9_layOut_10 (by decide) ⟨by omega, by omega⟩ ⟨by omega, by omega⟩ (fun q10 => ?_) (fun q10 => ?_)
      · rw [hQ]
        refine g_vret X hr hlk dX9_layOut_54 ?_
        obtain rfl : k = M 114 23 := by omega
        exact ⟨hL, h100⟩
      · refine g_aload_n X dX9_layOut_13 rfl rfl ?_
        refine g_getr (r := 100) X kd_0 fc8 (k := 11) (by decide) rfl wd_314 rfl (by decide) dX9_layOut_14 ?_
        refine g_getr (r := 101) X kd_100 fc0 (k := 0) (by decide) rfl wd_258 rfl (by decide) dX9_layOut_17 ?_
        refine g_iload_n X dX9_layOut_20 rfl rfl ?_
        refine g_aload_n X dX9_layOut_21 rfl rfl ?_
        refine g_getr (r := 24) X kd_0 fc8 (k := 9) (by decide) rfl wd_312 rfl (by decide) dX9_layOut_22 ?_
        refine g_getr (r := 25) X kd_24 fc7 (k := 0) (by decide) rfl wd_217 rfl (by decide) dX9_layOut_25 ?_
        refine g_iload_n X dX9_layOut_28 rfl rfl ?_
        have b0_29_17 : 0 ≤ k := by omega
        have b1_29_17 : k < 16 := by omega
        refine g_aald X kd_25 (bz := 26) rfl b0_29_17 b1_29_17 dX9_layOut_29 ?_
        have kr_29_17 := kr_26 b0_29_17 b1_29_17
        refine g_iconst X dX9_layOut_30 ?_
        refine g_iald X kr_29_17 (by decide) (by decide) dX9_layOut_31 ?_
        refine g_iast X kd_101 (by omega) (by omega) dX9_layOut_32 ?_
        refine g_aload_n X dX9_layOut_33 rfl rfl ?_
        refine g_getr (r := 100) X kd_0 fc8 (k := 11) (by decide) rfl wd_314 rfl (by decide) dX9_layOut_34 ?_
        refine g_getr (r := 102) X kd_100 fc0 (k := 1) (by decide) rfl wd_260 rfl (by decide) dX9_layOut_37 ?_
        refine g_iload_n X dX9_layOut_40 rfl rfl ?_
        refine g_aload_n X dX9_layOut_41 rfl rfl ?_
        refine g_iload_n X dX9_layOut_42 rfl rfl ?_
        refine g_iload_n X dX9_layOut_43 rfl rfl ?_
        have hX1 : XS M (mu M1 101 k (M1 (26 + k) 1)) := hL.1.pu _ (by omega)
        have hV2 := hX1.iv hV
        have f23 : (mu M1 101 k (M1 (26 + k) 1)) 114 23 = M 114 23 := hX1.eq.fld (by decide)
        have f15 : (mu M1 101 k (M1 (26 + k) 1)) 114 15 = M 114 15 := hX1.eq.fld (by decide)
        refine g_callVI X (c_X9_valueOf lL tT dD al _ _ _ hV2 hm0 (by omega) hk (by omega)) kd_0 fc8 lk_RX9_163 rfl rfl ⟨by decide, by decide⟩ rfl (Nat.le_of_ble_eq_true rfl) dX9_layOut_44 (fun r44 M44 hc44 => ?_)
        obtain ⟨hr44, hm44⟩ := hc44
        subst r44
        subst M44
        refine g_iast X kd_102 (by omega) (by omega) dX9_layOut_47 ?_
        refine g_iinc_2 X dX9_layOut_48 rfl (fun v2_48 ev2_48 => ?_)
        subst v2_48
        refine g_goto (tgt := 2) X dX9_layOut_51 (by decide) ?_
        exact g_sub (ih_2 _ _ (by omega) (by omega) (hL.go hk (by rw [hV1.fa hk (by omega) (by decide) (by decide), hL.1.eq.row (o := 124) (by omega)]; rfl) (by rw [hX1.eq.e_vlu])) (by rw [mu_o _ _ _ (by omega), mu_o _ _ _ (by omega)]; exact h100) (by omega)) ⟨rfl, rfl, rfl, trivial⟩
  exact g_sub (L_2 _ _ _ (by omega) (by omega) (⟨XS.rf M, fun p a b => by omega⟩) (rfl) (Nat.lt_succ_self _)) ⟨rfl, rfl, rfl, trivial⟩
set_option maxRecDepth 100000 in
set_option maxHeartbeats 4000000 in
theorem c_X9_dealByWindows (lL : Launch) (tT : TT) (dD : va_G) (al : Int → Nat) (M : Mem) (m w : Int) (hV : IV M) (hm0 : 0 ≤ m) (hm1 : m < M 114 15) (hw : 0 ≤ w ∧ w ≤ 9) (r5 : 1 ≤ M 100 5 ∧ M 100 5 ≤ 33619968) (r6 : 1 ≤ M 100 6 ∧ M 100 6 ≤ 33619968) : CV lL yX9_dealByWindows cX9_dealByWindows 7 4 97 tT dD al [.ref (al 0), .int (iN m), .int (iN w)] M (fun M' => XS M M' ∧ pdW M m (M 100 5, M 100 6) (w + 1).toNat = (M' 100 5, M' 100 6) ∧ (1 ≤ M' 100 5 ∧ M' 100 5 ≤ 33619968) ∧ (1 ≤ M' 100 6 ∧ M' 100 6 ≤ 33619968)) := by
  refine CV.of (own := "RedSkies") (ls0 := [some (.ref (al 0)), some (.int (iN m)), some (.int (iN w)), none, none, none, none]) (by decide +kernel) rfl (Nat.le_of_ble_eq_true rfl) rfl ?_
  intro pP eE sS mI aA bB mM cC X hr hlk
  obtain ⟨Q, hQ⟩ : ∃ Q : State → Prop, Q = MQ bB (QV tT dD al (fun M' => XS M M' ∧ pdW M m (M 100 5, M 100 6) (w + 1).toNat = (M' 100 5, M' 100 6) ∧ (1 ≤ M' 100 5 ∧ M' 100 5 ≤ 33619968) ∧ (1 ≤ M' 100 6 ∧ M' 100 6 ≤ 33619968))) aA sS 0 0 (fA al) := ⟨_, rfl⟩
  rw [← hQ]
  have hW := hV.w
  have w2 := hW.n
  have n1 := hV.hn
  have w3 := hW.mea
  have w4 := hW.pig
  have w5 := hW.lam
  have w6 := hW.law
  have k1 := hV.la
  have k2 := hV.pi
  have k3 := hV.me
  have k4 := hV.lw
  obtain ⟨cb, hcb⟩ : ∃ z : Int, z = cntB M (M 114 23).toNat := ⟨_, rfl⟩
  refine g_aload_n X dX9_dealByWindows_0 rfl rfl ?_
  refine g_iload_n X dX9_dealByWindows_1 rfl rfl ?_
  refine g_callVV X (c_X9_layOut5 lL tT dD al _ _ hV hm0 hm1) kd_0 fc8 lk_RX9_186 rfl rfl ⟨by decide, by decide⟩ rfl (Nat.le_of_ble_eq_true rfl) dX9_dealByWindows_2 (fun M2 hc2 => ?_)
  refine g_aload_n X dX9_dealByWindows_5 rfl rfl ?_
  refine g_getr (r := 24) X kd_0 fc8 (k := 9) (by decide) rfl wd_312 rfl (by decide) dX9_dealByWindows_6 ?_
  refine g_callVI X (c_X8_counted lL tT dD al _  (hc2.1.1.iv hV)) kd_24 fc7 lk_RX9_190 rfl rfl ⟨by decide, by decide⟩ rfl (Nat.le_of_ble_eq_true rfl) dX9_dealByWindows_9 (fun r9 M9 hc9 => ?_)
  obtain ⟨hr9, hm9⟩ := hc9
  subst r9
  subst M9
  refine g_teq (b := cb) (by rw [hcb, hc2.1.1.eq.e_cntB, hc2.1.1.eq 114 (by omega)]) ?_
  refine g_istore_n_3 X dX9_dealByWindows_12 rfl rfl (fun v3_12 ev3_12 => ?_)
  subst v3_12
  refine g_iconst X dX9_dealByWindows_13 ?_
  refine g_istore_4 X dX9_dealByWindows_14 rfl (fun v4_14 ev4_14 => ?_)
  subst v4_14
  refine g_iconst X dX9_dealByWindows_16 ?_
  refine g_istore_5 X dX9_dealByWindows_17 rfl (fun v5_17 ev5_17 => ?_)
  subst v5_17
  have L_19 : ∀ (n : Nat) (last : Int) (x : Int) (M1 : Mem), (0 ≤ x) → (x ≤ w + 1) → (LO M M1 m (M 114 23)) → (pdW M m (M 100 5, M 100 6) x.toNat = (M1 100 5, M1 100 6)) → (1 ≤ M1 100 5 ∧ M1 100 5 ≤ 33619968) → (1 ≤ M1 100 6 ∧ M1 100 6 ≤ 33619968) → ((x = 0 ∧ last = -1) ∨ (1 ≤ x ∧ last = nrB M (x - 1) (M 114 23).toNat ∧ ¬ (upV M m (x - 1) (-1) * M1 100 6 < M1 100 5 * lowV M m (x - 1) (-1)))) → (10 - x).toNat < n → Gd pP lL eE (rmN 4 97) sS mI aA bB mM cC 0 0 Q tT dD al (fA al) 19 [some (.ref (al 0)), none, some (.int (iN w)), some (.int (iN (cb))), some (.int (iN last)), some (.int (iN x)), none] [] M1 := by
    intro n
    induction n with
    | zero => intro last x M1 hx hx2 hL hp r5a r6a hl hm; exact absurd hm (Nat.not_lt_zero _)
    | succ n ih =>
      intro last x M1 hx hx2 hL hp r5a r6a hl hm
      have hV1 := hL.1.iv hV
      have ih_19 := ih
      clear ih
      refine g_iload X dX9_dealByWindows_19 rfl ?_
      refine g_iload_n X dX9_dealByWindows_21 rfl rfl ?_
      refine g_icmp_gt (tgt := 70) X dX9_dealByWindows_22 (by decide) ⟨by omega, by omega⟩ ⟨by omega, by omega⟩ (fun q22 => ?_) (fun q22 => ?_)
      · rw [hQ]
        refine g_vret X hr hlk dX9_dealByWindows_70 ?_
        obtain rfl : x = w + 1 := by omega
        exact ⟨hL.1, hp, r5a, r6a⟩
      · refine g_aload_n X dX9_dealByWindows_25 rfl rfl ?_
        refine g_getr (r := 24) X kd_0 fc8 (k := 9) (by decide) rfl wd_312 rfl (by decide) dX9_dealByWindows_26 ?_
        refine g_iload X dX9_dealByWindows_29 rfl ?_
        refine g_callVI X (c_X8_nearOnes lL tT dD al _ _ hV1 ⟨hx, by omega⟩) kd_24 fc7 lk_RX9_194 rfl rfl ⟨by decide, by decide⟩ rfl (Nat.le_of_ble_eq_true rfl) dX9_dealByWindows_31 (fun r31 M31 hc31 => ?_)
        obtain ⟨hr31, hm31⟩ := hc31
        subst r31
        subst M31
        refine g_istore_6 X dX9_dealByWindows_34 rfl (fun v6_34 ev6_34 => ?_)
        subst v6_34
        have hPx := hL.pf1 hW hm0 hm1 x
        have ur := up_le M1 (cntB M1 (M1 114 23).toNat) (nrB M1 x (M1 114 23).toNat)
        have up := upT_pos hPx.1
        have bR := nrB_rng M1 x (n := (M1 114 23).toNat) (by have := hV1.w.n; omega)
        have eN : nrB M1 x (M1 114 23).toNat = nrB M x (M 114 23).toNat := by rw [hL.1.eq.e_nrB, hL.1.eq 114 (by omega)]
        have bL := nrB_rng M (x - 1) (n := (M 114 23).toNat) (by omega)
        refine g_iload X dX9_dealByWindows_36 rfl ?_
        refine g_iload X dX9_dealByWindows_38 rfl ?_
        refine g_icmp_eq (tgt := 64) X dX9_dealByWindows_40 (by decide) ⟨by omega, by omega⟩ ⟨by omega, by omega⟩ (fun q40 => ?_) (fun q40 => ?_)
        · have sk : pdS M m x (M1 100 5, M1 100 6) = (M1 100 5, M1 100 6) ∧ ¬ (upV M m x (-1) * M1 100 6 < M1 100 5 * lowV M m x (-1)) := by
            rcases hl with z | ⟨z1, z2, z3⟩
            · exfalso; omega
            · have e := near_same (x := x) (y := x - 1) hW hm0 hm1 hL (by rw [hL.1.eq.e_nrB, hL.1.eq 114 (by omega)]; omega)
              rw [← e.1, ← e.2] at z3
              exact ⟨by unfold pdS; rw [if_neg z3], z3⟩
          refine g_iinc_5 X dX9_dealByWindows_64 rfl (fun v5_64 ev5_64 => ?_)
          subst v5_64
          refine g_goto (tgt := 19) X dX9_dealByWindows_67 (by decide) ?_
          exact g_sub (ih_19 _ _ _ (by omega) (by omega) (by first | exact kL | exact hL) (by first | (rw [pdW_s M m _ hx, hp]; exact kp.symm) | (rw [pdW_s M m _ hx, hp]; exact sk.1)) (by first | exact k5.1 | exact r5a) (by first | exact k5.2 | exact r6a) (by first | exact Or.inr ⟨by omega, by rw [show x + 1 - 1 = x by omega]; exact eN, by rw [show x + 1 - 1 = x by omega]; exact kn⟩ | exact Or.inr ⟨by omega, by rw [show x + 1 - 1 = x by omega]; omega, by rw [show x + 1 - 1 = x by omega]; exact sk.2⟩) (by omega)) ⟨rfl, rfl, rfl, rfl, rfl, trivial⟩
        · refine g_aload_n X dX9_dealByWindows_43 rfl rfl ?_
          refine g_getr (r := 100) X kd_0 fc8 (k := 11) (by decide) rfl wd_314 rfl (by decide) dX9_dealByWindows_44 ?_
          refine g_iload_n X dX9_dealByWindows_47 rfl rfl ?_
          refine g_teq (b := cntB M1 (M1 114 23).toNat) (by rw [hcb, hL.1.eq.e_cntB, hL.1.eq 114 (by omega)]) ?_
          refine g_iload X dX9_dealByWindows_48 rfl ?_
          refine g_callVV X (c_X0_deal lL tT dD al _ _ _ hPx.1) kd_100 fc0 lk_RX9_205 rfl rfl ⟨by decide, by decide⟩ rfl (Nat.le_of_ble_eq_true rfl) dX9_dealByWindows_50 (fun M50 hc50 => ?_)
          have y5 : M50 100 5 = M1 100 5 := hc50.1 100 5 (by omega)
          have y6 : M50 100 6 = M1 100 6 := hc50.1 100 6 (by omega)
          have y3 := hc50.2.2.1
          have y4 := hc50.2.2.2
          refine g_aload_n X dX9_dealByWindows_53 rfl rfl ?_
          refine g_getr (r := 100) X kd_0 fc8 (k := 11) (by decide) rfl wd_314 rfl (by decide) dX9_dealByWindows_54 ?_
          refine g_callVV X (c_X0_keepLeast lL tT dD al _  (by omega) (by omega) (by omega) (by omega)) kd_100 fc0 lk_RX9_326 rfl rfl ⟨by decide, by decide⟩ rfl (Nat.le_of_ble_eq_true rfl) dX9_dealByWindows_57 (fun M57 hc57 => ?_)
          obtain ⟨kL, kp, ku, kl⟩ := keep_ok (x := x) hW hm0 hm1 hL hc50 hc57
          have kn := pdS_no M m x (M1 100 5, M1 100 6)
          rw [← kp] at kn
          have k5 : (1 ≤ M57 100 5 ∧ M57 100 5 ≤ 33619968) ∧ (1 ≤ M57 100 6 ∧ M57 100 6 ≤ 33619968) := by rw [hc57]; split <;> first | (simp [mu]; omega) | omega
          refine g_iload X dX9_dealByWindows_60 rfl ?_
          refine g_istore_4 X dX9_dealByWindows_62 rfl (fun v4_62 ev4_62 => ?_)
          subst v4_62
          refine g_iinc_5 X dX9_dealByWindows_64 rfl (fun v5_64 ev5_64 => ?_)
          subst v5_64
          refine g_goto (tgt := 19) X dX9_dealByWindows_67 (by decide) ?_
          exact g_sub (ih_19 _ _ _ (by omega) (by omega) (by first | exact kL | exact hL) (by first | (rw [pdW_s M m _ hx, hp]; exact kp.symm) | (rw [pdW_s M m _ hx, hp]; exact sk.1)) (by first | exact k5.1 | exact r5a) (by first | exact k5.2 | exact r6a) (by first | exact Or.inr ⟨by omega, by rw [show x + 1 - 1 = x by omega]; exact eN, by rw [show x + 1 - 1 = x by omega]; exact kn⟩ | exact Or.inr ⟨by omega, by rw [show x + 1 - 1 = x by omega]; omega, by rw [show x + 1 - 1 = x by omega]; exact sk.2⟩) (by omega)) ⟨rfl, rfl, rfl, rfl, rfl, trivial⟩
  exact g_sub (L_19 _ _ _ _ (by omega) (by omega) (hc2.1) (by rw [hc2.2]; rfl) (by rw [hc2.2]; exact r5) (by rw [hc2.2]; exact r6) (Or.inl ⟨rfl, rfl⟩) (Nat.lt_succ_self _)) ⟨rfl, rfl, rfl, rfl, rfl, trivial⟩
set_option maxRecDepth 100000 in
set_option maxHeartbeats 4000000 in
theorem c_X9_paid (lL : Launch) (tT : TT) (dD : va_G) (al : Int → Nat) (M : Mem) (w z : Int) (hV : IV M) (iw : i32 w) (iz : i32 z) : CJ lL yX9_paid cX9_paid 5 5 123 tT dD al [.ref (al 0), .int (iN w), .int (iN z)] M (fun r M' => r = (if (0 ≤ w ∧ w ≤ 9) ∧ (0 ≤ z ∧ z ≤ 1) then (if M 114 15 = 0 then -103 else if (pdM M w (M 114 15).toNat).2 < (pdM M w (M 114 15).toNat).1 * (M 114 15 * (w + 1)) then 1 else trmS ((pdM M w (M 114 15).toNat).1 * (M 114 15 * (w + 1))) (pdM M w (M 114 15).toNat).2 z) else -102) ∧ XS M M') := by
  refine CJ.of (own := "RedSkies") (ls0 := [some (.ref (al 0)), some (.int (iN w)), some (.int (iN z)), none, none]) (by decide +kernel) rfl (Nat.le_of_ble_eq_true rfl) rfl ?_
  intro pP eE sS mI aA bB mM cC X hr hlk
  obtain ⟨Q, hQ⟩ : ∃ Q : State → Prop, Q = MQ bB (QJ tT dD al (fun r M' => r = (if (0 ≤ w ∧ w ≤ 9) ∧ (0 ≤ z ∧ z ≤ 1) then (if M 114 15 = 0 then -103 else if (pdM M w (M 114 15).toNat).2 < (pdM M w (M 114 15).toNat).1 * (M 114 15 * (w + 1)) then 1 else trmS ((pdM M w (M 114 15).toNat).1 * (M 114 15 * (w + 1))) (pdM M w (M 114 15).toNat).2 z) else -102) ∧ XS M M')) aA sS 0 0 (fA al) := ⟨_, rfl⟩
  rw [← hQ]
  have hW := hV.w
  have w2 := hW.n
  have n1 := hV.hn
  have w3 := hW.mea
  have w4 := hW.pig
  have w5 := hW.lam
  have w6 := hW.law
  have k1 := hV.la
  have k2 := hV.pi
  have k3 := hV.me
  have k4 := hV.lw
  refine g_iload_n X dX9_paid_0 rfl rfl ?_
  refine g_bipush X dX9_paid_1 (by decide +kernel) ?_
  refine g_callSI X (c_X9_isWithin lL tT dD al _ _ _ ⟨by omega, by omega⟩ (by decide)) lk_RX9_126 rfl rfl ⟨by decide, by decide⟩ rfl (Nat.le_of_ble_eq_true rfl) dX9_paid_3 (fun r3 M3 hc3 => ?_)
  obtain ⟨hr3, hm3⟩ := hc3
  subst r3
  subst M3
  refine g_if_eq (tgt := 17) X dX9_paid_6 (by decide) (b2i_i32 _) (fun q6 => ?_) (fun q6 => ?_)
  · have q6 := b2i_f q6
    refine g_ldc2 X (n := (-102)) wd_646 (by decide +kernel) dX9_paid_17 ?_
    rw [hQ]
    refine g_lret X hr hlk dX9_paid_20 ?_
    first | exact ⟨by rw [if_neg (by omega)], XS.rf M⟩ | exact ⟨by rw [if_pos (by omega), if_pos (by omega)], XS.rf M⟩
  · have q6 := b2i_t q6
    refine g_iload_n X dX9_paid_9 rfl rfl ?_
    refine g_iconst X dX9_paid_10 ?_
    refine g_callSI X (c_X9_isWithin lL tT dD al _ _ _ ⟨by omega, by omega⟩ (by decide)) lk_RX9_126 rfl rfl ⟨by decide, by decide⟩ rfl (Nat.le_of_ble_eq_true rfl) dX9_paid_11 (fun r11 M11 hc11 => ?_)
    obtain ⟨hr11, hm11⟩ := hc11
    subst r11
    subst M11
    refine g_if_ne (tgt := 21) X dX9_paid_14 (by decide) (b2i_i32 _) (fun q14 => ?_) (fun q14 => ?_)
    · have q14 := b2i_t q14
      refine g_aload_n X dX9_paid_21 rfl rfl ?_
      refine g_geti (kz := 15) X kd_0 fc8 (k := 15) (by decide) rfl wd_318 rfl dX9_paid_22 ?_
      refine g_if_ne (tgt := 32) X dX9_paid_25 (by decide) ⟨by omega, by omega⟩ (fun q25 => ?_) (fun q25 => ?_)
      · refine g_aload_n X dX9_paid_32 rfl rfl ?_
        refine g_getr (r := 100) X kd_0 fc8 (k := 11) (by decide) rfl wd_314 rfl (by decide) dX9_paid_33 ?_
        refine g_callVV X (c_X0_forgetLeast lL tT dD al _  ) kd_100 fc0 lk_RX9_221 rfl rfl ⟨by decide, by decide⟩ rfl (Nat.le_of_ble_eq_true rfl) dX9_paid_36 (fun M36 hc36 => ?_)
        refine g_iconst X dX9_paid_39 ?_
        refine g_istore_n_3 X dX9_paid_40 rfl rfl (fun v3_40 ev3_40 => ?_)
        subst v3_40
        have L_41 : ∀ (n : Nat) (m : Int) (M1 : Mem), (0 ≤ m) → (m ≤ M 114 15) → (XS M M1) → (pdM M w m.toNat = (M1 100 5, M1 100 6)) → (1 ≤ M1 100 5 ∧ M1 100 5 ≤ 33619968) → (1 ≤ M1 100 6 ∧ M1 100 6 ≤ 33619968) → (4 - m).toNat < n → Gd pP lL eE (rmN 5 123) sS mI aA bB mM cC 0 0 Q tT dD al (fA al) 41 [some (.ref (al 0)), some (.int (iN w)), some (.int (iN z)), some (.int (iN m)), none] [] M1 := by
          intro n
          induction n with
          | zero => intro m M1 hm_ hm2 hX hp r5a r6a hm; exact absurd hm (Nat.not_lt_zero _)
          | succ n ih =>
            intro m M1 hm_ hm2 hX hp r5a r6a hm
            have hV1 := hX.iv hV
            have e15 : M1 114 15 = M 114 15 := hX.eq.fld (by decide)
            have f15 : M1 0 15 = M 114 15 := hV1.me.trans e15
            have ih_41 := ih
            clear ih
            refine g_iload_n X dX9_paid_41 rfl rfl ?_
            refine g_aload_n X dX9_paid_42 rfl rfl ?_
            refine g_geti (kz := 15) X kd_0 fc8 (k := 15) (by decide) rfl wd_318 rfl dX9_paid_43 ?_
            refine g_icmp_ge (tgt := 61) X dX9_paid_46 (by decide) ⟨by omega, by omega⟩ ⟨by omega, by omega⟩ (fun q46 => ?_) (fun q46 => ?_)
            · obtain rfl : m = M 114 15 := by omega
              have mk : 1 ≤ M 114 15 * (w + 1) ∧ M 114 15 * (w + 1) ≤ 40 := by rcases (by omega : M 114 15 = 1 ∨ M 114 15 = 2 ∨ M 114 15 = 3 ∨ M 114 15 = 4) with e | e | e | e <;> rw [e] <;> omega
              have ea : M1 100 5 * M1 0 15 * (w + 1) = M1 100 5 * (M 114 15 * (w + 1)) := by rw [f15, Int.mul_assoc]
              have mu3 := mulr (x := M1 100 5) (y := M 114 15 * (w + 1)) (by omega) (by omega)
              have mu4 := Int.mul_le_mul r5a.1 mk.1 (by omega) (by omega)
              refine g_aload_n X dX9_paid_61 rfl rfl ?_
              refine g_getr (r := 100) X kd_0 fc8 (k := 11) (by decide) rfl wd_314 rfl (by decide) dX9_paid_62 ?_
              refine g_getl (kz := 5) X kd_100 fc0 (k := 5) (by decide) rfl wd_268 rfl dX9_paid_65 ?_
              refine g_aload_n X dX9_paid_68 rfl rfl ?_
              refine g_geti (kz := 15) X kd_0 fc8 (k := 15) (by decide) rfl wd_318 rfl dX9_paid_69 ?_
              refine g_i2l X dX9_paid_72 ⟨by omega, by omega⟩ ?_
              refine g_lmul X dX9_paid_73 ?_
              refine g_iload_n X dX9_paid_74 rfl rfl ?_
              refine g_iconst X dX9_paid_75 ?_
              refine g_iadd X dX9_paid_76 ?_
              refine g_i2l X dX9_paid_77 ⟨by omega, by omega⟩ ?_
              refine g_lmul X dX9_paid_78 ?_
              refine g_teql (b := M1 100 5 * (M 114 15 * (w + 1))) (by exact ea) ?_
              refine g_lstore_n_3 X dX9_paid_79 rfl rfl (fun v3_79 ev3_79 => ?_)
              subst v3_79
              refine g_lload_n X dX9_paid_80 rfl rfl ?_
              refine g_aload_n X dX9_paid_81 rfl rfl ?_
              refine g_getr (r := 100) X kd_0 fc8 (k := 11) (by decide) rfl wd_314 rfl (by decide) dX9_paid_82 ?_
              refine g_getl (kz := 6) X kd_100 fc0 (k := 6) (by decide) rfl wd_270 rfl dX9_paid_85 ?_
              refine g_lcmp_lt (tgt := 96) X dX9_paid_88 dX9_paid_89 (by decide) ⟨by omega, by omega⟩ ⟨by omega, by omega⟩ (fun q88 => ?_) (fun q88 => ?_)
              · refine g_lload_n X dX9_paid_96 rfl rfl ?_
                refine g_aload_n X dX9_paid_97 rfl rfl ?_
                refine g_getr (r := 100) X kd_0 fc8 (k := 11) (by decide) rfl wd_314 rfl (by decide) dX9_paid_98 ?_
                refine g_getl (kz := 6) X kd_100 fc0 (k := 6) (by decide) rfl wd_270 rfl dX9_paid_101 ?_
                refine g_iload_n X dX9_paid_104 rfl rfl ?_
                refine g_callSJ X (c_X9_inLowestTerms lL tT dD al _ _ _ _ (by omega) (by omega) iz) lk_RX9_215 rfl rfl ⟨by decide, by decide⟩ rfl (Nat.le_of_ble_eq_true rfl) dX9_paid_105 (fun r105 M105 hc105 => ?_)
                obtain ⟨hr105, hm105⟩ := hc105
                subst r105
                subst M105
                rw [hQ]
                refine g_lret X hr hlk dX9_paid_108 ?_
                have hpp : pdM M w (M 114 15).toNat = (M1 100 5, M1 100 6) := hp
                refine ⟨?_, hX⟩
                rw [if_pos (by omega), if_neg (by omega), hpp]
                show _ = if M1 100 6 < (M1 100 5 * (M 114 15 * (w + 1))) then 1 else trmS (M1 100 5 * (M 114 15 * (w + 1))) (M1 100 6) z
                by_cases zz : M1 100 6 < (M1 100 5 * (M 114 15 * (w + 1)))
                · rw [if_pos zz]; try (exfalso; omega)
                · rw [if_neg zz]; try rw [show M1 100 6 = (M1 100 5 * (M 114 15 * (w + 1))) by omega, trm_same (by omega)]
              · refine g_lconst X (v := 1) dX9_paid_92 (by decide +kernel) ?_
                refine g_goto (tgt := 108) X dX9_paid_93 (by decide) ?_
                rw [hQ]
                refine g_lret X hr hlk dX9_paid_108 ?_
                have hpp : pdM M w (M 114 15).toNat = (M1 100 5, M1 100 6) := hp
                refine ⟨?_, hX⟩
                rw [if_pos (by omega), if_neg (by omega), hpp]
                show _ = if M1 100 6 < (M1 100 5 * (M 114 15 * (w + 1))) then 1 else trmS (M1 100 5 * (M 114 15 * (w + 1))) (M1 100 6) z
                by_cases zz : M1 100 6 < (M1 100 5 * (M 114 15 * (w + 1)))
                · rw [if_pos zz]; try (exfalso; omega)
                · rw [if_neg zz]; try rw [show M1 100 6 = (M1 100 5 * (M 114 15 * (w + 1))) by omega, trm_same (by omega)]
            · refine g_aload_n X dX9_paid_49 rfl rfl ?_
              refine g_iload_n X dX9_paid_50 rfl rfl ?_
              refine g_iload_n X dX9_paid_51 rfl rfl ?_
              refine g_callVV X (c_X9_dealByWindows lL tT dD al _ _ _ hV1 hm_ (by omega) ⟨by omega, by omega⟩ r5a r6a) kd_0 fc8 lk_RX9_224 rfl rfl ⟨by decide, by decide⟩ rfl (Nat.le_of_ble_eq_true rfl) dX9_paid_52 (fun M52 hc52 => ?_)
              have hpd := hc52.2.1
              rw [hX.eq.e_pdW, ← hp] at hpd
              refine g_iinc_3 X dX9_paid_55 rfl (fun v3_55 ev3_55 => ?_)
              subst v3_55
              refine g_goto (tgt := 41) X dX9_paid_58 (by decide) ?_
              exact g_sub (ih_41 _ _ (by omega) (by omega) (hX.tr hc52.1) (by rw [pdM_s M w hm_]; exact hpd) (hc52.2.2.1) (hc52.2.2.2) (by omega)) ⟨rfl, rfl, rfl, rfl, trivial⟩
        exact g_sub (L_41 _ _ _ (by omega) (by omega) (by rw [hc36]; exact ((XS.rf M).pu _ (by omega)).pu _ (by omega)) (by rw [hc36]; simp [mu]; rfl) (by rw [hc36]; simp [mu]) (by rw [hc36]; simp [mu]) (Nat.lt_succ_self _)) ⟨rfl, rfl, rfl, rfl, trivial⟩
      · refine g_ldc2 X (n := (-103)) wd_680 (by decide +kernel) dX9_paid_28 ?_
        rw [hQ]
        refine g_lret X hr hlk dX9_paid_31 ?_
        first | exact ⟨by rw [if_neg (by omega)], XS.rf M⟩ | exact ⟨by rw [if_pos (by omega), if_pos (by omega)], XS.rf M⟩
    · have q14 := b2i_f q14
      refine g_ldc2 X (n := (-102)) wd_646 (by decide +kernel) dX9_paid_17 ?_
      rw [hQ]
      refine g_lret X hr hlk dX9_paid_20 ?_
      first | exact ⟨by rw [if_neg (by omega)], XS.rf M⟩ | exact ⟨by rw [if_pos (by omega), if_pos (by omega)], XS.rf M⟩
