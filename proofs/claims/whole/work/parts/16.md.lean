set_option maxRecDepth 100000 in
set_option maxHeartbeats 4000000 in
theorem c_X10_countOf (lL : Launch) (tT : TT) (dD : va_G) (al : Int → Nat) (M : Mem) (k : Int) (ik : i32 k) : CI lL yX10_countOf cX10_countOf 2 FieldType.int 0 0 tT dD al [.ref (al 114), .int (iN k)] M (fun r M' => r = cntS M k ∧ M' = M) := by
  refine CI.of (own := "RedSkiesModel") (ls0 := [some (.ref (al 114)), some (.int (iN k))]) (by decide +kernel) rfl (Nat.le_of_ble_eq_true rfl) rfl ?_
  intro pP eE sS mI aA bB mM cC X hr hlk
  obtain ⟨Q, hQ⟩ : ∃ Q : State → Prop, Q = MQ bB (QI tT dD al (fun r M' => r = cntS M k ∧ M' = M)) aA sS 0 0 (fA al) := ⟨_, rfl⟩
  rw [← hQ]
  refine g_iload_n X dX10_countOf_0 rfl rfl ?_
  rcases (by omega : (k < 0 ∨ 8 < k) ∨ k = 0 ∨ k = 1 ∨ k = 2 ∨ k = 3 ∨ k = 4 ∨ k = 5 ∨ k = 6 ∨ k = 7 ∨ k = 8) with q1 | q1 | q1 | q1 | q1 | q1 | q1 | q1 | q1 | q1
  · refine g_tsOut (tgt := 97) X dX10_countOf_1 ⟨by omega, by omega⟩ q1 (by decide) ?_
    refine g_bipush X dX10_countOf_97 (by decide +kernel) ?_
    rw [hQ]
    refine g_iret X hr hlk dX10_countOf_99 ?_
    clear X hr hlk hQ
    exact ⟨by unfold cntS; grind, rfl⟩
  · refine g_tsIn (tgt := 52) (off := 51) X dX10_countOf_1 ⟨by omega, by omega⟩ (by omega) (by omega) (by rw [q1]; rfl) (by decide) ?_
    refine g_aload_n X dX10_countOf_52 rfl rfl ?_
    refine g_geti (kz := 13) X kd_114 fc9 (k := 13) (by decide) rfl wd_840 rfl dX10_countOf_53 ?_
    rw [hQ]
    refine g_iret X hr hlk dX10_countOf_56 ?_
    clear X hr hlk hQ
    exact ⟨by unfold cntS; grind, rfl⟩
  · refine g_tsIn (tgt := 57) (off := 56) X dX10_countOf_1 ⟨by omega, by omega⟩ (by omega) (by omega) (by rw [q1]; rfl) (by decide) ?_
    refine g_aload_n X dX10_countOf_57 rfl rfl ?_
    refine g_geti (kz := 20) X kd_114 fc9 (k := 20) (by decide) rfl wd_847 rfl dX10_countOf_58 ?_
    rw [hQ]
    refine g_iret X hr hlk dX10_countOf_61 ?_
    clear X hr hlk hQ
    exact ⟨by unfold cntS; grind, rfl⟩
  · refine g_tsIn (tgt := 62) (off := 61) X dX10_countOf_1 ⟨by omega, by omega⟩ (by omega) (by omega) (by rw [q1]; rfl) (by decide) ?_
    refine g_aload_n X dX10_countOf_62 rfl rfl ?_
    refine g_geti (kz := 23) X kd_114 fc9 (k := 23) (by decide) rfl wd_850 rfl dX10_countOf_63 ?_
    rw [hQ]
    refine g_iret X hr hlk dX10_countOf_66 ?_
    clear X hr hlk hQ
    exact ⟨by unfold cntS; grind, rfl⟩
  · refine g_tsIn (tgt := 67) (off := 66) X dX10_countOf_1 ⟨by omega, by omega⟩ (by omega) (by omega) (by rw [q1]; rfl) (by decide) ?_
    refine g_aload_n X dX10_countOf_67 rfl rfl ?_
    refine g_geti (kz := 15) X kd_114 fc9 (k := 15) (by decide) rfl wd_842 rfl dX10_countOf_68 ?_
    rw [hQ]
    refine g_iret X hr hlk dX10_countOf_71 ?_
    clear X hr hlk hQ
    exact ⟨by unfold cntS; grind, rfl⟩
  · refine g_tsIn (tgt := 72) (off := 71) X dX10_countOf_1 ⟨by omega, by omega⟩ (by omega) (by omega) (by rw [q1]; rfl) (by decide) ?_
    refine g_aload_n X dX10_countOf_72 rfl rfl ?_
    refine g_geti (kz := 26) X kd_114 fc9 (k := 26) (by decide) rfl wd_853 rfl dX10_countOf_73 ?_
    rw [hQ]
    refine g_iret X hr hlk dX10_countOf_76 ?_
    clear X hr hlk hQ
    exact ⟨by unfold cntS; grind, rfl⟩
  · refine g_tsIn (tgt := 77) (off := 76) X dX10_countOf_1 ⟨by omega, by omega⟩ (by omega) (by omega) (by rw [q1]; rfl) (by decide) ?_
    refine g_aload_n X dX10_countOf_77 rfl rfl ?_
    refine g_geti (kz := 17) X kd_114 fc9 (k := 17) (by decide) rfl wd_844 rfl dX10_countOf_78 ?_
    rw [hQ]
    refine g_iret X hr hlk dX10_countOf_81 ?_
    clear X hr hlk hQ
    exact ⟨by unfold cntS; grind, rfl⟩
  · refine g_tsIn (tgt := 82) (off := 81) X dX10_countOf_1 ⟨by omega, by omega⟩ (by omega) (by omega) (by rw [q1]; rfl) (by decide) ?_
    refine g_aload_n X dX10_countOf_82 rfl rfl ?_
    refine g_geti (kz := 40) X kd_114 fc9 (k := 40) (by decide) rfl wd_867 rfl dX10_countOf_83 ?_
    rw [hQ]
    refine g_iret X hr hlk dX10_countOf_86 ?_
    clear X hr hlk hQ
    exact ⟨by unfold cntS; grind, rfl⟩
  · refine g_tsIn (tgt := 87) (off := 86) X dX10_countOf_1 ⟨by omega, by omega⟩ (by omega) (by omega) (by rw [q1]; rfl) (by decide) ?_
    refine g_aload_n X dX10_countOf_87 rfl rfl ?_
    refine g_geti (kz := 1) X kd_114 fc9 (k := 1) (by decide) rfl wd_828 rfl dX10_countOf_88 ?_
    rw [hQ]
    refine g_iret X hr hlk dX10_countOf_91 ?_
    clear X hr hlk hQ
    exact ⟨by unfold cntS; grind, rfl⟩
  · refine g_tsIn (tgt := 92) (off := 91) X dX10_countOf_1 ⟨by omega, by omega⟩ (by omega) (by omega) (by rw [q1]; rfl) (by decide) ?_
    refine g_aload_n X dX10_countOf_92 rfl rfl ?_
    refine g_geti (kz := 39) X kd_114 fc9 (k := 39) (by decide) rfl wd_866 rfl dX10_countOf_93 ?_
    rw [hQ]
    refine g_iret X hr hlk dX10_countOf_96 ?_
    clear X hr hlk hQ
    exact ⟨by unfold cntS; grind, rfl⟩
set_option maxRecDepth 100000 in
set_option maxHeartbeats 4000000 in
theorem c_X10_count (lL : Launch) (tT : TT) (dD : va_G) (al : Int → Nat) (M : Mem) (k : Int) (ik : i32 k) : CI lL yX10_count cX10_count 2 FieldType.int 1 21 tT dD al [.ref (al 114), .int (iN k)] M (fun r M' => r = cntS M k ∧ M' = M) := by
  refine CI.of (own := "RedSkiesModel") (ls0 := [some (.ref (al 114)), some (.int (iN k))]) (by decide +kernel) rfl (Nat.le_of_ble_eq_true rfl) rfl ?_
  intro pP eE sS mI aA bB mM cC X hr hlk
  obtain ⟨Q, hQ⟩ : ∃ Q : State → Prop, Q = MQ bB (QI tT dD al (fun r M' => r = cntS M k ∧ M' = M)) aA sS 0 0 (fA al) := ⟨_, rfl⟩
  rw [← hQ]
  refine g_aload_n X dX10_count_0 rfl rfl ?_
  refine g_iload_n X dX10_count_1 rfl rfl ?_
  refine g_callVI X (c_X10_countOf lL tT dD al _ _ (by first | assumption | omega)) kd_114 fc9 lk_RX10_343 rfl rfl ⟨by decide, by decide⟩ rfl (Nat.le_of_ble_eq_true rfl) dX10_count_2 (fun r2 M2 hc2 => ?_)
  obtain ⟨hr2, hm2⟩ := hc2
  subst r2
  subst M2
  rw [hQ]
  refine g_iret X hr hlk dX10_count_5 ?_
  exact ⟨rfl, rfl⟩
set_option maxRecDepth 100000 in
set_option maxHeartbeats 4000000 in
theorem c_X10_blank (lL : Launch) (tT : TT) (dD : va_G) (al : Int → Nat) (M : Mem)   : CI lL yX10_blank cX10_blank 2 FieldType.int 0 0 tT dD al [.ref (al 114)] M (fun r M' => r = M 114 1 ∧ M' = mu M 114 1 0) := by
  refine CI.of (own := "RedSkiesModel") (ls0 := [some (.ref (al 114)), none]) (by decide +kernel) rfl (Nat.le_of_ble_eq_true rfl) rfl ?_
  intro pP eE sS mI aA bB mM cC X hr hlk
  obtain ⟨Q, hQ⟩ : ∃ Q : State → Prop, Q = MQ bB (QI tT dD al (fun r M' => r = M 114 1 ∧ M' = mu M 114 1 0)) aA sS 0 0 (fA al) := ⟨_, rfl⟩
  rw [← hQ]
  refine g_aload_n X dX10_blank_0 rfl rfl ?_
  refine g_geti (kz := 1) X kd_114 fc9 (k := 1) (by decide) rfl wd_828 rfl dX10_blank_1 ?_
  refine g_istore_n_1 X dX10_blank_4 rfl rfl (fun v1_4 ev1_4 => ?_)
  subst v1_4
  refine g_aload_n X dX10_blank_5 rfl rfl ?_
  refine g_iconst X dX10_blank_6 ?_
  refine g_puti (kz := 1) X kd_114 fc9 (k := 1) (by decide) rfl wd_828 rfl rfl rfl dX10_blank_7 ?_
  refine g_iload_n X dX10_blank_10 rfl rfl ?_
  rw [hQ]
  refine g_iret X hr hlk dX10_blank_11 ?_
  exact ⟨rfl, rfl⟩
set_option maxRecDepth 100000 in
set_option maxHeartbeats 4000000 in
theorem c_X10_classes (lL : Launch) (tT : TT) (dD : va_G) (al : Int → Nat) (M : Mem) (m q z : Int) (hW : WV M) (im : i32 m) (iq : i32 q) (iz : i32 z) : CI lL yX10_classes cX10_classes 4 FieldType.int 5 115 tT dD al [.ref (al 114), .int (iN m), .int (iN q), .int (iN z)] M (fun r M' => r = (if (0 ≤ m ∧ m < M 114 15) ∧ (0 ≤ q ∧ q < M 114 23) then (if 0 ≤ z ∧ z ≤ 1 then (if M 114 17 = 0 then -103 else if z = 0 then lowS M m q else highS M m q) else -102) else -101) ∧ M' = M) := by
  refine CI.of (own := "RedSkiesModel") (ls0 := [some (.ref (al 114)), some (.int (iN m)), some (.int (iN q)), some (.int (iN z))]) (by decide +kernel) rfl (Nat.le_of_ble_eq_true rfl) rfl ?_
  intro pP eE sS mI aA bB mM cC X hr hlk
  obtain ⟨Q, hQ⟩ : ∃ Q : State → Prop, Q = MQ bB (QI tT dD al (fun r M' => r = (if (0 ≤ m ∧ m < M 114 15) ∧ (0 ≤ q ∧ q < M 114 23) then (if 0 ≤ z ∧ z ≤ 1 then (if M 114 17 = 0 then -103 else if z = 0 then lowS M m q else highS M m q) else -102) else -101) ∧ M' = M)) aA sS 0 0 (fA al) := ⟨_, rfl⟩
  rw [← hQ]
  have w1 := hW.mea
  have w2 := hW.n
  have w3 := hW.law
  refine g_aload_n X dX10_classes_0 rfl rfl ?_
  refine g_iload_n X dX10_classes_1 rfl rfl ?_
  refine g_callVI X (c_X10_isMeasure lL tT dD al _ _ im ⟨by omega, by omega⟩) kd_114 fc9 lk_RX10_215 rfl rfl ⟨by decide, by decide⟩ rfl (Nat.le_of_ble_eq_true rfl) dX10_classes_2 (fun r2 M2 hc2 => ?_)
  obtain ⟨hr2, hm2⟩ := hc2
  subst r2
  subst M2
  refine g_if_eq (tgt := 16) X dX10_classes_5 (by decide) (b2i_i32 _) (fun q5 => ?_) (fun q5 => ?_)
  · have q5 := b2i_f q5
    refine g_bipush X dX10_classes_16 (by decide +kernel) ?_
    rw [hQ]
    refine g_iret X hr hlk dX10_classes_18 ?_
    clear X hr hlk hQ
    exact ⟨by grind, rfl⟩
  · have q5 := b2i_t q5
    refine g_aload_n X dX10_classes_8 rfl rfl ?_
    refine g_iload_n X dX10_classes_9 rfl rfl ?_
    refine g_callVI X (c_X10_isPicture lL tT dD al _ _ iq ⟨by omega, by omega⟩) kd_114 fc9 lk_RX10_191 rfl rfl ⟨by decide, by decide⟩ rfl (Nat.le_of_ble_eq_true rfl) dX10_classes_10 (fun r10 M10 hc10 => ?_)
    obtain ⟨hr10, hm10⟩ := hc10
    subst r10
    subst M10
    refine g_if_ne (tgt := 19) X dX10_classes_13 (by decide) (b2i_i32 _) (fun q13 => ?_) (fun q13 => ?_)
    · have q13 := b2i_t q13
      refine g_iload_n X dX10_classes_19 rfl rfl ?_
      refine g_callSI X (c_X10_isPart lL tT dD al _ _ iz) lk_RX10_288 rfl rfl ⟨by decide, by decide⟩ rfl (Nat.le_of_ble_eq_true rfl) dX10_classes_20 (fun r20 M20 hc20 => ?_)
      obtain ⟨hr20, hm20⟩ := hc20
      subst r20
      subst M20
      refine g_if_ne (tgt := 29) X dX10_classes_23 (by decide) (b2i_i32 _) (fun q23 => ?_) (fun q23 => ?_)
      · have q23 := b2i_t q23
        refine g_aload_n X dX10_classes_29 rfl rfl ?_
        refine g_geti (kz := 17) X kd_114 fc9 (k := 17) (by decide) rfl wd_844 rfl dX10_classes_30 ?_
        refine g_if_ne (tgt := 41) X dX10_classes_33 (by decide) ⟨by omega, by omega⟩ (fun q33 => ?_) (fun q33 => ?_)
        · refine g_iload_n X dX10_classes_41 rfl rfl ?_
          refine g_if_ne (tgt := 54) X dX10_classes_42 (by decide) ⟨by omega, by omega⟩ (fun q42 => ?_) (fun q42 => ?_)
          · refine g_aload_n X dX10_classes_54 rfl rfl ?_
            refine g_iload_n X dX10_classes_55 rfl rfl ?_
            refine g_iload_n X dX10_classes_56 rfl rfl ?_
            refine g_callVI X (c_X10_highClass lL tT dD al _ _ _ hW (by omega) (by omega) (by omega) (by omega)) kd_114 fc9 lk_RX10_315 rfl rfl ⟨by decide, by decide⟩ rfl (Nat.le_of_ble_eq_true rfl) dX10_classes_57 (fun r57 M57 hc57 => ?_)
            obtain ⟨hr57, hm57⟩ := hc57
            subst r57
            subst M57
            rw [hQ]
            refine g_iret X hr hlk dX10_classes_60 ?_
            clear X hr hlk hQ
            exact ⟨by grind, rfl⟩
          · refine g_aload_n X dX10_classes_45 rfl rfl ?_
            refine g_iload_n X dX10_classes_46 rfl rfl ?_
            refine g_iload_n X dX10_classes_47 rfl rfl ?_
            refine g_callVI X (c_X10_lowClass lL tT dD al _ _ _ hW (by omega) (by omega) (by omega) (by omega)) kd_114 fc9 lk_RX10_312 rfl rfl ⟨by decide, by decide⟩ rfl (Nat.le_of_ble_eq_true rfl) dX10_classes_48 (fun r48 M48 hc48 => ?_)
            obtain ⟨hr48, hm48⟩ := hc48
            subst r48
            subst M48
            refine g_goto (tgt := 60) X dX10_classes_51 (by decide) ?_
            rw [hQ]
            refine g_iret X hr hlk dX10_classes_60 ?_
            clear X hr hlk hQ
            exact ⟨by grind, rfl⟩
        · refine g_bipush X dX10_classes_36 (by decide +kernel) ?_
          refine g_goto (tgt := 60) X dX10_classes_38 (by decide) ?_
          rw [hQ]
          refine g_iret X hr hlk dX10_classes_60 ?_
          clear X hr hlk hQ
          exact ⟨by grind, rfl⟩
      · have q23 := b2i_f q23
        refine g_bipush X dX10_classes_26 (by decide +kernel) ?_
        rw [hQ]
        refine g_iret X hr hlk dX10_classes_28 ?_
        clear X hr hlk hQ
        exact ⟨by grind, rfl⟩
    · have q13 := b2i_f q13
      refine g_bipush X dX10_classes_16 (by decide +kernel) ?_
      rw [hQ]
      refine g_iret X hr hlk dX10_classes_18 ?_
      clear X hr hlk hQ
      exact ⟨by grind, rfl⟩
set_option maxRecDepth 100000 in
set_option maxHeartbeats 4000000 in
theorem c_X10_as (lL : Launch) (tT : TT) (dD : va_G) (al : Int → Nat) (M : Mem) (q k : Int) (hW : WV M) (iq : i32 q) (ik : i32 k) : CI lL yX10_as cX10_as 5 FieldType.int 2 46 tT dD al [.ref (al 114), .int (iN q), .int (iN k)] M (fun r M' => r = (if 0 ≤ q ∧ q < M 114 23 then (if 0 ≤ k ∧ k ≤ 4 then (if k = 0 ∨ k = M 124 (6 * q) ∨ (k = 1 ∧ M 124 (6 * q) = 2) then q else -1) else -102) else -101) ∧ M' = M) := by
  refine CI.of (own := "RedSkiesModel") (ls0 := [some (.ref (al 114)), some (.int (iN q)), some (.int (iN k)), none, none]) (by decide +kernel) rfl (Nat.le_of_ble_eq_true rfl) rfl ?_
  intro pP eE sS mI aA bB mM cC X hr hlk
  obtain ⟨Q, hQ⟩ : ∃ Q : State → Prop, Q = MQ bB (QI tT dD al (fun r M' => r = (if 0 ≤ q ∧ q < M 114 23 then (if 0 ≤ k ∧ k ≤ 4 then (if k = 0 ∨ k = M 124 (6 * q) ∨ (k = 1 ∧ M 124 (6 * q) = 2) then q else -1) else -102) else -101) ∧ M' = M)) aA sS 0 0 (fA al) := ⟨_, rfl⟩
  rw [← hQ]
  have w2 := hW.n
  refine g_aload_n X dX10_as_0 rfl rfl ?_
  refine g_iload_n X dX10_as_1 rfl rfl ?_
  refine g_callVI X (c_X10_isPicture lL tT dD al _ _ iq ⟨by omega, by omega⟩) kd_114 fc9 lk_RX10_191 rfl rfl ⟨by decide, by decide⟩ rfl (Nat.le_of_ble_eq_true rfl) dX10_as_2 (fun r2 M2 hc2 => ?_)
  obtain ⟨hr2, hm2⟩ := hc2
  subst r2
  subst M2
  refine g_if_ne (tgt := 11) X dX10_as_5 (by decide) (b2i_i32 _) (fun q5 => ?_) (fun q5 => ?_)
  · have q5 := b2i_t q5
    refine g_iload_n X dX10_as_11 rfl rfl ?_
    refine g_i2l X dX10_as_12 ⟨by omega, by omega⟩ ?_
    refine g_lconst X (v := 0) dX10_as_13 (by decide +kernel) ?_
    refine g_ldc2 X (n := 4) wd_1062 (by decide +kernel) dX10_as_14 ?_
    refine g_callSI X (c_X10_in lL tT dD al _ _ _ _ ⟨by omega, by omega⟩ (by decide) (by decide)) lk_RX10_98 rfl rfl ⟨by decide, by decide⟩ rfl (Nat.le_of_ble_eq_true rfl) dX10_as_17 (fun r17 M17 hc17 => ?_)
    obtain ⟨hr17, hm17⟩ := hc17
    subst r17
    subst M17
    refine g_if_ne (tgt := 26) X dX10_as_20 (by decide) (b2i_i32 _) (fun q20 => ?_) (fun q20 => ?_)
    · have q20 := b2i_t q20
      have w1 := hW.row (p := q) (by omega) (by omega)
      refine g_aload_n X dX10_as_26 rfl rfl ?_
      refine g_getr (r := 124) X kd_114 fc9 (k := 24) (by decide) rfl wd_851 rfl (by decide) dX10_as_27 ?_
      refine g_bipush X dX10_as_30 (by decide +kernel) ?_
      refine g_iload_n X dX10_as_32 rfl rfl ?_
      refine g_imul X dX10_as_33 ?_
      refine g_iald X kd_124 (by omega) (by omega) dX10_as_34 ?_
      refine g_istore_n_3 X dX10_as_35 rfl rfl (fun v3_35 ev3_35 => ?_)
      subst v3_35
      refine g_iload_n X dX10_as_36 rfl rfl ?_
      refine g_if_eq (tgt := 55) X dX10_as_37 (by decide) ⟨by omega, by omega⟩ (fun q37 => ?_) (fun q37 => ?_)
      · refine g_iconst X dX10_as_55 ?_
        refine g_goto (tgt := 60) X dX10_as_56 (by decide) ?_
        refine g_istore_4 X dX10_as_60 rfl (fun v4_60 ev4_60 => ?_)
        subst v4_60
        refine g_iload X dX10_as_62 rfl ?_
        refine g_if_eq (tgt := 71) X dX10_as_64 (by decide) (by decide) (fun q => absurd q (by decide)) (fun _ => ?_)
        refine g_iload_n X dX10_as_67 rfl rfl ?_
        refine g_goto (tgt := 72) X dX10_as_68 (by decide) ?_
        rw [hQ]
        refine g_iret X hr hlk dX10_as_72 ?_
        clear X hr hlk hQ
        exact ⟨by grind, rfl⟩
      · refine g_iload_n X dX10_as_40 rfl rfl ?_
        refine g_iload_n X dX10_as_41 rfl rfl ?_
        refine g_icmp_eq (tgt := 55) X dX10_as_42 (by decide) ⟨by omega, by omega⟩ ⟨by omega, by omega⟩ (fun q42 => ?_) (fun q42 => ?_)
        · refine g_iconst X dX10_as_55 ?_
          refine g_goto (tgt := 60) X dX10_as_56 (by decide) ?_
          refine g_istore_4 X dX10_as_60 rfl (fun v4_60 ev4_60 => ?_)
          subst v4_60
          refine g_iload X dX10_as_62 rfl ?_
          refine g_if_eq (tgt := 71) X dX10_as_64 (by decide) (by decide) (fun q => absurd q (by decide)) (fun _ => ?_)
          refine g_iload_n X dX10_as_67 rfl rfl ?_
          refine g_goto (tgt := 72) X dX10_as_68 (by decide) ?_
          rw [hQ]
          refine g_iret X hr hlk dX10_as_72 ?_
          clear X hr hlk hQ
          exact ⟨by grind, rfl⟩
        · refine g_iload_n X dX10_as_45 rfl rfl ?_
          refine g_iconst X dX10_as_46 ?_
          refine g_icmp_ne (tgt := 59) X dX10_as_47 (by decide) ⟨by omega, by omega⟩ (by decide) (fun q47 => ?_) (fun q47 => ?_)
          · refine g_iconst X dX10_as_59 ?_
            refine g_istore_4 X dX10_as_60 rfl (fun v4_60 ev4_60 => ?_)
            subst v4_60
            refine g_iload X dX10_as_62 rfl ?_
            refine g_if_eq (tgt := 71) X dX10_as_64 (by decide) (by decide) (fun _ => ?_) (fun q => absurd q (by decide))
            refine g_iconst X dX10_as_71 ?_
            rw [hQ]
            refine g_iret X hr hlk dX10_as_72 ?_
            clear X hr hlk hQ
            exact ⟨by grind, rfl⟩
          · refine g_iload_n X dX10_as_50 rfl rfl ?_
            refine g_iconst X dX10_as_51 ?_
            refine g_icmp_ne (tgt := 59) X dX10_as_52 (by decide) ⟨by omega, by omega⟩ (by decide) (fun q52 => ?_) (fun q52 => ?_)
            · refine g_iconst X dX10_as_59 ?_
              refine g_istore_4 X dX10_as_60 rfl (fun v4_60 ev4_60 => ?_)
              subst v4_60
              refine g_iload X dX10_as_62 rfl ?_
              refine g_if_eq (tgt := 71) X dX10_as_64 (by decide) (by decide) (fun _ => ?_) (fun q => absurd q (by decide))
              refine g_iconst X dX10_as_71 ?_
              rw [hQ]
              refine g_iret X hr hlk dX10_as_72 ?_
              clear X hr hlk hQ
              exact ⟨by grind, rfl⟩
            · refine g_iconst X dX10_as_55 ?_
              refine g_goto (tgt := 60) X dX10_as_56 (by decide) ?_
              refine g_istore_4 X dX10_as_60 rfl (fun v4_60 ev4_60 => ?_)
              subst v4_60
              refine g_iload X dX10_as_62 rfl ?_
              refine g_if_eq (tgt := 71) X dX10_as_64 (by decide) (by decide) (fun q => absurd q (by decide)) (fun _ => ?_)
              refine g_iload_n X dX10_as_67 rfl rfl ?_
              refine g_goto (tgt := 72) X dX10_as_68 (by decide) ?_
              rw [hQ]
              refine g_iret X hr hlk dX10_as_72 ?_
              clear X hr hlk hQ
              exact ⟨by grind, rfl⟩
    · have q20 := b2i_f q20
      refine g_bipush X dX10_as_23 (by decide +kernel) ?_
      rw [hQ]
      refine g_iret X hr hlk dX10_as_25 ?_
      clear X hr hlk hQ
      exact ⟨by grind, rfl⟩
  · have q5 := b2i_f q5
    refine g_bipush X dX10_as_8 (by decide +kernel) ?_
    rw [hQ]
    refine g_iret X hr hlk dX10_as_10 ?_
    clear X hr hlk hQ
    exact ⟨by grind, rfl⟩
set_option maxRecDepth 100000 in
set_option maxHeartbeats 4000000 in
theorem c_X10_about (lL : Launch) (tT : TT) (dD : va_G) (al : Int → Nat) (M : Mem) (q k : Int) (hW : WV M) (iq : i32 q) (ik : i32 k) : CI lL yX10_about cX10_about 3 FieldType.int 2 46 tT dD al [.ref (al 114), .int (iN q), .int (iN k)] M (fun r M' => r = (if 0 ≤ q ∧ q < M 114 23 then (if 0 ≤ k ∧ k ≤ 5 then M 124 (6 * q + k) else if 10 ≤ k ∧ k ≤ 21 then rgt M q (k - 10) else -102) else -101) ∧ M' = M) := by
  refine CI.of (own := "RedSkiesModel") (ls0 := [some (.ref (al 114)), some (.int (iN q)), some (.int (iN k))]) (by decide +kernel) rfl (Nat.le_of_ble_eq_true rfl) rfl ?_
  intro pP eE sS mI aA bB mM cC X hr hlk
  obtain ⟨Q, hQ⟩ : ∃ Q : State → Prop, Q = MQ bB (QI tT dD al (fun r M' => r = (if 0 ≤ q ∧ q < M 114 23 then (if 0 ≤ k ∧ k ≤ 5 then M 124 (6 * q + k) else if 10 ≤ k ∧ k ≤ 21 then rgt M q (k - 10) else -102) else -101) ∧ M' = M)) aA sS 0 0 (fA al) := ⟨_, rfl⟩
  rw [← hQ]
  have w2 := hW.n
  refine g_aload_n X dX10_about_0 rfl rfl ?_
  refine g_iload_n X dX10_about_1 rfl rfl ?_
  refine g_callVI X (c_X10_isPicture lL tT dD al _ _ iq ⟨by omega, by omega⟩) kd_114 fc9 lk_RX10_191 rfl rfl ⟨by decide, by decide⟩ rfl (Nat.le_of_ble_eq_true rfl) dX10_about_2 (fun r2 M2 hc2 => ?_)
  obtain ⟨hr2, hm2⟩ := hc2
  subst r2
  subst M2
  refine g_if_ne (tgt := 11) X dX10_about_5 (by decide) (b2i_i32 _) (fun q5 => ?_) (fun q5 => ?_)
  · have q5 := b2i_t q5
    refine g_iload_n X dX10_about_11 rfl rfl ?_
    refine g_i2l X dX10_about_12 ⟨by omega, by omega⟩ ?_
    refine g_lconst X (v := 0) dX10_about_13 (by decide +kernel) ?_
    refine g_ldc2 X (n := 5) wd_1087 (by decide +kernel) dX10_about_14 ?_
    refine g_callSI X (c_X10_in lL tT dD al _ _ _ _ ⟨by omega, by omega⟩ (by decide) (by decide)) lk_RX10_98 rfl rfl ⟨by decide, by decide⟩ rfl (Nat.le_of_ble_eq_true rfl) dX10_about_17 (fun r17 M17 hc17 => ?_)
    obtain ⟨hr17, hm17⟩ := hc17
    subst r17
    subst M17
    refine g_if_eq (tgt := 35) X dX10_about_20 (by decide) (b2i_i32 _) (fun q20 => ?_) (fun q20 => ?_)
    · have q20 := b2i_f q20
      refine g_iload_n X dX10_about_35 rfl rfl ?_
      refine g_i2l X dX10_about_36 ⟨by omega, by omega⟩ ?_
      refine g_ldc2 X (n := 10) wd_1088 (by decide +kernel) dX10_about_37 ?_
      refine g_ldc2 X (n := 21) wd_1089 (by decide +kernel) dX10_about_40 ?_
      refine g_callSI X (c_X10_in lL tT dD al _ _ _ _ ⟨by omega, by omega⟩ (by decide) (by decide)) lk_RX10_98 rfl rfl ⟨by decide, by decide⟩ rfl (Nat.le_of_ble_eq_true rfl) dX10_about_43 (fun r43 M43 hc43 => ?_)
      obtain ⟨hr43, hm43⟩ := hc43
      subst r43
      subst M43
      refine g_if_eq (tgt := 61) X dX10_about_46 (by decide) (b2i_i32 _) (fun q46 => ?_) (fun q46 => ?_)
      · have q46 := b2i_f q46
        refine g_bipush X dX10_about_61 (by decide +kernel) ?_
        rw [hQ]
        refine g_iret X hr hlk dX10_about_63 ?_
        clear X hr hlk hQ
        exact ⟨by grind, rfl⟩
      · have q46 := b2i_t q46
        refine g_aload_n X dX10_about_49 rfl rfl ?_
        refine g_iload_n X dX10_about_50 rfl rfl ?_
        refine g_iload_n X dX10_about_51 rfl rfl ?_
        refine g_bipush X dX10_about_52 (by decide +kernel) ?_
        refine g_isub X dX10_about_54 ?_
        refine g_callVI X (c_X10_rightOf lL tT dD al _ _ _ hW (by omega) (by omega) (by omega) (by omega)) kd_114 fc9 lk_RX10_207 rfl rfl ⟨by decide, by decide⟩ rfl (Nat.le_of_ble_eq_true rfl) dX10_about_55 (fun r55 M55 hc55 => ?_)
        obtain ⟨hr55, hm55⟩ := hc55
        subst r55
        subst M55
        refine g_goto (tgt := 63) X dX10_about_58 (by decide) ?_
        rw [hQ]
        refine g_iret X hr hlk dX10_about_63 ?_
        clear X hr hlk hQ
        exact ⟨by grind, rfl⟩
    · have q20 := b2i_t q20
      refine g_aload_n X dX10_about_23 rfl rfl ?_
      refine g_getr (r := 124) X kd_114 fc9 (k := 24) (by decide) rfl wd_851 rfl (by decide) dX10_about_24 ?_
      refine g_bipush X dX10_about_27 (by decide +kernel) ?_
      refine g_iload_n X dX10_about_29 rfl rfl ?_
      refine g_imul X dX10_about_30 ?_
      refine g_iload_n X dX10_about_31 rfl rfl ?_
      refine g_iadd X dX10_about_32 ?_
      refine g_iald X kd_124 (by omega) (by omega) dX10_about_33 ?_
      rw [hQ]
      refine g_iret X hr hlk dX10_about_34 ?_
      clear X hr hlk hQ
      exact ⟨by grind, rfl⟩
  · have q5 := b2i_f q5
    refine g_bipush X dX10_about_8 (by decide +kernel) ?_
    rw [hQ]
    refine g_iret X hr hlk dX10_about_10 ?_
    clear X hr hlk hQ
    exact ⟨by grind, rfl⟩
set_option maxRecDepth 100000 in
set_option maxHeartbeats 4000000 in
theorem c_X10_dates (lL : Launch) (tT : TT) (dD : va_G) (al : Int → Nat) (M : Mem) (m q z : Int) (hW : WV M) (im : i32 m) (iq : i32 q) (iz : i32 z) : CI lL yX10_dates cX10_dates 4 FieldType.int 7 163 tT dD al [.ref (al 114), .int (iN m), .int (iN q), .int (iN z)] M (fun r M' => r = (if (0 ≤ m ∧ m < M 114 15) ∧ (0 ≤ q ∧ q < M 114 23) then (if 0 ≤ z ∧ z ≤ 2 then (if M 114 17 = 0 then -103 else if z = 0 then dN M m q (nY M q) else if z = 1 then dF M m q (nY M q) else dL M m q (nY M q)) else -102) else -101) ∧ SM M M') := by
  refine CI.of (own := "RedSkiesModel") (ls0 := [some (.ref (al 114)), some (.int (iN m)), some (.int (iN q)), some (.int (iN z))]) (by decide +kernel) rfl (Nat.le_of_ble_eq_true rfl) rfl ?_
  intro pP eE sS mI aA bB mM cC X hr hlk
  obtain ⟨Q, hQ⟩ : ∃ Q : State → Prop, Q = MQ bB (QI tT dD al (fun r M' => r = (if (0 ≤ m ∧ m < M 114 15) ∧ (0 ≤ q ∧ q < M 114 23) then (if 0 ≤ z ∧ z ≤ 2 then (if M 114 17 = 0 then -103 else if z = 0 then dN M m q (nY M q) else if z = 1 then dF M m q (nY M q) else dL M m q (nY M q)) else -102) else -101) ∧ SM M M')) aA sS 0 0 (fA al) := ⟨_, rfl⟩
  rw [← hQ]
  have w1 := hW.mea
  have w2 := hW.n
  have w3 := hW.law
  refine g_aload_n X dX10_dates_0 rfl rfl ?_
  refine g_iload_n X dX10_dates_1 rfl rfl ?_
  refine g_callVI X (c_X10_isMeasure lL tT dD al _ _ im ⟨by omega, by omega⟩) kd_114 fc9 lk_RX10_215 rfl rfl ⟨by decide, by decide⟩ rfl (Nat.le_of_ble_eq_true rfl) dX10_dates_2 (fun r2 M2 hc2 => ?_)
  obtain ⟨hr2, hm2⟩ := hc2
  subst r2
  subst M2
  refine g_if_eq (tgt := 16) X dX10_dates_5 (by decide) (b2i_i32 _) (fun q5 => ?_) (fun q5 => ?_)
  · have q5 := b2i_f q5
    refine g_bipush X dX10_dates_16 (by decide +kernel) ?_
    rw [hQ]
    refine g_iret X hr hlk dX10_dates_18 ?_
    clear X hr hlk hQ
    exact ⟨by grind, by first | exact SM.rfl' M | exact hS⟩
  · have q5 := b2i_t q5
    refine g_aload_n X dX10_dates_8 rfl rfl ?_
    refine g_iload_n X dX10_dates_9 rfl rfl ?_
    refine g_callVI X (c_X10_isPicture lL tT dD al _ _ iq ⟨by omega, by omega⟩) kd_114 fc9 lk_RX10_191 rfl rfl ⟨by decide, by decide⟩ rfl (Nat.le_of_ble_eq_true rfl) dX10_dates_10 (fun r10 M10 hc10 => ?_)
    obtain ⟨hr10, hm10⟩ := hc10
    subst r10
    subst M10
    refine g_if_ne (tgt := 19) X dX10_dates_13 (by decide) (b2i_i32 _) (fun q13 => ?_) (fun q13 => ?_)
    · have q13 := b2i_t q13
      refine g_iload_n X dX10_dates_19 rfl rfl ?_
      refine g_i2l X dX10_dates_20 ⟨by omega, by omega⟩ ?_
      refine g_lconst X (v := 0) dX10_dates_21 (by decide +kernel) ?_
      refine g_ldc2 X (n := 2) wd_1007 (by decide +kernel) dX10_dates_22 ?_
      refine g_callSI X (c_X10_in lL tT dD al _ _ _ _ ⟨by omega, by omega⟩ (by decide) (by decide)) lk_RX10_98 rfl rfl ⟨by decide, by decide⟩ rfl (Nat.le_of_ble_eq_true rfl) dX10_dates_25 (fun r25 M25 hc25 => ?_)
      obtain ⟨hr25, hm25⟩ := hc25
      subst r25
      subst M25
      refine g_if_ne (tgt := 34) X dX10_dates_28 (by decide) (b2i_i32 _) (fun q28 => ?_) (fun q28 => ?_)
      · have q28 := b2i_t q28
        refine g_aload_n X dX10_dates_34 rfl rfl ?_
        refine g_geti (kz := 17) X kd_114 fc9 (k := 17) (by decide) rfl wd_844 rfl dX10_dates_35 ?_
        refine g_if_ne (tgt := 44) X dX10_dates_38 (by decide) ⟨by omega, by omega⟩ (fun q38 => ?_) (fun q38 => ?_)
        · refine g_aload_n X dX10_dates_44 rfl rfl ?_
          refine g_iload_n X dX10_dates_45 rfl rfl ?_
          refine g_iload_n X dX10_dates_46 rfl rfl ?_
          refine g_callVV X (c_X10_layDates lL tT dD al _ _ _ hW (by omega) (by omega) (by omega) (by omega)) kd_114 fc9 lk_RX10_330 rfl rfl ⟨by decide, by decide⟩ rfl (Nat.le_of_ble_eq_true rfl) dX10_dates_47 (fun M47 hc47 => ?_)
          obtain ⟨hS, e1, e2, e3⟩ := hc47
          refine g_iload_n X dX10_dates_50 rfl rfl ?_
          refine g_if_ne (tgt := 61) X dX10_dates_51 (by decide) ⟨by omega, by omega⟩ (fun q51 => ?_) (fun q51 => ?_)
          · refine g_iload_n X dX10_dates_61 rfl rfl ?_
            refine g_iconst X dX10_dates_62 ?_
            refine g_icmp_ne (tgt := 73) X dX10_dates_63 (by decide) ⟨by omega, by omega⟩ (by decide) (fun q63 => ?_) (fun q63 => ?_)
            · refine g_aload_n X dX10_dates_73 rfl rfl ?_
              refine g_geti (kz := 45) X kd_114 fc9 (k := 45) (by decide) rfl wd_872 rfl dX10_dates_74 ?_
              rw [hQ]
              refine g_iret X hr hlk dX10_dates_77 ?_
              clear X hr hlk hQ
              exact ⟨by grind, by first | exact SM.rfl' M | exact hS⟩
            · refine g_aload_n X dX10_dates_66 rfl rfl ?_
              refine g_geti (kz := 44) X kd_114 fc9 (k := 44) (by decide) rfl wd_871 rfl dX10_dates_67 ?_
              refine g_goto (tgt := 77) X dX10_dates_70 (by decide) ?_
              rw [hQ]
              refine g_iret X hr hlk dX10_dates_77 ?_
              clear X hr hlk hQ
              exact ⟨by grind, by first | exact SM.rfl' M | exact hS⟩
          · refine g_aload_n X dX10_dates_54 rfl rfl ?_
            refine g_geti (kz := 43) X kd_114 fc9 (k := 43) (by decide) rfl wd_870 rfl dX10_dates_55 ?_
            refine g_goto (tgt := 77) X dX10_dates_58 (by decide) ?_
            rw [hQ]
            refine g_iret X hr hlk dX10_dates_77 ?_
            clear X hr hlk hQ
            exact ⟨by grind, by first | exact SM.rfl' M | exact hS⟩
        · refine g_bipush X dX10_dates_41 (by decide +kernel) ?_
          rw [hQ]
          refine g_iret X hr hlk dX10_dates_43 ?_
          clear X hr hlk hQ
          exact ⟨by grind, by first | exact SM.rfl' M | exact hS⟩
      · have q28 := b2i_f q28
        refine g_bipush X dX10_dates_31 (by decide +kernel) ?_
        rw [hQ]
        refine g_iret X hr hlk dX10_dates_33 ?_
        clear X hr hlk hQ
        exact ⟨by grind, by first | exact SM.rfl' M | exact hS⟩
    · have q13 := b2i_f q13
      refine g_bipush X dX10_dates_16 (by decide +kernel) ?_
      rw [hQ]
      refine g_iret X hr hlk dX10_dates_18 ?_
      clear X hr hlk hQ
      exact ⟨by grind, by first | exact SM.rfl' M | exact hS⟩
set_option maxRecDepth 100000 in
set_option maxHeartbeats 4000000 in
theorem c_X10_wrongOf (lL : Launch) (tT : TT) (dD : va_G) (al : Int → Nat) (M : Mem) (m : Int) (hW : WV M) (hm0 : 0 ≤ m) (hm1 : m < M 114 15) : CI lL yX10_wrongOf cX10_wrongOf 4 FieldType.int 7 163 tT dD al [.ref (al 114), .int (iN m)] M (fun r M' => r = wrS M m (M 114 23).toNat ∧ SM M M') := by
  refine CI.of (own := "RedSkiesModel") (ls0 := [some (.ref (al 114)), some (.int (iN m)), none, none]) (by decide +kernel) rfl (Nat.le_of_ble_eq_true rfl) rfl ?_
  intro pP eE sS mI aA bB mM cC X hr hlk
  obtain ⟨Q, hQ⟩ : ∃ Q : State → Prop, Q = MQ bB (QI tT dD al (fun r M' => r = wrS M m (M 114 23).toNat ∧ SM M M')) aA sS 0 0 (fA al) := ⟨_, rfl⟩
  rw [← hQ]
  have w1 := hW.mea
  have w2 := hW.n
  have c0 : ∀ i : Int, ¬ dN M m i (nY M i) = 0 → (fun p : Int => if dN M m p (nY M p) = 0 then (2 : Int) ^ p.toNat else 0) i = 0 := fun i h => if_neg h
  have c1 : ∀ i : Int, dN M m i (nY M i) = 0 → (fun p : Int => if dN M m p (nY M p) = 0 then (2 : Int) ^ p.toNat else 0) i = 2 ^ i.toNat := fun i h => if_pos h
  refine g_iconst X dX10_wrongOf_0 ?_
  refine g_istore_n_2 X dX10_wrongOf_1 rfl rfl (fun v2_1 ev2_1 => ?_)
  subst v2_1
  refine g_iconst X dX10_wrongOf_2 ?_
  refine g_istore_n_3 X dX10_wrongOf_3 rfl rfl (fun v3_3 ev3_3 => ?_)
  subst v3_3
  have L_4 : ∀ (n : Nat) (b : Int) (k : Int) (M1 : Mem), (0 ≤ k) → (k ≤ M 114 23) → (SM M M1) → (b = wrS M m k.toNat) → (16 - k).toNat < n → Gd pP lL eE (rmN 7 163) sS mI aA bB mM cC 0 0 Q tT dD al (fA al) 4 [some (.ref (al 114)), some (.int (iN m)), some (.int (iN b)), some (.int (iN k))] [] M1 := by
    intro n
    induction n with
    | zero => intro b k M1 hk hk2 hS hb hm; exact absurd hm (Nat.not_lt_zero _)
    | succ n ih =>
      intro b k M1 hk hk2 hS hb hm
      have r2 := hS.fld (k := 23) (by omega)
      have r3 := hS.fld (k := 15) (by omega)
      have hb2 := sm_bits c0 c1 k.toNat
      have hb3 := p2i_le (a := k.toNat) (b := 16) (by omega)
      have ih_4 := ih
      clear ih
      refine g_iload_n X dX10_wrongOf_4 rfl rfl ?_
      refine g_aload_n X dX10_wrongOf_5 rfl rfl ?_
      refine g_geti (kz := 23) X kd_114 fc9 (k := 23) (by decide) rfl wd_850 rfl dX10_wrongOf_6 ?_
      refine g_icmp_ge (tgt := 41) X dX10_wrongOf_9 (by decide) ⟨by omega, by omega⟩ ⟨by omega, by omega⟩ (fun q9 => ?_) (fun q9 => ?_)
      · refine g_iload_n X dX10_wrongOf_41 rfl rfl ?_
        rw [hQ]
        refine g_iret X hr hlk dX10_wrongOf_42 ?_
        obtain rfl : k = M 114 23 := by omega
        exact ⟨hb, hS⟩
      · refine g_aload_n X dX10_wrongOf_12 rfl rfl ?_
        refine g_iload_n X dX10_wrongOf_13 rfl rfl ?_
        refine g_iload_n X dX10_wrongOf_14 rfl rfl ?_
        refine g_callVV X (c_X10_layDates lL tT dD al _ _ _ (hS.WV hW) hm0 (by omega) hk (by omega)) kd_114 fc9 lk_RX10_330 rfl rfl ⟨by decide, by decide⟩ rfl (Nat.le_of_ble_eq_true rfl) dX10_wrongOf_15 (fun M15 hc15 => ?_)
        refine g_iload_n X dX10_wrongOf_18 rfl rfl ?_
        refine g_aload_n X dX10_wrongOf_19 rfl rfl ?_
        have e20 := hc15.2.1
        rw [hS.e_nY, hS.e_dN] at e20
        have w9 := dN_rng M m k (nY M k)
        have w8 := nY_rng hW hk (by omega)
        refine g_geti (kz := 43) X kd_114 fc9 (k := 43) (by decide) rfl wd_870 rfl dX10_wrongOf_20 ?_
        refine g_if_ne (tgt := 32) X dX10_wrongOf_23 (by decide) ⟨by omega, by omega⟩ (fun q23 => ?_) (fun q23 => ?_)
        · refine g_iconst X dX10_wrongOf_32 ?_
          refine g_ior X dX10_wrongOf_33 ?_
          refine g_istore_n_2 X dX10_wrongOf_34 rfl rfl (fun v2_34 ev2_34 => ?_)
          subst v2_34
          refine g_iinc_3 X dX10_wrongOf_35 rfl (fun v3_35 ev3_35 => ?_)
          subst v3_35
          refine g_goto (tgt := 4) X dX10_wrongOf_38 (by decide) ?_
          exact g_sub (ih_4 _ _ _ (by omega) (by omega) (hS.trans hc15.1) (by clear X hr hlk hQ ih_4; first | (have := or_acc c0 c1 hk (by omega) (by grind); rw [hb]; exact this) | (rw [hb]; unfold wrS; rw [sm_s _ hk, if_neg (by grind), or_0 hb2.1 (by omega)]; omega)) (by omega)) ⟨rfl, rfl, rfl, rfl, trivial⟩
        · refine g_iconst X dX10_wrongOf_26 ?_
          refine g_iload_n X dX10_wrongOf_27 rfl rfl ?_
          refine g_ishl X dX10_wrongOf_28 ?_
          refine g_goto (tgt := 33) X dX10_wrongOf_29 (by decide) ?_
          refine g_ior X dX10_wrongOf_33 ?_
          refine g_istore_n_2 X dX10_wrongOf_34 rfl rfl (fun v2_34 ev2_34 => ?_)
          subst v2_34
          refine g_iinc_3 X dX10_wrongOf_35 rfl (fun v3_35 ev3_35 => ?_)
          subst v3_35
          refine g_goto (tgt := 4) X dX10_wrongOf_38 (by decide) ?_
          exact g_sub (ih_4 _ _ _ (by omega) (by omega) (hS.trans hc15.1) (by clear X hr hlk hQ ih_4; first | (have := or_acc c0 c1 hk (by omega) (by grind); rw [hb]; exact this) | (rw [hb]; unfold wrS; rw [sm_s _ hk, if_neg (by grind), or_0 hb2.1 (by omega)]; omega)) (by omega)) ⟨rfl, rfl, rfl, rfl, trivial⟩
  exact g_sub (L_4 _ _ _ _ (by omega) (by omega) (SM.rfl' M) (rfl) (Nat.lt_succ_self _)) ⟨rfl, rfl, rfl, rfl, trivial⟩
