set_option maxRecDepth 100000 in
set_option maxHeartbeats 4000000 in
theorem c_X10_in (lL : Launch) (tT : TT) (dD : va_G) (al : Int → Nat) (M : Mem) (v a b : Int) (hv : i64 v) (ha : i64 a) (hb : i64 b) : CI lL yX10_in cX10_in 6 FieldType.boolean 0 0 tT dD al [.long (jN v), .long (jN a), .long (jN b)] M (fun r M' => r = b2i (a ≤ v ∧ v ≤ b) ∧ M' = M) := by
  refine CI.of (own := "RedSkiesModel") (ls0 := [some (.long (jN v)), none, some (.long (jN a)), none, some (.long (jN b)), none]) (by decide +kernel) rfl (Nat.le_of_ble_eq_true rfl) rfl ?_
  intro pP eE sS mI aA bB mM cC X hr hlk
  obtain ⟨Q, hQ⟩ : ∃ Q : State → Prop, Q = MQ bB (QI tT dD al (fun r M' => r = b2i (a ≤ v ∧ v ≤ b) ∧ M' = M)) aA sS 0 0 (fA al) := ⟨_, rfl⟩
  rw [← hQ]
  refine g_lload_n X dX10_in_0 rfl rfl ?_
  refine g_lload_n X dX10_in_1 rfl rfl ?_
  refine g_lcmp_lt (tgt := 17) X dX10_in_2 dX10_in_3 (by decide) ⟨by omega, by omega⟩ ⟨by omega, by omega⟩ (fun q2 => ?_) (fun q2 => ?_)
  · refine g_iconst X dX10_in_17 ?_
    rw [hQ]
    refine g_zret X hr hlk (by decide) dX10_in_18 ?_
    first | exact ⟨b2i_1 (by omega), rfl⟩ | exact ⟨b2i_0 (by omega), rfl⟩
  · refine g_lload_n X dX10_in_6 rfl rfl ?_
    refine g_lload X dX10_in_7 rfl ?_
    refine g_lcmp_gt (tgt := 17) X dX10_in_9 dX10_in_10 (by decide) ⟨by omega, by omega⟩ ⟨by omega, by omega⟩ (fun q9 => ?_) (fun q9 => ?_)
    · refine g_iconst X dX10_in_17 ?_
      rw [hQ]
      refine g_zret X hr hlk (by decide) dX10_in_18 ?_
      first | exact ⟨b2i_1 (by omega), rfl⟩ | exact ⟨b2i_0 (by omega), rfl⟩
    · refine g_iconst X dX10_in_13 ?_
      refine g_goto (tgt := 18) X dX10_in_14 (by decide) ?_
      rw [hQ]
      refine g_zret X hr hlk (by decide) dX10_in_18 ?_
      first | exact ⟨b2i_1 (by omega), rfl⟩ | exact ⟨b2i_0 (by omega), rfl⟩
set_option maxRecDepth 100000 in
set_option maxHeartbeats 4000000 in
theorem c_X10_isDigit (lL : Launch) (tT : TT) (dD : va_G) (al : Int → Nat) (M : Mem) (c : Int) (hc : i32 c) : CI lL yX10_isDigit cX10_isDigit 1 FieldType.boolean 1 25 tT dD al [.int (iN c)] M (fun r M' => r = b2i (48 ≤ c ∧ c ≤ 57) ∧ M' = M) := by
  refine CI.of (own := "RedSkiesModel") (ls0 := [some (.int (iN c))]) (by decide +kernel) rfl (Nat.le_of_ble_eq_true rfl) rfl ?_
  intro pP eE sS mI aA bB mM cC X hr hlk
  obtain ⟨Q, hQ⟩ : ∃ Q : State → Prop, Q = MQ bB (QI tT dD al (fun r M' => r = b2i (48 ≤ c ∧ c ≤ 57) ∧ M' = M)) aA sS 0 0 (fA al) := ⟨_, rfl⟩
  rw [← hQ]
  refine g_iload_n X dX10_isDigit_0 rfl rfl ?_
  refine g_i2l X dX10_isDigit_1 ⟨by omega, by omega⟩ ?_
  refine g_ldc2 X (n := 48) wd_1022 (by decide +kernel) dX10_isDigit_2 ?_
  refine g_ldc2 X (n := 57) wd_1023 (by decide +kernel) dX10_isDigit_5 ?_
  refine g_callSI X (c_X10_in lL tT dD al _ _ _ _ ⟨by omega, by omega⟩ (by decide) (by decide)) lk_RX10_98 rfl rfl ⟨by decide, by decide⟩ rfl (Nat.le_of_ble_eq_true rfl) dX10_isDigit_8 (fun r8 M8 hc8 => ?_)
  obtain ⟨hr8, hm8⟩ := hc8
  subst r8
  subst M8
  rw [hQ]
  refine g_zret X hr hlk (b2i_01 _) dX10_isDigit_11 ?_
  exact ⟨rfl, rfl⟩
set_option maxRecDepth 100000 in
set_option maxHeartbeats 4000000 in
theorem c_X10_colourOf (lL : Launch) (tT : TT) (dD : va_G) (al : Int → Nat) (M : Mem) (c : Int) (hc : i32 c) : CI lL yX10_colourOf cX10_colourOf 1 FieldType.int 0 0 tT dD al [.int (iN c)] M (fun r M' => r = colS c ∧ M' = M) := by
  refine CI.of (own := "RedSkiesModel") (ls0 := [some (.int (iN c))]) (by decide +kernel) rfl (Nat.le_of_ble_eq_true rfl) rfl ?_
  intro pP eE sS mI aA bB mM cC X hr hlk
  obtain ⟨Q, hQ⟩ : ∃ Q : State → Prop, Q = MQ bB (QI tT dD al (fun r M' => r = colS c ∧ M' = M)) aA sS 0 0 (fA al) := ⟨_, rfl⟩
  rw [← hQ]
  refine g_iload_n X dX10_colourOf_0 rfl rfl ?_
  refine g_bipush X dX10_colourOf_1 (by decide +kernel) ?_
  refine g_icmp_ne (tgt := 10) X dX10_colourOf_3 (by decide) ⟨by omega, by omega⟩ (by decide) (fun q3 => ?_) (fun q3 => ?_)
  · refine g_iload_n X dX10_colourOf_10 rfl rfl ?_
    refine g_bipush X dX10_colourOf_11 (by decide +kernel) ?_
    refine g_icmp_ne (tgt := 20) X dX10_colourOf_13 (by decide) ⟨by omega, by omega⟩ (by decide) (fun q13 => ?_) (fun q13 => ?_)
    · refine g_iload_n X dX10_colourOf_20 rfl rfl ?_
      refine g_bipush X dX10_colourOf_21 (by decide +kernel) ?_
      refine g_icmp_ne (tgt := 30) X dX10_colourOf_23 (by decide) ⟨by omega, by omega⟩ (by decide) (fun q23 => ?_) (fun q23 => ?_)
      · refine g_iconst X dX10_colourOf_30 ?_
        rw [hQ]
        refine g_iret X hr hlk dX10_colourOf_31 ?_
        clear X hr hlk hQ
        exact ⟨by unfold colS; grind, rfl⟩
      · refine g_iconst X dX10_colourOf_26 ?_
        refine g_goto (tgt := 31) X dX10_colourOf_27 (by decide) ?_
        rw [hQ]
        refine g_iret X hr hlk dX10_colourOf_31 ?_
        clear X hr hlk hQ
        exact ⟨by unfold colS; grind, rfl⟩
    · refine g_iconst X dX10_colourOf_16 ?_
      refine g_goto (tgt := 31) X dX10_colourOf_17 (by decide) ?_
      rw [hQ]
      refine g_iret X hr hlk dX10_colourOf_31 ?_
      clear X hr hlk hQ
      exact ⟨by unfold colS; grind, rfl⟩
  · refine g_iconst X dX10_colourOf_6 ?_
    refine g_goto (tgt := 31) X dX10_colourOf_7 (by decide) ?_
    rw [hQ]
    refine g_iret X hr hlk dX10_colourOf_31 ?_
    clear X hr hlk hQ
    exact ⟨by unfold colS; grind, rfl⟩
set_option maxRecDepth 100000 in
set_option maxHeartbeats 4000000 in
theorem c_X10_isMeasure (lL : Launch) (tT : TT) (dD : va_G) (al : Int → Nat) (M : Mem) (v : Int) (hv : i32 v) (h1 : 0 ≤ M 114 15 ∧ M 114 15 ≤ 16) : CI lL yX10_isMeasure cX10_isMeasure 2 FieldType.boolean 1 25 tT dD al [.ref (al 114), .int (iN v)] M (fun r M' => r = b2i (0 ≤ v ∧ v < M 114 15) ∧ M' = M) := by
  refine CI.of (own := "RedSkiesModel") (ls0 := [some (.ref (al 114)), some (.int (iN v))]) (by decide +kernel) rfl (Nat.le_of_ble_eq_true rfl) rfl ?_
  intro pP eE sS mI aA bB mM cC X hr hlk
  obtain ⟨Q, hQ⟩ : ∃ Q : State → Prop, Q = MQ bB (QI tT dD al (fun r M' => r = b2i (0 ≤ v ∧ v < M 114 15) ∧ M' = M)) aA sS 0 0 (fA al) := ⟨_, rfl⟩
  rw [← hQ]
  refine g_iload_n X dX10_isMeasure_0 rfl rfl ?_
  refine g_i2l X dX10_isMeasure_1 ⟨by omega, by omega⟩ ?_
  refine g_lconst X (v := 0) dX10_isMeasure_2 (by decide +kernel) ?_
  refine g_aload_n X dX10_isMeasure_3 rfl rfl ?_
  refine g_geti (kz := 15) X kd_114 fc9 (k := 15) (by decide) rfl wd_842 rfl dX10_isMeasure_4 ?_
  refine g_iconst X dX10_isMeasure_7 ?_
  refine g_isub X dX10_isMeasure_8 ?_
  refine g_i2l X dX10_isMeasure_9 ⟨by omega, by omega⟩ ?_
  refine g_callSI X (c_X10_in lL tT dD al _ _ _ _ (by first | assumption | omega) (by first | assumption | omega) (by first | assumption | omega)) lk_RX10_98 rfl rfl ⟨by decide, by decide⟩ rfl (Nat.le_of_ble_eq_true rfl) dX10_isMeasure_10 (fun r10 M10 hc10 => ?_)
  obtain ⟨hr10, hm10⟩ := hc10
  subst r10
  subst M10
  rw [hQ]
  refine g_zret X hr hlk (b2i_01 _) dX10_isMeasure_13 ?_
  exact ⟨b2i_iff (by omega), rfl⟩
set_option maxRecDepth 100000 in
set_option maxHeartbeats 4000000 in
theorem c_X10_isPicture (lL : Launch) (tT : TT) (dD : va_G) (al : Int → Nat) (M : Mem) (v : Int) (hv : i32 v) (h1 : 0 ≤ M 114 23 ∧ M 114 23 ≤ 16) : CI lL yX10_isPicture cX10_isPicture 2 FieldType.boolean 1 25 tT dD al [.ref (al 114), .int (iN v)] M (fun r M' => r = b2i (0 ≤ v ∧ v < M 114 23) ∧ M' = M) := by
  refine CI.of (own := "RedSkiesModel") (ls0 := [some (.ref (al 114)), some (.int (iN v))]) (by decide +kernel) rfl (Nat.le_of_ble_eq_true rfl) rfl ?_
  intro pP eE sS mI aA bB mM cC X hr hlk
  obtain ⟨Q, hQ⟩ : ∃ Q : State → Prop, Q = MQ bB (QI tT dD al (fun r M' => r = b2i (0 ≤ v ∧ v < M 114 23) ∧ M' = M)) aA sS 0 0 (fA al) := ⟨_, rfl⟩
  rw [← hQ]
  refine g_iload_n X dX10_isPicture_0 rfl rfl ?_
  refine g_i2l X dX10_isPicture_1 ⟨by omega, by omega⟩ ?_
  refine g_lconst X (v := 0) dX10_isPicture_2 (by decide +kernel) ?_
  refine g_aload_n X dX10_isPicture_3 rfl rfl ?_
  refine g_geti (kz := 23) X kd_114 fc9 (k := 23) (by decide) rfl wd_850 rfl dX10_isPicture_4 ?_
  refine g_iconst X dX10_isPicture_7 ?_
  refine g_isub X dX10_isPicture_8 ?_
  refine g_i2l X dX10_isPicture_9 ⟨by omega, by omega⟩ ?_
  refine g_callSI X (c_X10_in lL tT dD al _ _ _ _ (by first | assumption | omega) (by first | assumption | omega) (by first | assumption | omega)) lk_RX10_98 rfl rfl ⟨by decide, by decide⟩ rfl (Nat.le_of_ble_eq_true rfl) dX10_isPicture_10 (fun r10 M10 hc10 => ?_)
  obtain ⟨hr10, hm10⟩ := hc10
  subst r10
  subst M10
  rw [hQ]
  refine g_zret X hr hlk (b2i_01 _) dX10_isPicture_13 ?_
  exact ⟨b2i_iff (by omega), rfl⟩
set_option maxRecDepth 100000 in
set_option maxHeartbeats 4000000 in
theorem c_X10_isWindow (lL : Launch) (tT : TT) (dD : va_G) (al : Int → Nat) (M : Mem) (v : Int) (hv : i32 v) : CI lL yX10_isWindow cX10_isWindow 1 FieldType.boolean 1 25 tT dD al [.int (iN v)] M (fun r M' => r = b2i (0 ≤ v ∧ v ≤ 9) ∧ M' = M) := by
  refine CI.of (own := "RedSkiesModel") (ls0 := [some (.int (iN v))]) (by decide +kernel) rfl (Nat.le_of_ble_eq_true rfl) rfl ?_
  intro pP eE sS mI aA bB mM cC X hr hlk
  obtain ⟨Q, hQ⟩ : ∃ Q : State → Prop, Q = MQ bB (QI tT dD al (fun r M' => r = b2i (0 ≤ v ∧ v ≤ 9) ∧ M' = M)) aA sS 0 0 (fA al) := ⟨_, rfl⟩
  rw [← hQ]
  refine g_iload_n X dX10_isWindow_0 rfl rfl ?_
  refine g_i2l X dX10_isWindow_1 ⟨by omega, by omega⟩ ?_
  refine g_lconst X (v := 0) dX10_isWindow_2 (by decide +kernel) ?_
  refine g_ldc2 X (n := 9) wd_1057 (by decide +kernel) dX10_isWindow_3 ?_
  refine g_callSI X (c_X10_in lL tT dD al _ _ _ _ (by first | assumption | omega) (by first | assumption | omega) (by first | assumption | omega)) lk_RX10_98 rfl rfl ⟨by decide, by decide⟩ rfl (Nat.le_of_ble_eq_true rfl) dX10_isWindow_6 (fun r6 M6 hc6 => ?_)
  obtain ⟨hr6, hm6⟩ := hc6
  subst r6
  subst M6
  rw [hQ]
  refine g_zret X hr hlk (b2i_01 _) dX10_isWindow_9 ?_
  exact ⟨rfl, rfl⟩
set_option maxRecDepth 100000 in
set_option maxHeartbeats 4000000 in
theorem c_X10_isPart (lL : Launch) (tT : TT) (dD : va_G) (al : Int → Nat) (M : Mem) (v : Int) (hv : i32 v) : CI lL yX10_isPart cX10_isPart 1 FieldType.boolean 1 25 tT dD al [.int (iN v)] M (fun r M' => r = b2i (0 ≤ v ∧ v ≤ 1) ∧ M' = M) := by
  refine CI.of (own := "RedSkiesModel") (ls0 := [some (.int (iN v))]) (by decide +kernel) rfl (Nat.le_of_ble_eq_true rfl) rfl ?_
  intro pP eE sS mI aA bB mM cC X hr hlk
  obtain ⟨Q, hQ⟩ : ∃ Q : State → Prop, Q = MQ bB (QI tT dD al (fun r M' => r = b2i (0 ≤ v ∧ v ≤ 1) ∧ M' = M)) aA sS 0 0 (fA al) := ⟨_, rfl⟩
  rw [← hQ]
  refine g_iload_n X dX10_isPart_0 rfl rfl ?_
  refine g_i2l X dX10_isPart_1 ⟨by omega, by omega⟩ ?_
  refine g_lconst X (v := 0) dX10_isPart_2 (by decide +kernel) ?_
  refine g_lconst X (v := 1) dX10_isPart_3 (by decide +kernel) ?_
  refine g_callSI X (c_X10_in lL tT dD al _ _ _ _ (by first | assumption | omega) (by first | assumption | omega) (by first | assumption | omega)) lk_RX10_98 rfl rfl ⟨by decide, by decide⟩ rfl (Nat.le_of_ble_eq_true rfl) dX10_isPart_4 (fun r4 M4 hc4 => ?_)
  obtain ⟨hr4, hm4⟩ := hc4
  subst r4
  subst M4
  rw [hQ]
  refine g_zret X hr hlk (b2i_01 _) dX10_isPart_7 ?_
  exact ⟨rfl, rfl⟩
set_option maxRecDepth 100000 in
set_option maxHeartbeats 4000000 in
theorem c_X10_between (lL : Launch) (tT : TT) (dD : va_G) (al : Int → Nat) (M : Mem) (v : Int) (hv : i32 v) : CI lL yX10_between cX10_between 1 FieldType.int 0 0 tT dD al [.int (iN v)] M (fun r M' => r = btw v ∧ M' = M) := by
  refine CI.of (own := "RedSkiesModel") (ls0 := [some (.int (iN v))]) (by decide +kernel) rfl (Nat.le_of_ble_eq_true rfl) rfl ?_
  intro pP eE sS mI aA bB mM cC X hr hlk
  obtain ⟨Q, hQ⟩ : ∃ Q : State → Prop, Q = MQ bB (QI tT dD al (fun r M' => r = btw v ∧ M' = M)) aA sS 0 0 (fA al) := ⟨_, rfl⟩
  rw [← hQ]
  refine g_iload_n X dX10_between_0 rfl rfl ?_
  refine g_if_ge (tgt := 8) X dX10_between_1 (by decide) ⟨by omega, by omega⟩ (fun q1 => ?_) (fun q1 => ?_)
  · refine g_iload_n X dX10_between_8 rfl rfl ?_
    refine g_bipush X dX10_between_9 (by decide +kernel) ?_
    refine g_icmp_le (tgt := 19) X dX10_between_11 (by decide) ⟨by omega, by omega⟩ (by decide) (fun q11 => ?_) (fun q11 => ?_)
    · refine g_iload_n X dX10_between_19 rfl rfl ?_
      rw [hQ]
      refine g_iret X hr hlk dX10_between_20 ?_
      clear X hr hlk hQ
      exact ⟨by unfold btw; grind, rfl⟩
    · refine g_bipush X dX10_between_14 (by decide +kernel) ?_
      refine g_goto (tgt := 20) X dX10_between_16 (by decide) ?_
      rw [hQ]
      refine g_iret X hr hlk dX10_between_20 ?_
      clear X hr hlk hQ
      exact ⟨by unfold btw; grind, rfl⟩
  · refine g_iconst X dX10_between_4 ?_
    refine g_goto (tgt := 20) X dX10_between_5 (by decide) ?_
    rw [hQ]
    refine g_iret X hr hlk dX10_between_20 ?_
    clear X hr hlk hQ
    exact ⟨by unfold btw; grind, rfl⟩
set_option maxRecDepth 100000 in
set_option maxHeartbeats 4000000 in
theorem c_X10_rightOf (lL : Launch) (tT : TT) (dD : va_G) (al : Int → Nat) (M : Mem) (q c : Int) (hW : WV M) (h0 : 0 ≤ q) (h1 : q < M 114 23) (h2 : 0 ≤ c) (h3 : c < 12) : CI lL yX10_rightOf cX10_rightOf 6 FieldType.int 1 20 tT dD al [.ref (al 114), .int (iN q), .int (iN c)] M (fun r M' => r = rgt M q c ∧ M' = M) := by
  refine CI.of (own := "RedSkiesModel") (ls0 := [some (.ref (al 114)), some (.int (iN q)), some (.int (iN c)), none, none, none]) (by decide +kernel) rfl (Nat.le_of_ble_eq_true rfl) rfl ?_
  intro pP eE sS mI aA bB mM cC X hr hlk
  obtain ⟨Q, hQ⟩ : ∃ Q : State → Prop, Q = MQ bB (QI tT dD al (fun r M' => r = rgt M q c ∧ M' = M)) aA sS 0 0 (fA al) := ⟨_, rfl⟩
  rw [← hQ]
  have w1 := hW.row h0 h1
  have w2 := hW.col h0 h1 h2 h3
  have w3 := hW.lam
  have w4 := hW.pig
  have w5 := hW.n
  refine g_aload_n X dX10_rightOf_0 rfl rfl ?_
  refine g_getr (r := 124) X kd_114 fc9 (k := 24) (by decide) rfl wd_851 rfl (by decide) dX10_rightOf_1 ?_
  refine g_bipush X dX10_rightOf_4 (by decide +kernel) ?_
  refine g_iload_n X dX10_rightOf_6 rfl rfl ?_
  refine g_imul X dX10_rightOf_7 ?_
  refine g_iconst X dX10_rightOf_8 ?_
  refine g_iadd X dX10_rightOf_9 ?_
  refine g_iald X kd_124 (by omega) (by omega) dX10_rightOf_10 ?_
  refine g_istore_n_3 X dX10_rightOf_11 rfl rfl (fun v3_11 ev3_11 => ?_)
  subst v3_11
  refine g_aload_n X dX10_rightOf_12 rfl rfl ?_
  refine g_getr (r := 124) X kd_114 fc9 (k := 24) (by decide) rfl wd_851 rfl (by decide) dX10_rightOf_13 ?_
  refine g_bipush X dX10_rightOf_16 (by decide +kernel) ?_
  refine g_iload_n X dX10_rightOf_18 rfl rfl ?_
  refine g_imul X dX10_rightOf_19 ?_
  refine g_iconst X dX10_rightOf_20 ?_
  refine g_iadd X dX10_rightOf_21 ?_
  refine g_iald X kd_124 (by omega) (by omega) dX10_rightOf_22 ?_
  refine g_istore_4 X dX10_rightOf_23 rfl (fun v4_23 ev4_23 => ?_)
  subst v4_23
  refine g_aload_n X dX10_rightOf_25 rfl rfl ?_
  refine g_getr (r := 125) X kd_114 fc9 (k := 25) (by decide) rfl wd_852 rfl (by decide) dX10_rightOf_26 ?_
  refine g_bipush X dX10_rightOf_29 (by decide +kernel) ?_
  refine g_iload_n X dX10_rightOf_31 rfl rfl ?_
  refine g_imul X dX10_rightOf_32 ?_
  refine g_iload_n X dX10_rightOf_33 rfl rfl ?_
  refine g_iadd X dX10_rightOf_34 ?_
  refine g_iald X kd_125 (by omega) (by omega) dX10_rightOf_35 ?_
  refine g_istore_5 X dX10_rightOf_36 rfl (fun v5_36 ev5_36 => ?_)
  subst v5_36
  refine g_iload_n X dX10_rightOf_38 rfl rfl ?_
  refine g_iconst X dX10_rightOf_39 ?_
  refine g_icmp_ne (tgt := 48) X dX10_rightOf_40 (by decide) ⟨by omega, by omega⟩ (by decide) (fun q40 => ?_) (fun q40 => ?_)
  · refine g_iload X dX10_rightOf_48 rfl ?_
    refine g_aload_n X dX10_rightOf_50 rfl rfl ?_
    refine g_getr (r := 119) X kd_114 fc9 (k := 14) (by decide) rfl wd_841 rfl (by decide) dX10_rightOf_51 ?_
    refine g_iconst X dX10_rightOf_54 ?_
    refine g_iload_n X dX10_rightOf_55 rfl rfl ?_
    refine g_imul X dX10_rightOf_56 ?_
    refine g_iload_n X dX10_rightOf_57 rfl rfl ?_
    refine g_iconst X dX10_rightOf_58 ?_
    refine g_irem X dX10_rightOf_59 ⟨by omega, by omega⟩ ⟨by omega, by omega⟩ ?_
    refine g_iadd X dX10_rightOf_60 ?_
    have w6 := w3.2 (3 * M 124 (6 * q + 4) + c % 3) (by omega) (by omega)
    refine g_iald X kd_119 (by omega) (by omega) dX10_rightOf_61 ?_
    refine g_isub X dX10_rightOf_62 ?_
    refine g_callSI X (c_X10_between lL tT dD al _ _ ⟨by omega, by omega⟩) lk_RX10_198 rfl rfl ⟨by decide, by decide⟩ rfl (Nat.le_of_ble_eq_true rfl) dX10_rightOf_63 (fun r63 M63 hc63 => ?_)
    obtain ⟨hr63, hm63⟩ := hc63
    subst r63
    subst M63
    refine g_istore_5 X dX10_rightOf_66 rfl (fun v5_66 ev5_66 => ?_)
    subst v5_66
    refine g_iload_n X dX10_rightOf_68 rfl rfl ?_
    refine g_iconst X dX10_rightOf_69 ?_
    refine g_irem X dX10_rightOf_70 ⟨by omega, by omega⟩ ⟨by omega, by omega⟩ ?_
    refine g_if_gt (tgt := 80) X dX10_rightOf_71 (by decide) ⟨by omega, by omega⟩ (fun q71 => ?_) (fun q71 => ?_)
    · refine g_iload X dX10_rightOf_80 rfl ?_
      refine g_goto (tgt := 117) X dX10_rightOf_82 (by decide) ?_
      rw [hQ]
      refine g_iret X hr hlk dX10_rightOf_117 ?_
      clear X hr hlk hQ
      exact ⟨by unfold rgt; grind, rfl⟩
    · refine g_iload X dX10_rightOf_74 rfl ?_
      refine g_iconst X dX10_rightOf_76 ?_
      refine g_icmp_ne (tgt := 85) X dX10_rightOf_77 (by decide) ⟨by omega, by omega⟩ (by decide) (fun q77 => ?_) (fun q77 => ?_)
      · refine g_iload X dX10_rightOf_85 rfl ?_
        refine g_aload_n X dX10_rightOf_87 rfl rfl ?_
        refine g_getr (r := 123) X kd_114 fc9 (k := 22) (by decide) rfl wd_849 rfl (by decide) dX10_rightOf_88 ?_
        refine g_iload X dX10_rightOf_91 rfl ?_
        have w7 := w4.2 (M 124 (6 * q + 5)) (by omega) (by omega)
        refine g_iald X kd_123 (by omega) (by omega) dX10_rightOf_93 ?_
        refine g_sipush X dX10_rightOf_94 (by decide +kernel) ?_
        refine g_aload_n X dX10_rightOf_97 rfl rfl ?_
        refine g_getr (r := 124) X kd_114 fc9 (k := 24) (by decide) rfl wd_851 rfl (by decide) dX10_rightOf_98 ?_
        refine g_bipush X dX10_rightOf_101 (by decide +kernel) ?_
        refine g_iload_n X dX10_rightOf_103 rfl rfl ?_
        refine g_imul X dX10_rightOf_104 ?_
        refine g_iconst X dX10_rightOf_105 ?_
        refine g_iadd X dX10_rightOf_106 ?_
        refine g_iald X kd_124 (by omega) (by omega) dX10_rightOf_107 ?_
        refine g_isub X dX10_rightOf_108 ?_
        refine g_bipush X dX10_rightOf_109 (by decide +kernel) ?_
        refine g_idiv X dX10_rightOf_111 ⟨by omega, by omega⟩ ⟨by omega, by omega⟩ ?_
        refine g_imul X dX10_rightOf_112 ?_
        have w8 := mul_bd w7.2.1 w7.2.2 (b := (500 - M 124 (6 * q + 2)) / 50) (B := 10) (by omega) (by omega)
        have w9 := btw_rng (M 125 (12 * q + c))
        have w10 := btw_rng (M 125 (12 * q + c) - M 119 (3 * M 124 (6 * q + 4) + c % 3))
        refine g_iadd X dX10_rightOf_113 ?_
        refine g_callSI X (c_X10_between lL tT dD al _ _ ⟨by omega, by omega⟩) lk_RX10_198 rfl rfl ⟨by decide, by decide⟩ rfl (Nat.le_of_ble_eq_true rfl) dX10_rightOf_114 (fun r114 M114 hc114 => ?_)
        obtain ⟨hr114, hm114⟩ := hc114
        subst r114
        subst M114
        rw [hQ]
        refine g_iret X hr hlk dX10_rightOf_117 ?_
        clear X hr hlk hQ
        exact ⟨by unfold rgt; grind, rfl⟩
      · refine g_iload X dX10_rightOf_80 rfl ?_
        refine g_goto (tgt := 117) X dX10_rightOf_82 (by decide) ?_
        rw [hQ]
        refine g_iret X hr hlk dX10_rightOf_117 ?_
        clear X hr hlk hQ
        exact ⟨by unfold rgt; grind, rfl⟩
  · refine g_iload X dX10_rightOf_43 rfl ?_
    refine g_goto (tgt := 63) X dX10_rightOf_45 (by decide) ?_
    refine g_callSI X (c_X10_between lL tT dD al _ _ ⟨by omega, by omega⟩) lk_RX10_198 rfl rfl ⟨by decide, by decide⟩ rfl (Nat.le_of_ble_eq_true rfl) dX10_rightOf_63 (fun r63 M63 hc63 => ?_)
    obtain ⟨hr63, hm63⟩ := hc63
    subst r63
    subst M63
    refine g_istore_5 X dX10_rightOf_66 rfl (fun v5_66 ev5_66 => ?_)
    subst v5_66
    refine g_iload_n X dX10_rightOf_68 rfl rfl ?_
    refine g_iconst X dX10_rightOf_69 ?_
    refine g_irem X dX10_rightOf_70 ⟨by omega, by omega⟩ ⟨by omega, by omega⟩ ?_
    refine g_if_gt (tgt := 80) X dX10_rightOf_71 (by decide) ⟨by omega, by omega⟩ (fun q71 => ?_) (fun q71 => ?_)
    · refine g_iload X dX10_rightOf_80 rfl ?_
      refine g_goto (tgt := 117) X dX10_rightOf_82 (by decide) ?_
      rw [hQ]
      refine g_iret X hr hlk dX10_rightOf_117 ?_
      clear X hr hlk hQ
      exact ⟨by unfold rgt; grind, rfl⟩
    · refine g_iload X dX10_rightOf_74 rfl ?_
      refine g_iconst X dX10_rightOf_76 ?_
      refine g_icmp_ne (tgt := 85) X dX10_rightOf_77 (by decide) ⟨by omega, by omega⟩ (by decide) (fun q77 => ?_) (fun q77 => ?_)
      · refine g_iload X dX10_rightOf_85 rfl ?_
        refine g_aload_n X dX10_rightOf_87 rfl rfl ?_
        refine g_getr (r := 123) X kd_114 fc9 (k := 22) (by decide) rfl wd_849 rfl (by decide) dX10_rightOf_88 ?_
        refine g_iload X dX10_rightOf_91 rfl ?_
        have w7 := w4.2 (M 124 (6 * q + 5)) (by omega) (by omega)
        refine g_iald X kd_123 (by omega) (by omega) dX10_rightOf_93 ?_
        refine g_sipush X dX10_rightOf_94 (by decide +kernel) ?_
        refine g_aload_n X dX10_rightOf_97 rfl rfl ?_
        refine g_getr (r := 124) X kd_114 fc9 (k := 24) (by decide) rfl wd_851 rfl (by decide) dX10_rightOf_98 ?_
        refine g_bipush X dX10_rightOf_101 (by decide +kernel) ?_
        refine g_iload_n X dX10_rightOf_103 rfl rfl ?_
        refine g_imul X dX10_rightOf_104 ?_
        refine g_iconst X dX10_rightOf_105 ?_
        refine g_iadd X dX10_rightOf_106 ?_
        refine g_iald X kd_124 (by omega) (by omega) dX10_rightOf_107 ?_
        refine g_isub X dX10_rightOf_108 ?_
        refine g_bipush X dX10_rightOf_109 (by decide +kernel) ?_
        refine g_idiv X dX10_rightOf_111 ⟨by omega, by omega⟩ ⟨by omega, by omega⟩ ?_
        refine g_imul X dX10_rightOf_112 ?_
        have w8 := mul_bd w7.2.1 w7.2.2 (b := (500 - M 124 (6 * q + 2)) / 50) (B := 10) (by omega) (by omega)
        have w9 := btw_rng (M 125 (12 * q + c))
        have w10 := btw_rng (M 125 (12 * q + c) - M 119 (3 * M 124 (6 * q + 4) + c % 3))
        refine g_iadd X dX10_rightOf_113 ?_
        refine g_callSI X (c_X10_between lL tT dD al _ _ ⟨by omega, by omega⟩) lk_RX10_198 rfl rfl ⟨by decide, by decide⟩ rfl (Nat.le_of_ble_eq_true rfl) dX10_rightOf_114 (fun r114 M114 hc114 => ?_)
        obtain ⟨hr114, hm114⟩ := hc114
        subst r114
        subst M114
        rw [hQ]
        refine g_iret X hr hlk dX10_rightOf_117 ?_
        clear X hr hlk hQ
        exact ⟨by unfold rgt; grind, rfl⟩
      · refine g_iload X dX10_rightOf_80 rfl ?_
        refine g_goto (tgt := 117) X dX10_rightOf_82 (by decide) ?_
        rw [hQ]
        refine g_iret X hr hlk dX10_rightOf_117 ?_
        clear X hr hlk hQ
        exact ⟨by unfold rgt; grind, rfl⟩
