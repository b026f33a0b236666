set_option maxRecDepth 100000 in
set_option maxHeartbeats 4000000 in
theorem c_X9_isWithin (lL : Launch) (tT : TT) (dD : va_G) (al : Int → Nat) (M : Mem) (v last : Int) (hv : i32 v) (hl : i32 last) : CI lL yX9_isWithin cX9_isWithin 2 FieldType.boolean 0 0 tT dD al [.int (iN v), .int (iN last)] M (fun r M' => r = b2i (0 ≤ v ∧ v ≤ last) ∧ M' = M) := by
  refine CI.of (own := "RedSkies") (ls0 := [some (.int (iN v)), some (.int (iN last))]) (by decide +kernel) rfl (Nat.le_of_ble_eq_true rfl) rfl ?_
  intro pP eE sS mI aA bB mM cC X hr hlk
  obtain ⟨Q, hQ⟩ : ∃ Q : State → Prop, Q = MQ bB (QI tT dD al (fun r M' => r = b2i (0 ≤ v ∧ v ≤ last) ∧ M' = M)) aA sS 0 0 (fA al) := ⟨_, rfl⟩
  rw [← hQ]
  refine g_iload_n X dX9_isWithin_0 rfl rfl ?_
  refine g_if_lt (tgt := 13) X dX9_isWithin_1 (by decide) ⟨by omega, by omega⟩ (fun q1 => ?_) (fun q1 => ?_)
  · refine g_iconst X dX9_isWithin_13 ?_
    rw [hQ]
    refine g_zret X hr hlk (by decide) dX9_isWithin_14 ?_
    first | exact ⟨b2i_1 (by omega), rfl⟩ | exact ⟨b2i_0 (by omega), rfl⟩
  · refine g_iload_n X dX9_isWithin_4 rfl rfl ?_
    refine g_iload_n X dX9_isWithin_5 rfl rfl ?_
    refine g_icmp_gt (tgt := 13) X dX9_isWithin_6 (by decide) ⟨by omega, by omega⟩ ⟨by omega, by omega⟩ (fun q6 => ?_) (fun q6 => ?_)
    · refine g_iconst X dX9_isWithin_13 ?_
      rw [hQ]
      refine g_zret X hr hlk (by decide) dX9_isWithin_14 ?_
      first | exact ⟨b2i_1 (by omega), rfl⟩ | exact ⟨b2i_0 (by omega), rfl⟩
    · refine g_iconst X dX9_isWithin_9 ?_
      refine g_goto (tgt := 14) X dX9_isWithin_10 (by decide) ?_
      rw [hQ]
      refine g_zret X hr hlk (by decide) dX9_isWithin_14 ?_
      first | exact ⟨b2i_1 (by omega), rfl⟩ | exact ⟨b2i_0 (by omega), rfl⟩
set_option maxRecDepth 100000 in
set_option maxHeartbeats 4000000 in
theorem c_X9_isLamp (lL : Launch) (tT : TT) (dD : va_G) (al : Int → Nat) (M : Mem) (v : Int) (hv : i32 v) (h1 : i32 (M 0 13)) : CI lL yX9_isLamp cX9_isLamp 2 FieldType.boolean 0 0 tT dD al [.ref (al 0), .int (iN v)] M (fun r M' => r = b2i (0 ≤ v ∧ v < M 0 13) ∧ M' = M) := by
  refine CI.of (own := "RedSkies") (ls0 := [some (.ref (al 0)), some (.int (iN v))]) (by decide +kernel) rfl (Nat.le_of_ble_eq_true rfl) rfl ?_
  intro pP eE sS mI aA bB mM cC X hr hlk
  obtain ⟨Q, hQ⟩ : ∃ Q : State → Prop, Q = MQ bB (QI tT dD al (fun r M' => r = b2i (0 ≤ v ∧ v < M 0 13) ∧ M' = M)) aA sS 0 0 (fA al) := ⟨_, rfl⟩
  rw [← hQ]
  refine g_iload_n X dX9_isLamp_0 rfl rfl ?_
  refine g_if_lt (tgt := 16) X dX9_isLamp_1 (by decide) ⟨by omega, by omega⟩ (fun q1 => ?_) (fun q1 => ?_)
  · refine g_iconst X dX9_isLamp_16 ?_
    rw [hQ]
    refine g_zret X hr hlk (by decide) dX9_isLamp_17 ?_
    first | exact ⟨b2i_1 (by omega), rfl⟩ | exact ⟨b2i_0 (by omega), rfl⟩
  · refine g_iload_n X dX9_isLamp_4 rfl rfl ?_
    refine g_aload_n X dX9_isLamp_5 rfl rfl ?_
    refine g_geti (kz := 13) X kd_0 fc8 (k := 13) (by decide) rfl wd_316 rfl dX9_isLamp_6 ?_
    refine g_icmp_ge (tgt := 16) X dX9_isLamp_9 (by decide) ⟨by omega, by omega⟩ ⟨by omega, by omega⟩ (fun q9 => ?_) (fun q9 => ?_)
    · refine g_iconst X dX9_isLamp_16 ?_
      rw [hQ]
      refine g_zret X hr hlk (by decide) dX9_isLamp_17 ?_
      first | exact ⟨b2i_1 (by omega), rfl⟩ | exact ⟨b2i_0 (by omega), rfl⟩
    · refine g_iconst X dX9_isLamp_12 ?_
      refine g_goto (tgt := 17) X dX9_isLamp_13 (by decide) ?_
      rw [hQ]
      refine g_zret X hr hlk (by decide) dX9_isLamp_17 ?_
      first | exact ⟨b2i_1 (by omega), rfl⟩ | exact ⟨b2i_0 (by omega), rfl⟩
set_option maxRecDepth 100000 in
set_option maxHeartbeats 4000000 in
theorem c_X9_isPigment (lL : Launch) (tT : TT) (dD : va_G) (al : Int → Nat) (M : Mem) (v : Int) (hv : i32 v) (h1 : i32 (M 0 14)) : CI lL yX9_isPigment cX9_isPigment 2 FieldType.boolean 0 0 tT dD al [.ref (al 0), .int (iN v)] M (fun r M' => r = b2i (0 ≤ v ∧ v < M 0 14) ∧ M' = M) := by
  refine CI.of (own := "RedSkies") (ls0 := [some (.ref (al 0)), some (.int (iN v))]) (by decide +kernel) rfl (Nat.le_of_ble_eq_true rfl) rfl ?_
  intro pP eE sS mI aA bB mM cC X hr hlk
  obtain ⟨Q, hQ⟩ : ∃ Q : State → Prop, Q = MQ bB (QI tT dD al (fun r M' => r = b2i (0 ≤ v ∧ v < M 0 14) ∧ M' = M)) aA sS 0 0 (fA al) := ⟨_, rfl⟩
  rw [← hQ]
  refine g_iload_n X dX9_isPigment_0 rfl rfl ?_
  refine g_if_lt (tgt := 16) X dX9_isPigment_1 (by decide) ⟨by omega, by omega⟩ (fun q1 => ?_) (fun q1 => ?_)
  · refine g_iconst X dX9_isPigment_16 ?_
    rw [hQ]
    refine g_zret X hr hlk (by decide) dX9_isPigment_17 ?_
    first | exact ⟨b2i_1 (by omega), rfl⟩ | exact ⟨b2i_0 (by omega), rfl⟩
  · refine g_iload_n X dX9_isPigment_4 rfl rfl ?_
    refine g_aload_n X dX9_isPigment_5 rfl rfl ?_
    refine g_geti (kz := 14) X kd_0 fc8 (k := 14) (by decide) rfl wd_317 rfl dX9_isPigment_6 ?_
    refine g_icmp_ge (tgt := 16) X dX9_isPigment_9 (by decide) ⟨by omega, by omega⟩ ⟨by omega, by omega⟩ (fun q9 => ?_) (fun q9 => ?_)
    · refine g_iconst X dX9_isPigment_16 ?_
      rw [hQ]
      refine g_zret X hr hlk (by decide) dX9_isPigment_17 ?_
      first | exact ⟨b2i_1 (by omega), rfl⟩ | exact ⟨b2i_0 (by omega), rfl⟩
    · refine g_iconst X dX9_isPigment_12 ?_
      refine g_goto (tgt := 17) X dX9_isPigment_13 (by decide) ?_
      rw [hQ]
      refine g_zret X hr hlk (by decide) dX9_isPigment_17 ?_
      first | exact ⟨b2i_1 (by omega), rfl⟩ | exact ⟨b2i_0 (by omega), rfl⟩
set_option maxRecDepth 100000 in
set_option maxHeartbeats 4000000 in
theorem c_X9_isMeasure (lL : Launch) (tT : TT) (dD : va_G) (al : Int → Nat) (M : Mem) (v : Int) (hv : i32 v) (h1 : i32 (M 0 15)) : CI lL yX9_isMeasure cX9_isMeasure 2 FieldType.boolean 0 0 tT dD al [.ref (al 0), .int (iN v)] M (fun r M' => r = b2i (0 ≤ v ∧ v < M 0 15) ∧ M' = M) := by
  refine CI.of (own := "RedSkies") (ls0 := [some (.ref (al 0)), some (.int (iN v))]) (by decide +kernel) rfl (Nat.le_of_ble_eq_true rfl) rfl ?_
  intro pP eE sS mI aA bB mM cC X hr hlk
  obtain ⟨Q, hQ⟩ : ∃ Q : State → Prop, Q = MQ bB (QI tT dD al (fun r M' => r = b2i (0 ≤ v ∧ v < M 0 15) ∧ M' = M)) aA sS 0 0 (fA al) := ⟨_, rfl⟩
  rw [← hQ]
  refine g_iload_n X dX9_isMeasure_0 rfl rfl ?_
  refine g_if_lt (tgt := 16) X dX9_isMeasure_1 (by decide) ⟨by omega, by omega⟩ (fun q1 => ?_) (fun q1 => ?_)
  · refine g_iconst X dX9_isMeasure_16 ?_
    rw [hQ]
    refine g_zret X hr hlk (by decide) dX9_isMeasure_17 ?_
    first | exact ⟨b2i_1 (by omega), rfl⟩ | exact ⟨b2i_0 (by omega), rfl⟩
  · refine g_iload_n X dX9_isMeasure_4 rfl rfl ?_
    refine g_aload_n X dX9_isMeasure_5 rfl rfl ?_
    refine g_geti (kz := 15) X kd_0 fc8 (k := 15) (by decide) rfl wd_318 rfl dX9_isMeasure_6 ?_
    refine g_icmp_ge (tgt := 16) X dX9_isMeasure_9 (by decide) ⟨by omega, by omega⟩ ⟨by omega, by omega⟩ (fun q9 => ?_) (fun q9 => ?_)
    · refine g_iconst X dX9_isMeasure_16 ?_
      rw [hQ]
      refine g_zret X hr hlk (by decide) dX9_isMeasure_17 ?_
      first | exact ⟨b2i_1 (by omega), rfl⟩ | exact ⟨b2i_0 (by omega), rfl⟩
    · refine g_iconst X dX9_isMeasure_12 ?_
      refine g_goto (tgt := 17) X dX9_isMeasure_13 (by decide) ?_
      rw [hQ]
      refine g_zret X hr hlk (by decide) dX9_isMeasure_17 ?_
      first | exact ⟨b2i_1 (by omega), rfl⟩ | exact ⟨b2i_0 (by omega), rfl⟩
set_option maxRecDepth 100000 in
set_option maxHeartbeats 4000000 in
theorem c_X8_has (lL : Launch) (tT : TT) (dD : va_G) (al : Int → Nat) (M : Mem) (v : Int) (hv : i32 v) (h1 : i32 (M 24 5)) : CI lL yX8_has cX8_has 2 FieldType.boolean 0 0 tT dD al [.ref (al 24), .int (iN v)] M (fun r M' => r = b2i (0 ≤ v ∧ v < M 24 5) ∧ M' = M) := by
  refine CI.of (own := "RedSkies$Show") (ls0 := [some (.ref (al 24)), some (.int (iN v))]) (by decide +kernel) rfl (Nat.le_of_ble_eq_true rfl) rfl ?_
  intro pP eE sS mI aA bB mM cC X hr hlk
  obtain ⟨Q, hQ⟩ : ∃ Q : State → Prop, Q = MQ bB (QI tT dD al (fun r M' => r = b2i (0 ≤ v ∧ v < M 24 5) ∧ M' = M)) aA sS 0 0 (fA al) := ⟨_, rfl⟩
  rw [← hQ]
  refine g_iload_n X dX8_has_0 rfl rfl ?_
  refine g_if_lt (tgt := 16) X dX8_has_1 (by decide) ⟨by omega, by omega⟩ (fun q1 => ?_) (fun q1 => ?_)
  · refine g_iconst X dX8_has_16 ?_
    rw [hQ]
    refine g_zret X hr hlk (by decide) dX8_has_17 ?_
    first | exact ⟨b2i_1 (by omega), rfl⟩ | exact ⟨b2i_0 (by omega), rfl⟩
  · refine g_iload_n X dX8_has_4 rfl rfl ?_
    refine g_aload_n X dX8_has_5 rfl rfl ?_
    refine g_geti (kz := 5) X kd_24 fc7 (k := 5) (by decide) rfl wd_227 rfl dX8_has_6 ?_
    refine g_icmp_ge (tgt := 16) X dX8_has_9 (by decide) ⟨by omega, by omega⟩ ⟨by omega, by omega⟩ (fun q9 => ?_) (fun q9 => ?_)
    · refine g_iconst X dX8_has_16 ?_
      rw [hQ]
      refine g_zret X hr hlk (by decide) dX8_has_17 ?_
      first | exact ⟨b2i_1 (by omega), rfl⟩ | exact ⟨b2i_0 (by omega), rfl⟩
    · refine g_iconst X dX8_has_12 ?_
      refine g_goto (tgt := 17) X dX8_has_13 (by decide) ?_
      rw [hQ]
      refine g_zret X hr hlk (by decide) dX8_has_17 ?_
      first | exact ⟨b2i_1 (by omega), rfl⟩ | exact ⟨b2i_0 (by omega), rfl⟩
set_option maxRecDepth 100000 in
set_option maxHeartbeats 4000000 in
theorem c_X9_isOfKind (lL : Launch) (tT : TT) (dD : va_G) (al : Int → Nat) (M : Mem) (a b : Int) (ha : i32 a) (hb : i32 b) : CI lL yX9_isOfKind cX9_isOfKind 2 FieldType.boolean 0 0 tT dD al [.int (iN a), .int (iN b)] M (fun r M' => r = b2i (b = 0 ∨ b = a ∨ (b = 1 ∧ a = 2)) ∧ M' = M) := by
  refine CI.of (own := "RedSkies") (ls0 := [some (.int (iN a)), some (.int (iN b))]) (by decide +kernel) rfl (Nat.le_of_ble_eq_true rfl) rfl ?_
  intro pP eE sS mI aA bB mM cC X hr hlk
  obtain ⟨Q, hQ⟩ : ∃ Q : State → Prop, Q = MQ bB (QI tT dD al (fun r M' => r = b2i (b = 0 ∨ b = a ∨ (b = 1 ∧ a = 2)) ∧ M' = M)) aA sS 0 0 (fA al) := ⟨_, rfl⟩
  rw [← hQ]
  refine g_iload_n X dX9_isOfKind_0 rfl rfl ?_
  refine g_if_eq (tgt := 19) X dX9_isOfKind_1 (by decide) ⟨by omega, by omega⟩ (fun q1 => ?_) (fun q1 => ?_)
  · refine g_iconst X dX9_isOfKind_19 ?_
    refine g_goto (tgt := 24) X dX9_isOfKind_20 (by decide) ?_
    rw [hQ]
    refine g_zret X hr hlk (by decide) dX9_isOfKind_24 ?_
    first | exact ⟨b2i_1 (by omega), rfl⟩ | exact ⟨b2i_0 (by omega), rfl⟩
  · refine g_iload_n X dX9_isOfKind_4 rfl rfl ?_
    refine g_iload_n X dX9_isOfKind_5 rfl rfl ?_
    refine g_icmp_eq (tgt := 19) X dX9_isOfKind_6 (by decide) ⟨by omega, by omega⟩ ⟨by omega, by omega⟩ (fun q6 => ?_) (fun q6 => ?_)
    · refine g_iconst X dX9_isOfKind_19 ?_
      refine g_goto (tgt := 24) X dX9_isOfKind_20 (by decide) ?_
      rw [hQ]
      refine g_zret X hr hlk (by decide) dX9_isOfKind_24 ?_
      first | exact ⟨b2i_1 (by omega), rfl⟩ | exact ⟨b2i_0 (by omega), rfl⟩
    · refine g_iload_n X dX9_isOfKind_9 rfl rfl ?_
      refine g_iconst X dX9_isOfKind_10 ?_
      refine g_icmp_ne (tgt := 23) X dX9_isOfKind_11 (by decide) ⟨by omega, by omega⟩ (by decide) (fun q11 => ?_) (fun q11 => ?_)
      · refine g_iconst X dX9_isOfKind_23 ?_
        rw [hQ]
        refine g_zret X hr hlk (by decide) dX9_isOfKind_24 ?_
        first | exact ⟨b2i_1 (by omega), rfl⟩ | exact ⟨b2i_0 (by omega), rfl⟩
      · refine g_iload_n X dX9_isOfKind_14 rfl rfl ?_
        refine g_iconst X dX9_isOfKind_15 ?_
        refine g_icmp_ne (tgt := 23) X dX9_isOfKind_16 (by decide) ⟨by omega, by omega⟩ (by decide) (fun q16 => ?_) (fun q16 => ?_)
        · refine g_iconst X dX9_isOfKind_23 ?_
          rw [hQ]
          refine g_zret X hr hlk (by decide) dX9_isOfKind_24 ?_
          first | exact ⟨b2i_1 (by omega), rfl⟩ | exact ⟨b2i_0 (by omega), rfl⟩
        · refine g_iconst X dX9_isOfKind_19 ?_
          refine g_goto (tgt := 24) X dX9_isOfKind_20 (by decide) ?_
          rw [hQ]
          refine g_zret X hr hlk (by decide) dX9_isOfKind_24 ?_
          first | exact ⟨b2i_1 (by omega), rfl⟩ | exact ⟨b2i_0 (by omega), rfl⟩
set_option maxRecDepth 100000 in
set_option maxHeartbeats 4000000 in
theorem c_X8_isCounted (lL : Launch) (tT : TT) (dD : va_G) (al : Int → Nat) (M : Mem) (q : Int) (h0 : 0 ≤ q) (h1 : q < 16) (h2 : i32 (M (26 + q) 0)) : CI lL yX8_isCounted cX8_isCounted 2 FieldType.boolean 0 0 tT dD al [.ref (al 24), .int (iN q)] M (fun r M' => r = b2i (M (26 + q) 0 ≠ 3) ∧ M' = M) := by
  refine CI.of (own := "RedSkies$Show") (ls0 := [some (.ref (al 24)), some (.int (iN q))]) (by decide +kernel) rfl (Nat.le_of_ble_eq_true rfl) rfl ?_
  intro pP eE sS mI aA bB mM cC X hr hlk
  obtain ⟨Q, hQ⟩ : ∃ Q : State → Prop, Q = MQ bB (QI tT dD al (fun r M' => r = b2i (M (26 + q) 0 ≠ 3) ∧ M' = M)) aA sS 0 0 (fA al) := ⟨_, rfl⟩
  rw [← hQ]
  refine g_aload_n X dX8_isCounted_0 rfl rfl ?_
  refine g_getr (r := 25) X kd_24 fc7 (k := 0) (by decide) rfl wd_216 rfl (by decide) dX8_isCounted_1 ?_
  refine g_iload_n X dX8_isCounted_4 rfl rfl ?_
  have b0_5_4 : 0 ≤ q := by omega
  have b1_5_4 : q < 16 := by omega
  refine g_aald X kd_25 (bz := 26) rfl b0_5_4 b1_5_4 dX8_isCounted_5 ?_
  have kr_5_4 := kr_26 b0_5_4 b1_5_4
  refine g_iconst X dX8_isCounted_6 ?_
  refine g_iald X kr_5_4 (by decide) (by decide) dX8_isCounted_7 ?_
  refine g_iconst X dX8_isCounted_8 ?_
  refine g_icmp_eq (tgt := 16) X dX8_isCounted_9 (by decide) ⟨by omega, by omega⟩ (by decide) (fun q9 => ?_) (fun q9 => ?_)
  · refine g_iconst X dX8_isCounted_16 ?_
    rw [hQ]
    refine g_zret X hr hlk (by decide) dX8_isCounted_17 ?_
    first | exact ⟨b2i_1 (by omega), rfl⟩ | exact ⟨b2i_0 (by omega), rfl⟩
  · refine g_iconst X dX8_isCounted_12 ?_
    refine g_goto (tgt := 17) X dX8_isCounted_13 (by decide) ?_
    rw [hQ]
    refine g_zret X hr hlk (by decide) dX8_isCounted_17 ?_
    first | exact ⟨b2i_1 (by omega), rfl⟩ | exact ⟨b2i_0 (by omega), rfl⟩
