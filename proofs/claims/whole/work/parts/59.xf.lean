set_option maxRecDepth 100000 in
set_option maxHeartbeats 4000000 in
theorem c_X8_isCountedV (lL : Launch) (tT : TT) (dD : va_G) (al : Int → Nat) (M : Mem) (q : Int) (hV : IV M) (h0 : 0 ≤ q) (h1 : q < M 114 23) : CI lL yX8_isCounted cX8_isCounted 2 FieldType.boolean 0 0 tT dD al [.ref (al 24), .int (iN q)] M (fun r M' => r = b2i (M 124 (6 * q) ≠ 3) ∧ M' = M) := by
  refine CI.of (own := "RedSkies$Show") (ls0 := [some (.ref (al 24)), some (.int (iN q))]) (by decide +kernel) rfl (Nat.le_of_ble_eq_true rfl) rfl ?_
  intro pP eE sS mI aA bB mM cC X hr hlk
  obtain ⟨Q, hQ⟩ : ∃ Q : State → Prop, Q = MQ bB (QI tT dD al (fun r M' => r = b2i (M 124 (6 * q) ≠ 3) ∧ M' = M)) aA sS 0 0 (fA al) := ⟨_, rfl⟩
  rw [← hQ]
  have hW := hV.w
  have w2 := hW.n
  have n1 := hV.hn
  have w1 := hW.row h0 h1
  have f0 := hV.f0 h0 h1
  refine g_aload_n X dX8_isCounted_0 rfl rfl ?_
  refine g_getr (r := 25) X kd_24 fc7 (k := 0) (by decide) rfl wd_216 rfl (by decide) dX8_isCounted_1 ?_
  refine g_iload_n X dX8_isCounted_4 rfl rfl ?_
  have b0_5_4 : 0 ≤ q := by omega
  have b1_5_4 : q < 16 := by omega
  refine g_aald X kd_25 (bz := 26) rfl b0_5_4 b1_5_4 dX8_isCounted_5 ?_
  have kr_5_4 := kr_26 b0_5_4 b1_5_4
  refine g_iconst X dX8_isCounted_6 ?_
  refine g_iald X kr_5_4 (by decide) (by decide) dX8_isCounted_7 ?_
  refine g_iconst X dX8_isCounted_8 ?_
  refine g_icmp_eq (tgt := 16) X dX8_isCounted_9 (by decide) ⟨by omega, by omega⟩ (by decide) (fun q9 => ?_) (fun q9 => ?_)
  · refine g_iconst X dX8_isCounted_16 ?_
    rw [hQ]
    refine g_zret X hr hlk (by decide) dX8_isCounted_17 ?_
    first | exact ⟨b2i_1 (by omega), rfl⟩ | exact ⟨b2i_0 (by omega), rfl⟩
  · refine g_iconst X dX8_isCounted_12 ?_
    refine g_goto (tgt := 17) X dX8_isCounted_13 (by decide) ?_
    rw [hQ]
    refine g_zret X hr hlk (by decide) dX8_isCounted_17 ?_
    first | exact ⟨b2i_1 (by omega), rfl⟩ | exact ⟨b2i_0 (by omega), rfl⟩
set_option maxRecDepth 100000 in
set_option maxHeartbeats 4000000 in
theorem c_X9_putRight (lL : Launch) (tT : TT) (dD : va_G) (al : Int → Nat) (M : Mem) (q c : Int) (hV : IV M) (h0 : 0 ≤ q) (h1 : q < M 114 23) (h2 : 0 ≤ c) (h3 : c < 12) : CI lL yX9_putRight cX9_putRight 8 FieldType.int 1 21 tT dD al [.ref (al 0), .int (iN q), .int (iN c)] M (fun r M' => r = rgt M q c ∧ M' = M) := by
  refine CI.of (own := "RedSkies") (ls0 := [some (.ref (al 0)), some (.int (iN q)), some (.int (iN c)), none, none, none, none, none]) (by decide +kernel) rfl (Nat.le_of_ble_eq_true rfl) rfl ?_
  intro pP eE sS mI aA bB mM cC X hr hlk
  obtain ⟨Q, hQ⟩ : ∃ Q : State → Prop, Q = MQ bB (QI tT dD al (fun r M' => r = rgt M q c ∧ M' = M)) aA sS 0 0 (fA al) := ⟨_, rfl⟩
  rw [← hQ]
  have hW := hV.w
  have w2 := hW.n
  have n1 := hV.hn
  have w1 := hW.row h0 h1
  have w3 := hW.col h0 h1 h2 h3
  have w4 := hW.lam
  have w5 := hW.pig
  have e1 := hV.la
  have e2 := hV.pi
  refine g_iload_n X dX9_putRight_0 rfl rfl ?_
  refine g_iconst X dX9_putRight_1 ?_
  refine g_irem X dX9_putRight_2 ⟨by omega, by omega⟩ ⟨by omega, by omega⟩ ?_
  refine g_istore_n_3 X dX9_putRight_3 rfl rfl (fun v3_3 ev3_3 => ?_)
  subst v3_3
  refine g_aload_n X dX9_putRight_4 rfl rfl ?_
  refine g_getr (r := 24) X kd_0 fc8 (k := 9) (by decide) rfl wd_312 rfl (by decide) dX9_putRight_5 ?_
  refine g_getr (r := 42) X kd_24 fc7 (k := 1) (by decide) rfl wd_220 rfl (by decide) dX9_putRight_8 ?_
  refine g_iload_n X dX9_putRight_11 rfl rfl ?_
  have b0_12_9 : 0 ≤ q := by omega
  have b1_12_9 : q < 16 := by omega
  refine g_aald X kd_42 (bz := 43) rfl b0_12_9 b1_12_9 dX9_putRight_12 ?_
  have kr_12_9 := kr_43 b0_12_9 b1_12_9
  refine g_iload_n X dX9_putRight_13 rfl rfl ?_
  refine g_iald X kr_12_9 (by omega) (by omega) dX9_putRight_14 ?_
  refine g_teq (b := M 125 (12 * q + c)) (by exact hV.se h0 h1 h2 h3) ?_
  refine g_istore_4 X dX9_putRight_15 rfl (fun v4_15 ev4_15 => ?_)
  subst v4_15
  refine g_aload_n X dX9_putRight_17 rfl rfl ?_
  refine g_getr (r := 24) X kd_0 fc8 (k := 9) (by decide) rfl wd_312 rfl (by decide) dX9_putRight_18 ?_
  refine g_getr (r := 25) X kd_24 fc7 (k := 0) (by decide) rfl wd_217 rfl (by decide) dX9_putRight_21 ?_
  refine g_iload_n X dX9_putRight_24 rfl rfl ?_
  have b0_25_17 : 0 ≤ q := by omega
  have b1_25_17 : q < 16 := by omega
  refine g_aald X kd_25 (bz := 26) rfl b0_25_17 b1_25_17 dX9_putRight_25 ?_
  have kr_25_17 := kr_26 b0_25_17 b1_25_17
  refine g_iconst X dX9_putRight_26 ?_
  refine g_iald X kr_25_17 (by decide) (by decide) dX9_putRight_27 ?_
  refine g_teq (b := M 124 (6 * q + 4)) (by exact hV.fa h0 h1 (by decide) (by decide)) ?_
  refine g_istore_5 X dX9_putRight_28 rfl (fun v5_28 ev5_28 => ?_)
  subst v5_28
  refine g_aload_n X dX9_putRight_30 rfl rfl ?_
  refine g_iload X dX9_putRight_31 rfl ?_
  refine g_callVI X (c_X9_isLamp lL tT dD al _ _ ⟨by omega, by omega⟩ ⟨by omega, by omega⟩) kd_0 fc8 lk_RX9_133 rfl rfl ⟨by decide, by decide⟩ rfl (Nat.le_of_ble_eq_true rfl) dX9_putRight_33 (fun r33 M33 hc33 => ?_)
  obtain ⟨hr33, hm33⟩ := hc33
  subst r33
  subst M33
  refine g_if_eq (tgt := 62) X dX9_putRight_36 (by decide) (b2i_i32 _) (fun q36 => ?_) (fun q36 => ?_)
  · have q36 := b2i_f q36
    refine g_aload_n X dX9_putRight_62 rfl rfl ?_
    refine g_getr (r := 24) X kd_0 fc8 (k := 9) (by decide) rfl wd_312 rfl (by decide) dX9_putRight_63 ?_
    refine g_getr (r := 25) X kd_24 fc7 (k := 0) (by decide) rfl wd_217 rfl (by decide) dX9_putRight_66 ?_
    refine g_iload_n X dX9_putRight_69 rfl rfl ?_
    have b0_70_29 : 0 ≤ q := by omega
    have b1_70_29 : q < 16 := by omega
    refine g_aald X kd_25 (bz := 26) rfl b0_70_29 b1_70_29 dX9_putRight_70 ?_
    have kr_70_29 := kr_26 b0_70_29 b1_70_29
    refine g_iconst X dX9_putRight_71 ?_
    refine g_iald X kr_70_29 (by decide) (by decide) dX9_putRight_72 ?_
    refine g_teq (b := M 124 (6 * q + 5)) (by exact hV.fa h0 h1 (by decide) (by decide)) ?_
    refine g_istore_6 X dX9_putRight_73 rfl (fun v6_73 ev6_73 => ?_)
    subst v6_73
    refine g_iload_n X dX9_putRight_75 rfl rfl ?_
    refine g_if_ne (tgt := 128) X dX9_putRight_76 (by decide) ⟨by omega, by omega⟩ (fun q76 => ?_) (fun q76 => ?_)
    · refine g_iload X dX9_putRight_128 rfl ?_
      rw [hQ]
      refine g_iret X hr hlk dX9_putRight_130 ?_
      exact ⟨by unfold rgt btw; generalize M 123 (M 124 (6 * q + 5)) * ((500 - M 124 (6 * q + 2)) / 50) = Z at *; (repeat' split) <;> omega, rfl⟩
    · refine g_aload_n X dX9_putRight_79 rfl rfl ?_
      refine g_iload X dX9_putRight_80 rfl ?_
      refine g_callVI X (c_X9_isPigment lL tT dD al _ _ ⟨by omega, by omega⟩ ⟨by omega, by omega⟩) kd_0 fc8 lk_RX9_137 rfl rfl ⟨by decide, by decide⟩ rfl (Nat.le_of_ble_eq_true rfl) dX9_putRight_82 (fun r82 M82 hc82 => ?_)
      obtain ⟨hr82, hm82⟩ := hc82
      subst r82
      subst M82
      refine g_if_eq (tgt := 128) X dX9_putRight_85 (by decide) (b2i_i32 _) (fun q85 => ?_) (fun q85 => ?_)
      · have q85 := b2i_f q85
        refine g_iload X dX9_putRight_128 rfl ?_
        rw [hQ]
        refine g_iret X hr hlk dX9_putRight_130 ?_
        exact ⟨by unfold rgt btw; generalize M 123 (M 124 (6 * q + 5)) * ((500 - M 124 (6 * q + 2)) / 50) = Z at *; (repeat' split) <;> omega, rfl⟩
      · have q85 := b2i_t q85
        refine g_aload_n X dX9_putRight_88 rfl rfl ?_
        refine g_getr (r := 16) X kd_0 fc8 (k := 6) (by decide) rfl wd_309 rfl (by decide) dX9_putRight_89 ?_
        refine g_iload X dX9_putRight_92 rfl ?_
        refine g_iald X kd_16 (by omega) (by omega) dX9_putRight_94 ?_
        have w7 := w5.2 (M 124 (6 * q + 5)) (by omega) (by omega)
        have w8 := mul_bd w7.2.1 w7.2.2 (b := (500 - M 124 (6 * q + 2)) / 50) (B := 10) (by omega) (by omega)
        refine g_teq (b := M 123 (M 124 (6 * q + 5))) (by exact (hV.pr (by omega) (by omega)).2) ?_
        refine g_sipush X dX9_putRight_95 (by decide +kernel) ?_
        refine g_aload_n X dX9_putRight_98 rfl rfl ?_
        refine g_getr (r := 24) X kd_0 fc8 (k := 9) (by decide) rfl wd_312 rfl (by decide) dX9_putRight_99 ?_
        refine g_getr (r := 25) X kd_24 fc7 (k := 0) (by decide) rfl wd_217 rfl (by decide) dX9_putRight_102 ?_
        refine g_iload_n X dX9_putRight_105 rfl rfl ?_
        have b0_106_52 : 0 ≤ q := by omega
        have b1_106_52 : q < 16 := by omega
        refine g_aald X kd_25 (bz := 26) rfl b0_106_52 b1_106_52 dX9_putRight_106 ?_
        have kr_106_52 := kr_26 b0_106_52 b1_106_52
        refine g_iconst X dX9_putRight_107 ?_
        refine g_iald X kr_106_52 (by decide) (by decide) dX9_putRight_108 ?_
        refine g_teq (b := M 124 (6 * q + 2)) (by exact hV.fa h0 h1 (by decide) (by decide)) ?_
        refine g_isub X dX9_putRight_109 ?_
        refine g_bipush X dX9_putRight_110 (by decide +kernel) ?_
        refine g_idiv X dX9_putRight_112 ⟨by omega, by omega⟩ ⟨by omega, by omega⟩ ?_
        refine g_imul X dX9_putRight_113 ?_
        refine g_istore_7 X dX9_putRight_114 rfl (fun v7_114 ev7_114 => ?_)
        subst v7_114
        refine g_bipush X dX9_putRight_116 (by decide +kernel) ?_
        refine g_iload X dX9_putRight_118 rfl ?_
        refine g_iload X dX9_putRight_120 rfl ?_
        refine g_iadd X dX9_putRight_122 ?_
        refine g_mmin X wd_555 wd_556 wd_80 wd_557 (by decide) ⟨by omega, by omega⟩ rfl ⟨by decide, by decide⟩ (Nat.le_of_ble_eq_true rfl) dX9_putRight_123 ?_
        refine g_istore_4 X dX9_putRight_126 rfl (fun v4_126 ev4_126 => ?_)
        subst v4_126
        refine g_iload X dX9_putRight_128 rfl ?_
        rw [hQ]
        refine g_iret X hr hlk dX9_putRight_130 ?_
        exact ⟨by unfold rgt btw; generalize M 123 (M 124 (6 * q + 5)) * ((500 - M 124 (6 * q + 2)) / 50) = Z at *; (repeat' split) <;> omega, rfl⟩
  · have q36 := b2i_t q36
    refine g_iconst X dX9_putRight_39 ?_
    refine g_bipush X dX9_putRight_40 (by decide +kernel) ?_
    refine g_iload X dX9_putRight_42 rfl ?_
    refine g_aload_n X dX9_putRight_44 rfl rfl ?_
    refine g_getr (r := 10) X kd_0 fc8 (k := 4) (by decide) rfl wd_307 rfl (by decide) dX9_putRight_45 ?_
    refine g_iload X dX9_putRight_48 rfl ?_
    have b0_50_74 : 0 ≤ (M 124 (6 * q + 4)) := by omega
    have b1_50_74 : (M 124 (6 * q + 4)) < 4 := by omega
    refine g_aald X kd_10 (bz := 11) rfl b0_50_74 b1_50_74 dX9_putRight_50 ?_
    have kr_50_74 := kr_11 b0_50_74 b1_50_74
    refine g_iload_n X dX9_putRight_51 rfl rfl ?_
    refine g_iald X kr_50_74 (by omega) (by omega) dX9_putRight_52 ?_
    have w6 := w4.2 (3 * M 124 (6 * q + 4) + c % 3) (by omega) (by omega)
    refine g_teq (b := M 119 (3 * M 124 (6 * q + 4) + c % 3)) (by exact hV.lr (by omega) (by omega) (by omega) (by omega)) ?_
    refine g_isub X dX9_putRight_53 ?_
    refine g_mmin X wd_555 wd_556 wd_80 wd_557 (by decide) ⟨by omega, by omega⟩ rfl ⟨by decide, by decide⟩ (Nat.le_of_ble_eq_true rfl) dX9_putRight_54 ?_
    refine g_mmax X wd_558 wd_559 wd_80 wd_560 (by decide) ⟨by omega, by omega⟩ rfl ⟨by decide, by decide⟩ (Nat.le_of_ble_eq_true rfl) dX9_putRight_57 ?_
    refine g_istore_4 X dX9_putRight_60 rfl (fun v4_60 ev4_60 => ?_)
    subst v4_60
    refine g_aload_n X dX9_putRight_62 rfl rfl ?_
    refine g_getr (r := 24) X kd_0 fc8 (k := 9) (by decide) rfl wd_312 rfl (by decide) dX9_putRight_63 ?_
    refine g_getr (r := 25) X kd_24 fc7 (k := 0) (by decide) rfl wd_217 rfl (by decide) dX9_putRight_66 ?_
    refine g_iload_n X dX9_putRight_69 rfl rfl ?_
    have b0_70_85 : 0 ≤ q := by omega
    have b1_70_85 : q < 16 := by omega
    refine g_aald X kd_25 (bz := 26) rfl b0_70_85 b1_70_85 dX9_putRight_70 ?_
    have kr_70_85 := kr_26 b0_70_85 b1_70_85
    refine g_iconst X dX9_putRight_71 ?_
    refine g_iald X kr_70_85 (by decide) (by decide) dX9_putRight_72 ?_
    refine g_teq (b := M 124 (6 * q + 5)) (by exact hV.fa h0 h1 (by decide) (by decide)) ?_
    refine g_istore_6 X dX9_putRight_73 rfl (fun v6_73 ev6_73 => ?_)
    subst v6_73
    refine g_iload_n X dX9_putRight_75 rfl rfl ?_
    refine g_if_ne (tgt := 128) X dX9_putRight_76 (by decide) ⟨by omega, by omega⟩ (fun q76 => ?_) (fun q76 => ?_)
    · refine g_iload X dX9_putRight_128 rfl ?_
      rw [hQ]
      refine g_iret X hr hlk dX9_putRight_130 ?_
      exact ⟨by unfold rgt btw; generalize M 123 (M 124 (6 * q + 5)) * ((500 - M 124 (6 * q + 2)) / 50) = Z at *; (repeat' split) <;> omega, rfl⟩
    · refine g_aload_n X dX9_putRight_79 rfl rfl ?_
      refine g_iload X dX9_putRight_80 rfl ?_
      refine g_callVI X (c_X9_isPigment lL tT dD al _ _ ⟨by omega, by omega⟩ ⟨by omega, by omega⟩) kd_0 fc8 lk_RX9_137 rfl rfl ⟨by decide, by decide⟩ rfl (Nat.le_of_ble_eq_true rfl) dX9_putRight_82 (fun r82 M82 hc82 => ?_)
      obtain ⟨hr82, hm82⟩ := hc82
      subst r82
      subst M82
      refine g_if_eq (tgt := 128) X dX9_putRight_85 (by decide) (b2i_i32 _) (fun q85 => ?_) (fun q85 => ?_)
      · have q85 := b2i_f q85
        refine g_iload X dX9_putRight_128 rfl ?_
        rw [hQ]
        refine g_iret X hr hlk dX9_putRight_130 ?_
        exact ⟨by unfold rgt btw; generalize M 123 (M 124 (6 * q + 5)) * ((500 - M 124 (6 * q + 2)) / 50) = Z at *; (repeat' split) <;> omega, rfl⟩
      · have q85 := b2i_t q85
        refine g_aload_n X dX9_putRight_88 rfl rfl ?_
        refine g_getr (r := 16) X kd_0 fc8 (k := 6) (by decide) rfl wd_309 rfl (by decide) dX9_putRight_89 ?_
        refine g_iload X dX9_putRight_92 rfl ?_
        refine g_iald X kd_16 (by omega) (by omega) dX9_putRight_94 ?_
        have w7 := w5.2 (M 124 (6 * q + 5)) (by omega) (by omega)
        have w8 := mul_bd w7.2.1 w7.2.2 (b := (500 - M 124 (6 * q + 2)) / 50) (B := 10) (by omega) (by omega)
        refine g_teq (b := M 123 (M 124 (6 * q + 5))) (by exact (hV.pr (by omega) (by omega)).2) ?_
        refine g_sipush X dX9_putRight_95 (by decide +kernel) ?_
        refine g_aload_n X dX9_putRight_98 rfl rfl ?_
        refine g_getr (r := 24) X kd_0 fc8 (k := 9) (by decide) rfl wd_312 rfl (by decide) dX9_putRight_99 ?_
        refine g_getr (r := 25) X kd_24 fc7 (k := 0) (by decide) rfl wd_217 rfl (by decide) dX9_putRight_102 ?_
        refine g_iload_n X dX9_putRight_105 rfl rfl ?_
        have b0_106_108 : 0 ≤ q := by omega
        have b1_106_108 : q < 16 := by omega
        refine g_aald X kd_25 (bz := 26) rfl b0_106_108 b1_106_108 dX9_putRight_106 ?_
        have kr_106_108 := kr_26 b0_106_108 b1_106_108
        refine g_iconst X dX9_putRight_107 ?_
        refine g_iald X kr_106_108 (by decide) (by decide) dX9_putRight_108 ?_
        refine g_teq (b := M 124 (6 * q + 2)) (by exact hV.fa h0 h1 (by decide) (by decide)) ?_
        refine g_isub X dX9_putRight_109 ?_
        refine g_bipush X dX9_putRight_110 (by decide +kernel) ?_
        refine g_idiv X dX9_putRight_112 ⟨by omega, by omega⟩ ⟨by omega, by omega⟩ ?_
        refine g_imul X dX9_putRight_113 ?_
        refine g_istore_7 X dX9_putRight_114 rfl (fun v7_114 ev7_114 => ?_)
        subst v7_114
        refine g_bipush X dX9_putRight_116 (by decide +kernel) ?_
        refine g_iload X dX9_putRight_118 rfl ?_
        refine g_iload X dX9_putRight_120 rfl ?_
        refine g_iadd X dX9_putRight_122 ?_
        refine g_mmin X wd_555 wd_556 wd_80 wd_557 (by decide) ⟨by omega, by omega⟩ rfl ⟨by decide, by decide⟩ (Nat.le_of_ble_eq_true rfl) dX9_putRight_123 ?_
        refine g_istore_4 X dX9_putRight_126 rfl (fun v4_126 ev4_126 => ?_)
        subst v4_126
        refine g_iload X dX9_putRight_128 rfl ?_
        rw [hQ]
        refine g_iret X hr hlk dX9_putRight_130 ?_
        exact ⟨by unfold rgt btw; generalize M 123 (M 124 (6 * q + 5)) * ((500 - M 124 (6 * q + 2)) / 50) = Z at *; (repeat' split) <;> omega, rfl⟩
set_option maxRecDepth 100000 in
set_option maxHeartbeats 4000000 in
theorem c_X9_valueOf (lL : Launch) (tT : TT) (dD : va_G) (al : Int → Nat) (M : Mem) (m q : Int) (hV : IV M) (hm0 : 0 ≤ m) (hm1 : m < M 114 15) (h0 : 0 ≤ q) (h1 : q < M 114 23) : CI lL yX9_valueOf cX9_valueOf 8 FieldType.int 2 48 tT dD al [.ref (al 0), .int (iN m), .int (iN q)] M (fun r M' => r = vlu M m q ∧ M' = M) := by
  refine CI.of (own := "RedSkies") (ls0 := [some (.ref (al 0)), some (.int (iN m)), some (.int (iN q)), none, none, none, none, none]) (by decide +kernel) rfl (Nat.le_of_ble_eq_true rfl) rfl ?_
  intro pP eE sS mI aA bB mM cC X hr hlk
  obtain ⟨Q, hQ⟩ : ∃ Q : State → Prop, Q = MQ bB (QI tT dD al (fun r M' => r = vlu M m q ∧ M' = M)) aA sS 0 0 (fA al) := ⟨_, rfl⟩
  rw [← hQ]
  have hW := hV.w
  have w2 := hW.n
  have n1 := hV.hn
  have w3 := hW.mea
  refine g_aload_n X dX9_valueOf_0 rfl rfl ?_
  refine g_getr (r := 17) X kd_0 fc8 (k := 7) (by decide) rfl wd_310 rfl (by decide) dX9_valueOf_1 ?_
  refine g_iload_n X dX9_valueOf_4 rfl rfl ?_
  have b0_5_4 : 0 ≤ m := by omega
  have b1_5_4 : m < 4 := by omega
  refine g_aald X kd_17 (bz := 18) rfl b0_5_4 b1_5_4 dX9_valueOf_5 ?_
  have kr_5_4 := kr_18 b0_5_4 b1_5_4
  refine g_astore_n_3 X dX9_valueOf_6 rfl rfl (fun v3 hv3 => ?_)
  subst v3
  refine g_iconst X dX9_valueOf_7 ?_
  refine g_istore_4 X dX9_valueOf_8 rfl (fun v4_8 ev4_8 => ?_)
  subst v4_8
  refine g_iconst X dX9_valueOf_10 ?_
  refine g_istore_5 X dX9_valueOf_11 rfl (fun v5_11 ev5_11 => ?_)
  subst v5_11
  refine g_iconst X dX9_valueOf_13 ?_
  refine g_istore_6 X dX9_valueOf_14 rfl (fun v6_14 ev6_14 => ?_)
  subst v6_14
  have L_16 : ∀ (n : Nat) (a : Int) (b : Int) (i : Int), (0 ≤ i) → (i ≤ 12) → (a = sm (fun k => M 120 (24 * m + 12 * 0 + k) * rgt M q k) i.toNat) → (b = sm (fun k => M 120 (24 * m + 12 * 1 + k) * rgt M q k) i.toNat) → (12 - i).toNat < n → Gd pP lL eE (rmN 2 48) sS mI aA bB mM cC 0 0 Q tT dD al (fA al) 16 [some (.ref (al 0)), none, some (.int (iN q)), some (.ref (al (18 + m))), some (.int (iN a)), some (.int (iN b)), some (.int (iN i)), none] [] M := by
    intro n
    induction n with
    | zero => intro a b i hi hi2 ha hb hm; exact absurd hm (Nat.not_lt_zero _)
    | succ n ih =>
      intro a b i hi hi2 ha hb hm
      have g1 := smS_upto hW hm0 (by omega : m < 4) (w := 0) (p := q) (by decide) (by decide) (n := i.toNat) (by omega)
      have g2 := smS_upto hW hm0 (by omega : m < 4) (w := 1) (p := q) (by decide) (by decide) (n := i.toNat) (by omega)
      rw [← ha] at g1
      rw [← hb] at g2
      have ih_16 := ih
      clear ih
      refine g_iload X dX9_valueOf_16 rfl ?_
      refine g_bipush X dX9_valueOf_18 (by decide +kernel) ?_
      refine g_icmp_ge (tgt := 82) X dX9_valueOf_20 (by decide) ⟨by omega, by omega⟩ (by decide) (fun q20 => ?_) (fun q20 => ?_)
      · refine g_iload X dX9_valueOf_82 rfl ?_
        refine g_iconst X dX9_valueOf_84 ?_
        refine g_icmp_ge (tgt := 91) X dX9_valueOf_85 (by decide) ⟨by omega, by omega⟩ (by decide) (fun q85 => ?_) (fun q85 => ?_)
        · refine g_bipush X dX9_valueOf_91 (by decide +kernel) ?_
          refine g_iload X dX9_valueOf_93 rfl ?_
          refine g_imul X dX9_valueOf_95 ?_
          refine g_iload X dX9_valueOf_96 rfl ?_
          refine g_idiv X dX9_valueOf_98 ⟨by omega, by omega⟩ ⟨by omega, by omega⟩ ?_
          rw [hQ]
          refine g_iret X hr hlk dX9_valueOf_99 ?_
          obtain rfl : i = 12 := by omega
          have ea : a = smS M m q 0 := ha
          have eb : b = smS M m q 1 := hb
          exact ⟨by unfold vlu; rw [← ea, ← eb]; first | rw [if_neg (by omega)] | rw [if_pos (by omega)], rfl⟩
        · refine g_iconst X dX9_valueOf_88 ?_
          refine g_istore_5 X dX9_valueOf_89 rfl (fun v5_89 ev5_89 => ?_)
          subst v5_89
          refine g_bipush X dX9_valueOf_91 (by decide +kernel) ?_
          refine g_iload X dX9_valueOf_93 rfl ?_
          refine g_imul X dX9_valueOf_95 ?_
          refine g_iload X dX9_valueOf_96 rfl ?_
          refine g_idiv X dX9_valueOf_98 ⟨by omega, by omega⟩ ⟨by omega, by omega⟩ ?_
          rw [hQ]
          refine g_iret X hr hlk dX9_valueOf_99 ?_
          obtain rfl : i = 12 := by omega
          have ea : a = smS M m q 0 := ha
          have eb : b = smS M m q 1 := hb
          exact ⟨by unfold vlu; rw [← ea, ← eb]; first | rw [if_neg (by omega)] | rw [if_pos (by omega)], rfl⟩
      · have f1 : M 120 (24 * m + 12 * 0 + i) = M (18 + m) i := by rw [hV.mr hm0 hm1 (k := i) (by omega) (by omega)]; congr 1; omega
        have f2 : M 120 (24 * m + 12 * 1 + i) = M (18 + m) (12 + i) := by rw [hV.mr hm0 hm1 (k := 12 + i) (by omega) (by omega)]; congr 1; omega
        have f3 := w3.2 (24 * m + 12 * 0 + i) (by omega) (by omega)
        have f4 := w3.2 (24 * m + 12 * 1 + i) (by omega) (by omega)
        rw [f1] at f3
        rw [f2] at f4
        refine g_aload_n X dX9_valueOf_23 rfl rfl ?_
        refine g_iload X dX9_valueOf_24 rfl ?_
        refine g_iald X kr_5_4 (by omega) (by omega) dX9_valueOf_26 ?_
        refine g_if_ne (tgt := 40) X dX9_valueOf_27 (by decide) ⟨by omega, by omega⟩ (fun q27 => ?_) (fun q27 => ?_)
        · refine g_aload_n X dX9_valueOf_40 rfl rfl ?_
          refine g_iload_n X dX9_valueOf_41 rfl rfl ?_
          refine g_iload X dX9_valueOf_42 rfl ?_
          refine g_callVI X (c_X9_putRight lL tT dD al _ _ _ hV h0 h1 hi (by omega)) kd_0 fc8 lk_RX9_156 rfl rfl ⟨by decide, by decide⟩ rfl (Nat.le_of_ble_eq_true rfl) dX9_valueOf_44 (fun r44 M44 hc44 => ?_)
          obtain ⟨hr44, hm44⟩ := hc44
          subst r44
          subst M44
          refine g_istore_7 X dX9_valueOf_47 rfl (fun v7_47 ev7_47 => ?_)
          subst v7_47
          refine g_iload X dX9_valueOf_49 rfl ?_
          refine g_aload_n X dX9_valueOf_51 rfl rfl ?_
          refine g_iload X dX9_valueOf_52 rfl ?_
          refine g_iald X kr_5_4 (by omega) (by omega) dX9_valueOf_54 ?_
          refine g_iload X dX9_valueOf_55 rfl ?_
          refine g_imul X dX9_valueOf_57 ?_
          refine g_iadd X dX9_valueOf_58 ?_
          refine g_istore_4 X dX9_valueOf_59 rfl (fun v4_59 ev4_59 => ?_)
          subst v4_59
          refine g_iload X dX9_valueOf_61 rfl ?_
          refine g_aload_n X dX9_valueOf_63 rfl rfl ?_
          refine g_bipush X dX9_valueOf_64 (by decide +kernel) ?_
          refine g_iload X dX9_valueOf_66 rfl ?_
          refine g_iadd X dX9_valueOf_68 ?_
          refine g_iald X kr_5_4 (by omega) (by omega) dX9_valueOf_69 ?_
          refine g_iload X dX9_valueOf_70 rfl ?_
          refine g_imul X dX9_valueOf_72 ?_
          refine g_iadd X dX9_valueOf_73 ?_
          refine g_istore_5 X dX9_valueOf_74 rfl (fun v5_74 ev5_74 => ?_)
          subst v5_74
          refine g_iinc_6 X dX9_valueOf_76 rfl (fun v6_76 ev6_76 => ?_)
          subst v6_76
          refine g_goto (tgt := 16) X dX9_valueOf_79 (by decide) ?_
          exact g_sub (ih_16 _ _ _ (by omega) (by omega) (by rw [sm_s _ hi, ← ha]; show _ = a + M 120 (24 * m + 12 * 0 + i) * rgt M q i; first | (rw [f1]; done) | (rw [f1, q27]; omega)) (by rw [sm_s _ hi, ← hb]; show _ = b + M 120 (24 * m + 12 * 1 + i) * rgt M q i; first | (rw [f2]; done) | (rw [f2, q37]; omega)) (by omega)) ⟨rfl, rfl, rfl, rfl, rfl, rfl, trivial⟩
        · refine g_aload_n X dX9_valueOf_30 rfl rfl ?_
          refine g_bipush X dX9_valueOf_31 (by decide +kernel) ?_
          refine g_iload X dX9_valueOf_33 rfl ?_
          refine g_iadd X dX9_valueOf_35 ?_
          refine g_iald X kr_5_4 (by omega) (by omega) dX9_valueOf_36 ?_
          refine g_if_eq (tgt := 76) X dX9_valueOf_37 (by decide) ⟨by omega, by omega⟩ (fun q37 => ?_) (fun q37 => ?_)
          · refine g_iinc_6 X dX9_valueOf_76 rfl (fun v6_76 ev6_76 => ?_)
            subst v6_76
            refine g_goto (tgt := 16) X dX9_valueOf_79 (by decide) ?_
            exact g_sub (ih_16 _ _ _ (by omega) (by omega) (by rw [sm_s _ hi, ← ha]; show _ = a + M 120 (24 * m + 12 * 0 + i) * rgt M q i; first | (rw [f1]; done) | (rw [f1, q27]; omega)) (by rw [sm_s _ hi, ← hb]; show _ = b + M 120 (24 * m + 12 * 1 + i) * rgt M q i; first | (rw [f2]; done) | (rw [f2, q37]; omega)) (by omega)) ⟨rfl, rfl, rfl, rfl, rfl, rfl, trivial⟩
          · refine g_aload_n X dX9_valueOf_40 rfl rfl ?_
            refine g_iload_n X dX9_valueOf_41 rfl rfl ?_
            refine g_iload X dX9_valueOf_42 rfl ?_
            refine g_callVI X (c_X9_putRight lL tT dD al _ _ _ hV h0 h1 hi (by omega)) kd_0 fc8 lk_RX9_156 rfl rfl ⟨by decide, by decide⟩ rfl (Nat.le_of_ble_eq_true rfl) dX9_valueOf_44 (fun r44 M44 hc44 => ?_)
            obtain ⟨hr44, hm44⟩ := hc44
            subst r44
            subst M44
            refine g_istore_7 X dX9_valueOf_47 rfl (fun v7_47 ev7_47 => ?_)
            subst v7_47
            refine g_iload X dX9_valueOf_49 rfl ?_
            refine g_aload_n X dX9_valueOf_51 rfl rfl ?_
            refine g_iload X dX9_valueOf_52 rfl ?_
            refine g_iald X kr_5_4 (by omega) (by omega) dX9_valueOf_54 ?_
            refine g_iload X dX9_valueOf_55 rfl ?_
            refine g_imul X dX9_valueOf_57 ?_
            refine g_iadd X dX9_valueOf_58 ?_
            refine g_istore_4 X dX9_valueOf_59 rfl (fun v4_59 ev4_59 => ?_)
            subst v4_59
            refine g_iload X dX9_valueOf_61 rfl ?_
            refine g_aload_n X dX9_valueOf_63 rfl rfl ?_
            refine g_bipush X dX9_valueOf_64 (by decide +kernel) ?_
            refine g_iload X dX9_valueOf_66 rfl ?_
            refine g_iadd X dX9_valueOf_68 ?_
            refine g_iald X kr_5_4 (by omega) (by omega) dX9_valueOf_69 ?_
            refine g_iload X dX9_valueOf_70 rfl ?_
            refine g_imul X dX9_valueOf_72 ?_
            refine g_iadd X dX9_valueOf_73 ?_
            refine g_istore_5 X dX9_valueOf_74 rfl (fun v5_74 ev5_74 => ?_)
            subst v5_74
            refine g_iinc_6 X dX9_valueOf_76 rfl (fun v6_76 ev6_76 => ?_)
            subst v6_76
            refine g_goto (tgt := 16) X dX9_valueOf_79 (by decide) ?_
            exact g_sub (ih_16 _ _ _ (by omega) (by omega) (by rw [sm_s _ hi, ← ha]; show _ = a + M 120 (24 * m + 12 * 0 + i) * rgt M q i; first | (rw [f1]; done) | (rw [f1, q27]; omega)) (by rw [sm_s _ hi, ← hb]; show _ = b + M 120 (24 * m + 12 * 1 + i) * rgt M q i; first | (rw [f2]; done) | (rw [f2, q37]; omega)) (by omega)) ⟨rfl, rfl, rfl, rfl, rfl, rfl, trivial⟩
  exact g_sub (L_16 _ _ _ _ (by omega) (by omega) (rfl) (rfl) (Nat.lt_succ_self _)) ⟨rfl, rfl, rfl, rfl, rfl, rfl, trivial⟩
set_option maxRecDepth 100000 in
set_option maxHeartbeats 4000000 in
theorem c_X2_classOf (lL : Launch) (tT : TT) (dD : va_G) (al : Int → Nat) (M : Mem) (v : Int) (hV : IV M) (h0 : i32 v) : CI lL yX2_classOf cX2_classOf 4 FieldType.int 0 0 tT dD al [.ref (al 22), .int (iN v)] M (fun r M' => r = clsS M v ∧ M' = M) := by
  refine CI.of (own := "RedSkies$Law") (ls0 := [some (.ref (al 22)), some (.int (iN v)), none, none]) (by decide +kernel) rfl (Nat.le_of_ble_eq_true rfl) rfl ?_
  intro pP eE sS mI aA bB mM cC X hr hlk
  obtain ⟨Q, hQ⟩ : ∃ Q : State → Prop, Q = MQ bB (QI tT dD al (fun r M' => r = clsS M v ∧ M' = M)) aA sS 0 0 (fA al) := ⟨_, rfl⟩
  rw [← hQ]
  have hW := hV.w
  have w1 := hW.law
  have l1 := hV.lw
  refine g_iconst X dX2_classOf_0 ?_
  refine g_istore_n_2 X dX2_classOf_1 rfl rfl (fun v2_1 ev2_1 => ?_)
  subst v2_1
  refine g_iconst X dX2_classOf_2 ?_
  refine g_istore_n_3 X dX2_classOf_3 rfl rfl (fun v3_3 ev3_3 => ?_)
  subst v3_3
  have L_4 : ∀ (n : Nat) (b : Int) (k : Int), (0 ≤ k) → (k ≤ M 114 17) → (b = sm (fun k => if M 121 k ≤ v then 1 else 0) k.toNat) → (5 - k).toNat < n → Gd pP lL eE (rmN 0 0) sS mI aA bB mM cC 0 0 Q tT dD al (fA al) 4 [some (.ref (al 22)), some (.int (iN v)), some (.int (iN b)), some (.int (iN k))] [] M := by
    intro n
    induction n with
    | zero => intro b k hk hk2 hb hm; exact absurd hm (Nat.not_lt_zero _)
    | succ n ih =>
      intro b k hk hk2 hb hm
      have ih_4 := ih
      clear ih
      refine g_iload_n X dX2_classOf_4 rfl rfl ?_
      refine g_aload_n X dX2_classOf_5 rfl rfl ?_
      refine g_geti (kz := 1) X kd_22 fc2 (k := 1) (by decide) rfl wd_196 rfl dX2_classOf_6 ?_
      refine g_icmp_ge (tgt := 36) X dX2_classOf_9 (by decide) ⟨by omega, by omega⟩ ⟨by omega, by omega⟩ (fun q9 => ?_) (fun q9 => ?_)
      · refine g_iload_n X dX2_classOf_36 rfl rfl ?_
        rw [hQ]
        refine g_iret X hr hlk dX2_classOf_37 ?_
        obtain rfl : k = M 114 17 := by omega
        exact ⟨hb, rfl⟩
      · refine g_iload_n X dX2_classOf_12 rfl rfl ?_
        refine g_iconst X dX2_classOf_13 ?_
        refine g_icmp_ge (tgt := 36) X dX2_classOf_14 (by decide) ⟨by omega, by omega⟩ (by decide) (fun q14 => ?_) (fun q14 => ?_)
        · refine g_iload_n X dX2_classOf_36 rfl rfl ?_
          rw [hQ]
          refine g_iret X hr hlk dX2_classOf_37 ?_
          obtain rfl : k = M 114 17 := by omega
          exact ⟨hb, rfl⟩
        · refine g_aload_n X dX2_classOf_17 rfl rfl ?_
          refine g_getr (r := 23) X kd_22 fc2 (k := 0) (by decide) rfl wd_195 rfl (by decide) dX2_classOf_18 ?_
          refine g_iload_n X dX2_classOf_21 rfl rfl ?_
          refine g_iald X kd_23 (by omega) (by omega) dX2_classOf_22 ?_
          refine g_teq (b := M 121 k) (by exact hV.bo hk (by omega)) ?_
          refine g_iload_n X dX2_classOf_23 rfl rfl ?_
          have w2 := w1.2.1 k hk (by omega)
          refine g_icmp_gt (tgt := 30) X dX2_classOf_24 (by decide) ⟨by omega, by omega⟩ ⟨by omega, by omega⟩ (fun q24 => ?_) (fun q24 => ?_)
          · refine g_iinc_3 X dX2_classOf_30 rfl (fun v3_30 ev3_30 => ?_)
            subst v3_30
            refine g_goto (tgt := 4) X dX2_classOf_33 (by decide) ?_
            exact g_sub (ih_4 _ _ (by omega) (by omega) (by clear X hr hlk hQ ih_4; rw [sm_s _ hk, hb]; grind) (by omega)) ⟨rfl, rfl, rfl, rfl, trivial⟩
          · refine g_iinc_2 X dX2_classOf_27 rfl (fun v2_27 ev2_27 => ?_)
            subst v2_27
            refine g_iinc_3 X dX2_classOf_30 rfl (fun v3_30 ev3_30 => ?_)
            subst v3_30
            refine g_goto (tgt := 4) X dX2_classOf_33 (by decide) ?_
            exact g_sub (ih_4 _ _ (by omega) (by omega) (by clear X hr hlk hQ ih_4; rw [sm_s _ hk, hb]; grind) (by omega)) ⟨rfl, rfl, rfl, rfl, trivial⟩
  exact g_sub (L_4 _ _ _ (by omega) (by omega) (rfl) (Nat.lt_succ_self _)) ⟨rfl, rfl, rfl, rfl, trivial⟩
set_option maxRecDepth 100000 in
set_option maxHeartbeats 4000000 in
theorem c_X2_lowest (lL : Launch) (tT : TT) (dD : va_G) (al : Int → Nat) (M : Mem) (v : Int) (hV : IV M) (h0 : 0 ≤ v ∧ v ≤ 475200) : CI lL yX2_lowest cX2_lowest 2 FieldType.int 1 23 tT dD al [.ref (al 22), .int (iN v)] M (fun r M' => r = clsS M (v - M 114 19) ∧ M' = M) := by
  refine CI.of (own := "RedSkies$Law") (ls0 := [some (.ref (al 22)), some (.int (iN v))]) (by decide +kernel) rfl (Nat.le_of_ble_eq_true rfl) rfl ?_
  intro pP eE sS mI aA bB mM cC X hr hlk
  obtain ⟨Q, hQ⟩ : ∃ Q : State → Prop, Q = MQ bB (QI tT dD al (fun r M' => r = clsS M (v - M 114 19) ∧ M' = M)) aA sS 0 0 (fA al) := ⟨_, rfl⟩
  rw [← hQ]
  have hW := hV.w
  have w1 := hW.law
  have l1 := hV.lw
  refine g_aload_n X dX2_lowest_0 rfl rfl ?_
  refine g_iload_n X dX2_lowest_1 rfl rfl ?_
  refine g_aload_n X dX2_lowest_2 rfl rfl ?_
  refine g_geti (kz := 2) X kd_22 fc2 (k := 2) (by decide) rfl wd_198 rfl dX2_lowest_3 ?_
  refine g_teq (b := M 114 19) (by exact l1.2) ?_
  refine g_isub X dX2_lowest_6 ?_
  refine g_callVI X (c_X2_classOf lL tT dD al _ _ hV ⟨by omega, by omega⟩) kd_22 fc2 lk_RX2_35 rfl rfl ⟨by decide, by decide⟩ rfl (Nat.le_of_ble_eq_true rfl) dX2_lowest_7 (fun r7 M7 hc7 => ?_)
  obtain ⟨hr7, hm7⟩ := hc7
  subst r7
  subst M7
  rw [hQ]
  refine g_iret X hr hlk dX2_lowest_10 ?_
  exact ⟨rfl, rfl⟩
set_option maxRecDepth 100000 in
set_option maxHeartbeats 4000000 in
theorem c_X2_highest (lL : Launch) (tT : TT) (dD : va_G) (al : Int → Nat) (M : Mem) (v : Int) (hV : IV M) (h0 : 0 ≤ v ∧ v ≤ 475200) : CI lL yX2_highest cX2_highest 2 FieldType.int 1 23 tT dD al [.ref (al 22), .int (iN v)] M (fun r M' => r = clsS M (v + M 114 19) ∧ M' = M) := by
  refine CI.of (own := "RedSkies$Law") (ls0 := [some (.ref (al 22)), some (.int (iN v))]) (by decide +kernel) rfl (Nat.le_of_ble_eq_true rfl) rfl ?_
  intro pP eE sS mI aA bB mM cC X hr hlk
  obtain ⟨Q, hQ⟩ : ∃ Q : State → Prop, Q = MQ bB (QI tT dD al (fun r M' => r = clsS M (v + M 114 19) ∧ M' = M)) aA sS 0 0 (fA al) := ⟨_, rfl⟩
  rw [← hQ]
  have hW := hV.w
  have w1 := hW.law
  have l1 := hV.lw
  refine g_aload_n X dX2_highest_0 rfl rfl ?_
  refine g_iload_n X dX2_highest_1 rfl rfl ?_
  refine g_aload_n X dX2_highest_2 rfl rfl ?_
  refine g_geti (kz := 2) X kd_22 fc2 (k := 2) (by decide) rfl wd_198 rfl dX2_highest_3 ?_
  refine g_teq (b := M 114 19) (by exact l1.2) ?_
  refine g_iadd X dX2_highest_6 ?_
  refine g_callVI X (c_X2_classOf lL tT dD al _ _ hV ⟨by omega, by omega⟩) kd_22 fc2 lk_RX2_35 rfl rfl ⟨by decide, by decide⟩ rfl (Nat.le_of_ble_eq_true rfl) dX2_highest_7 (fun r7 M7 hc7 => ?_)
  obtain ⟨hr7, hm7⟩ := hc7
  subst r7
  subst M7
  rw [hQ]
  refine g_iret X hr hlk dX2_highest_10 ?_
  exact ⟨rfl, rfl⟩
set_option maxRecDepth 100000 in
set_option maxHeartbeats 4000000 in
theorem c_X8_isNear (lL : Launch) (tT : TT) (dD : va_G) (al : Int → Nat) (M : Mem) (q w : Int) (hV : IV M) (h0 : 0 ≤ q) (h1 : q < M 114 23) (hw : 0 ≤ w ∧ w ≤ 9) : CI lL yX8_isNear cX8_isNear 6 FieldType.boolean 0 0 tT dD al [.ref (al 24), .int (iN q), .int (iN w)] M (fun r M' => r = b2i (nrS M (M 124 (6 * q)) (M 124 (6 * q + 2)) w) ∧ M' = M) := by
  refine CI.of (own := "RedSkies$Show") (ls0 := [some (.ref (al 24)), some (.int (iN q)), some (.int (iN w)), none, none, none]) (by decide +kernel) rfl (Nat.le_of_ble_eq_true rfl) rfl ?_
  intro pP eE sS mI aA bB mM cC X hr hlk
  obtain ⟨Q, hQ⟩ : ∃ Q : State → Prop, Q = MQ bB (QI tT dD al (fun r M' => r = b2i (nrS M (M 124 (6 * q)) (M 124 (6 * q + 2)) w) ∧ M' = M)) aA sS 0 0 (fA al) := ⟨_, rfl⟩
  rw [← hQ]
  have hW := hV.w
  have w2 := hW.n
  have n1 := hV.hn
  have w1 := hW.row h0 h1
  have f0 := hV.f0 h0 h1
  have f2 := hV.fa h0 h1 (c := 2) (by decide) (by decide)
  refine g_aload_n X dX8_isNear_0 rfl rfl ?_
  refine g_getr (r := 25) X kd_24 fc7 (k := 0) (by decide) rfl wd_216 rfl (by decide) dX8_isNear_1 ?_
  refine g_iload_n X dX8_isNear_4 rfl rfl ?_
  have b0_5_4 : 0 ≤ q := by omega
  have b1_5_4 : q < 16 := by omega
  refine g_aald X kd_25 (bz := 26) rfl b0_5_4 b1_5_4 dX8_isNear_5 ?_
  have kr_5_4 := kr_26 b0_5_4 b1_5_4
  refine g_iconst X dX8_isNear_6 ?_
  refine g_iald X kr_5_4 (by decide) (by decide) dX8_isNear_7 ?_
  refine g_iconst X dX8_isNear_8 ?_
  refine g_icmp_ne (tgt := 18) X dX8_isNear_9 (by decide) ⟨by omega, by omega⟩ (by decide) (fun q9 => ?_) (fun q9 => ?_)
  · refine g_iload_n X dX8_isNear_18 rfl rfl ?_
    refine g_istore_n_3 X dX8_isNear_19 rfl rfl (fun v3_19 ev3_19 => ?_)
    subst v3_19
    refine g_iconst X dX8_isNear_20 ?_
    refine g_istore_4 X dX8_isNear_21 rfl (fun v4_21 ev4_21 => ?_)
    subst v4_21
    have L_23 : ∀ (n : Nat) (i : Int), (0 ≤ i) → (i ≤ M 114 26) → (¬ nrK M (M 124 (6 * q)) (M 124 (6 * q + 2)) w i.toNat) → (6 - i).toNat < n → Gd pP lL eE (rmN 0 0) sS mI aA bB mM cC 0 0 Q tT dD al (fA al) 23 [some (.ref (al 24)), some (.int (iN q)), none, some (.int (iN w)), some (.int (iN i)), none] [] M := by
      intro n
      induction n with
      | zero => intro i hi hi2 hno hm; exact absurd hm (Nat.not_lt_zero _)
      | succ n ih =>
        intro i hi hi2 hno hm
        have ih_23 := ih
        clear ih
        refine g_iload X dX8_isNear_23 rfl ?_
        refine g_aload_n X dX8_isNear_25 rfl rfl ?_
        refine g_geti (kz := 6) X kd_24 fc7 (k := 6) (by decide) rfl wd_229 rfl dX8_isNear_26 ?_
        refine g_icmp_ge (tgt := 69) X dX8_isNear_29 (by decide) ⟨by omega, by omega⟩ ⟨by omega, by omega⟩ (fun q29 => ?_) (fun q29 => ?_)
        · refine g_iconst X dX8_isNear_69 ?_
          rw [hQ]
          refine g_zret X hr hlk (by decide) dX8_isNear_70 ?_
          obtain rfl : i = M 114 26 := by omega
          exact ⟨b2i_0 hno, rfl⟩
        · refine g_aload_n X dX8_isNear_32 rfl rfl ?_
          refine g_getr (r := 25) X kd_24 fc7 (k := 0) (by decide) rfl wd_216 rfl (by decide) dX8_isNear_33 ?_
          refine g_iload_n X dX8_isNear_36 rfl rfl ?_
          have b0_37_22 : 0 ≤ q := by omega
          have b1_37_22 : q < 16 := by omega
          refine g_aald X kd_25 (bz := 26) rfl b0_37_22 b1_37_22 dX8_isNear_37 ?_
          have kr_37_22 := kr_26 b0_37_22 b1_37_22
          refine g_iconst X dX8_isNear_38 ?_
          refine g_iald X kr_37_22 (by decide) (by decide) dX8_isNear_39 ?_
          refine g_teq (b := M 124 (6 * q + 2)) (by exact f2) ?_
          refine g_aload_n X dX8_isNear_40 rfl rfl ?_
          refine g_getr (r := 59) X kd_24 fc7 (k := 2) (by decide) rfl wd_221 rfl (by decide) dX8_isNear_41 ?_
          refine g_iload X dX8_isNear_44 rfl ?_
          refine g_iald X kd_59 (by omega) (by omega) dX8_isNear_46 ?_
          have w4 := hW.mts hi (by omega)
          refine g_teq (b := M 126 i) (by exact hV.er hi (by omega)) ?_
          refine g_isub X dX8_isNear_47 ?_
          refine g_istore_5 X dX8_isNear_48 rfl (fun v5_48 ev5_48 => ?_)
          subst v5_48
          refine g_iload X dX8_isNear_50 rfl ?_
          refine g_if_lt (tgt := 63) X dX8_isNear_52 (by decide) ⟨by omega, by omega⟩ (fun q52 => ?_) (fun q52 => ?_)
          · refine g_iinc_4 X dX8_isNear_63 rfl (fun v4_63 ev4_63 => ?_)
            subst v4_63
            refine g_goto (tgt := 23) X dX8_isNear_66 (by decide) ?_
            exact g_sub (ih_23 _ (by omega) (by omega) (by rw [nrK_s _ _ _ _ hi]; rintro (z | z); exact hno z; rcases Classical.em (M 124 (6 * q) = 4) with k4 | k4 <;> (first | rw [if_pos k4] at z | rw [if_neg k4] at z) <;> omega) (by omega)) ⟨rfl, rfl, rfl, rfl, trivial⟩
          · refine g_iload X dX8_isNear_55 rfl ?_
            refine g_iload_n X dX8_isNear_57 rfl rfl ?_
            refine g_icmp_gt (tgt := 63) X dX8_isNear_58 (by decide) ⟨by omega, by omega⟩ ⟨by omega, by omega⟩ (fun q58 => ?_) (fun q58 => ?_)
            · refine g_iinc_4 X dX8_isNear_63 rfl (fun v4_63 ev4_63 => ?_)
              subst v4_63
              refine g_goto (tgt := 23) X dX8_isNear_66 (by decide) ?_
              exact g_sub (ih_23 _ (by omega) (by omega) (by rw [nrK_s _ _ _ _ hi]; rintro (z | z); exact hno z; rcases Classical.em (M 124 (6 * q) = 4) with k4 | k4 <;> (first | rw [if_pos k4] at z | rw [if_neg k4] at z) <;> omega) (by omega)) ⟨rfl, rfl, rfl, rfl, trivial⟩
            · refine g_iconst X dX8_isNear_61 ?_
              rw [hQ]
              refine g_zret X hr hlk (by decide) dX8_isNear_62 ?_
              refine ⟨b2i_1 ⟨i, hi, by omega, by omega, ?_⟩, rfl⟩
              first | rw [if_pos (by omega)] | rw [if_neg (by omega)]
              omega
    exact g_sub (L_23 _ _ (by omega) (by omega) (nrK_0 _ _ _ _) (Nat.lt_succ_self _)) ⟨rfl, rfl, rfl, rfl, trivial⟩
  · refine g_iload_n X dX8_isNear_12 rfl rfl ?_
    refine g_iconst X dX8_isNear_13 ?_
    refine g_iadd X dX8_isNear_14 ?_
    refine g_goto (tgt := 19) X dX8_isNear_15 (by decide) ?_
    refine g_istore_n_3 X dX8_isNear_19 rfl rfl (fun v3_19 ev3_19 => ?_)
    subst v3_19
    refine g_iconst X dX8_isNear_20 ?_
    refine g_istore_4 X dX8_isNear_21 rfl (fun v4_21 ev4_21 => ?_)
    subst v4_21
    have L_23 : ∀ (n : Nat) (i : Int), (0 ≤ i) → (i ≤ M 114 26) → (¬ nrK M (M 124 (6 * q)) (M 124 (6 * q + 2)) w i.toNat) → (6 - i).toNat < n → Gd pP lL eE (rmN 0 0) sS mI aA bB mM cC 0 0 Q tT dD al (fA al) 23 [some (.ref (al 24)), some (.int (iN q)), none, some (.int (iN (w + 5))), some (.int (iN i)), none] [] M := by
      intro n
      induction n with
      | zero => intro i hi hi2 hno hm; exact absurd hm (Nat.not_lt_zero _)
      | succ n ih =>
        intro i hi hi2 hno hm
        have ih_23 := ih
        clear ih
        refine g_iload X dX8_isNear_23 rfl ?_
        refine g_aload_n X dX8_isNear_25 rfl rfl ?_
        refine g_geti (kz := 6) X kd_24 fc7 (k := 6) (by decide) rfl wd_229 rfl dX8_isNear_26 ?_
        refine g_icmp_ge (tgt := 69) X dX8_isNear_29 (by decide) ⟨by omega, by omega⟩ ⟨by omega, by omega⟩ (fun q29 => ?_) (fun q29 => ?_)
        · refine g_iconst X dX8_isNear_69 ?_
          rw [hQ]
          refine g_zret X hr hlk (by decide) dX8_isNear_70 ?_
          obtain rfl : i = M 114 26 := by omega
          exact ⟨b2i_0 hno, rfl⟩
        · refine g_aload_n X dX8_isNear_32 rfl rfl ?_
          refine g_getr (r := 25) X kd_24 fc7 (k := 0) (by decide) rfl wd_216 rfl (by decide) dX8_isNear_33 ?_
          refine g_iload_n X dX8_isNear_36 rfl rfl ?_
          have b0_37_60 : 0 ≤ q := by omega
          have b1_37_60 : q < 16 := by omega
          refine g_aald X kd_25 (bz := 26) rfl b0_37_60 b1_37_60 dX8_isNear_37 ?_
          have kr_37_60 := kr_26 b0_37_60 b1_37_60
          refine g_iconst X dX8_isNear_38 ?_
          refine g_iald X kr_37_60 (by decide) (by decide) dX8_isNear_39 ?_
          refine g_teq (b := M 124 (6 * q + 2)) (by exact f2) ?_
          refine g_aload_n X dX8_isNear_40 rfl rfl ?_
          refine g_getr (r := 59) X kd_24 fc7 (k := 2) (by decide) rfl wd_221 rfl (by decide) dX8_isNear_41 ?_
          refine g_iload X dX8_isNear_44 rfl ?_
          refine g_iald X kd_59 (by omega) (by omega) dX8_isNear_46 ?_
          have w4 := hW.mts hi (by omega)
          refine g_teq (b := M 126 i) (by exact hV.er hi (by omega)) ?_
          refine g_isub X dX8_isNear_47 ?_
          refine g_istore_5 X dX8_isNear_48 rfl (fun v5_48 ev5_48 => ?_)
          subst v5_48
          refine g_iload X dX8_isNear_50 rfl ?_
          refine g_if_lt (tgt := 63) X dX8_isNear_52 (by decide) ⟨by omega, by omega⟩ (fun q52 => ?_) (fun q52 => ?_)
          · refine g_iinc_4 X dX8_isNear_63 rfl (fun v4_63 ev4_63 => ?_)
            subst v4_63
            refine g_goto (tgt := 23) X dX8_isNear_66 (by decide) ?_
            exact g_sub (ih_23 _ (by omega) (by omega) (by rw [nrK_s _ _ _ _ hi]; rintro (z | z); exact hno z; rcases Classical.em (M 124 (6 * q) = 4) with k4 | k4 <;> (first | rw [if_pos k4] at z | rw [if_neg k4] at z) <;> omega) (by omega)) ⟨rfl, rfl, rfl, rfl, trivial⟩
          · refine g_iload X dX8_isNear_55 rfl ?_
            refine g_iload_n X dX8_isNear_57 rfl rfl ?_
            refine g_icmp_gt (tgt := 63) X dX8_isNear_58 (by decide) ⟨by omega, by omega⟩ ⟨by omega, by omega⟩ (fun q58 => ?_) (fun q58 => ?_)
            · refine g_iinc_4 X dX8_isNear_63 rfl (fun v4_63 ev4_63 => ?_)
              subst v4_63
              refine g_goto (tgt := 23) X dX8_isNear_66 (by decide) ?_
              exact g_sub (ih_23 _ (by omega) (by omega) (by rw [nrK_s _ _ _ _ hi]; rintro (z | z); exact hno z; rcases Classical.em (M 124 (6 * q) = 4) with k4 | k4 <;> (first | rw [if_pos k4] at z | rw [if_neg k4] at z) <;> omega) (by omega)) ⟨rfl, rfl, rfl, rfl, trivial⟩
            · refine g_iconst X dX8_isNear_61 ?_
              rw [hQ]
              refine g_zret X hr hlk (by decide) dX8_isNear_62 ?_
              refine ⟨b2i_1 ⟨i, hi, by omega, by omega, ?_⟩, rfl⟩
              first | rw [if_pos (by omega)] | rw [if_neg (by omega)]
              omega
    exact g_sub (L_23 _ _ (by omega) (by omega) (nrK_0 _ _ _ _) (Nat.lt_succ_self _)) ⟨rfl, rfl, rfl, rfl, trivial⟩
set_option maxRecDepth 100000 in
set_option maxHeartbeats 4000000 in
theorem c_X8_counted (lL : Launch) (tT : TT) (dD : va_G) (al : Int → Nat) (M : Mem)  (hV : IV M) : CI lL yX8_counted cX8_counted 3 FieldType.int 1 21 tT dD al [.ref (al 24)] M (fun r M' => r = cntB M (M 114 23).toNat ∧ M' = M) := by
  refine CI.of (own := "RedSkies$Show") (ls0 := [some (.ref (al 24)), none, none]) (by decide +kernel) rfl (Nat.le_of_ble_eq_true rfl) rfl ?_
  intro pP eE sS mI aA bB mM cC X hr hlk
  obtain ⟨Q, hQ⟩ : ∃ Q : State → Prop, Q = MQ bB (QI tT dD al (fun r M' => r = cntB M (M 114 23).toNat ∧ M' = M)) aA sS 0 0 (fA al) := ⟨_, rfl⟩
  rw [← hQ]
  have hW := hV.w
  have w2 := hW.n
  have n1 := hV.hn
  refine g_iconst X dX8_counted_0 ?_
  refine g_istore_n_1 X dX8_counted_1 rfl rfl (fun v1_1 ev1_1 => ?_)
  subst v1_1
  refine g_iconst X dX8_counted_2 ?_
  refine g_istore_n_2 X dX8_counted_3 rfl rfl (fun v2_3 ev2_3 => ?_)
  subst v2_3
  have L_4 : ∀ (n : Nat) (b : Int) (k : Int), (0 ≤ k) → (k ≤ M 114 23) → (b = cntB M k.toNat) → (16 - k).toNat < n → Gd pP lL eE (rmN 1 21) sS mI aA bB mM cC 0 0 Q tT dD al (fA al) 4 [some (.ref (al 24)), some (.int (iN b)), some (.int (iN k))] [] M := by
    intro n
    induction n with
    | zero => intro b k hk hk2 hb hm; exact absurd hm (Nat.not_lt_zero _)
    | succ n ih =>
      intro b k hk hk2 hb hm
      have hb2 := cntB_rng M (n := k.toNat) (by omega)
      have ih_4 := ih
      clear ih
      refine g_iload_n X dX8_counted_4 rfl rfl ?_
      refine g_aload_n X dX8_counted_5 rfl rfl ?_
      refine g_geti (kz := 5) X kd_24 fc7 (k := 5) (by decide) rfl wd_227 rfl dX8_counted_6 ?_
      refine g_icmp_ge (tgt := 32) X dX8_counted_9 (by decide) ⟨by omega, by omega⟩ ⟨by omega, by omega⟩ (fun q9 => ?_) (fun q9 => ?_)
      · refine g_iload_n X dX8_counted_32 rfl rfl ?_
        rw [hQ]
        refine g_iret X hr hlk dX8_counted_33 ?_
        obtain rfl : k = M 114 23 := by omega
        exact ⟨hb, rfl⟩
      · refine g_aload_n X dX8_counted_12 rfl rfl ?_
        refine g_iload_n X dX8_counted_13 rfl rfl ?_
        refine g_callVI X (c_X8_isCountedV lL tT dD al _ _ hV hk (by omega)) kd_24 fc7 lk_RX8_55 rfl rfl ⟨by decide, by decide⟩ rfl (Nat.le_of_ble_eq_true rfl) dX8_counted_14 (fun r14 M14 hc14 => ?_)
        obtain ⟨hr14, hm14⟩ := hc14
        subst r14
        subst M14
        refine g_if_eq (tgt := 26) X dX8_counted_17 (by decide) (b2i_i32 _) (fun q17 => ?_) (fun q17 => ?_)
        · have q17 := b2i_f q17
          refine g_iinc_2 X dX8_counted_26 rfl (fun v2_26 ev2_26 => ?_)
          subst v2_26
          refine g_goto (tgt := 4) X dX8_counted_29 (by decide) ?_
          exact g_sub (ih_4 _ _ (by omega) (by omega) (by first | (rw [hb]; exact or_acc (cntB_0 M) (cntB_1 M) hk (by omega) q17) | (rw [hb]; exact sm_skip hk (cntB_0 M k q17))) (by omega)) ⟨rfl, rfl, rfl, trivial⟩
        · have q17 := b2i_t q17
          refine g_iload_n X dX8_counted_20 rfl rfl ?_
          refine g_iconst X dX8_counted_21 ?_
          refine g_iload_n X dX8_counted_22 rfl rfl ?_
          refine g_ishl X dX8_counted_23 ?_
          refine g_ior X dX8_counted_24 ?_
          refine g_istore_n_1 X dX8_counted_25 rfl rfl (fun v1_25 ev1_25 => ?_)
          subst v1_25
          refine g_iinc_2 X dX8_counted_26 rfl (fun v2_26 ev2_26 => ?_)
          subst v2_26
          refine g_goto (tgt := 4) X dX8_counted_29 (by decide) ?_
          exact g_sub (ih_4 _ _ (by omega) (by omega) (by first | (rw [hb]; exact or_acc (cntB_0 M) (cntB_1 M) hk (by omega) q17) | (rw [hb]; exact sm_skip hk (cntB_0 M k q17))) (by omega)) ⟨rfl, rfl, rfl, trivial⟩
  exact g_sub (L_4 _ _ _ (by omega) (by omega) (rfl) (Nat.lt_succ_self _)) ⟨rfl, rfl, rfl, trivial⟩
set_option maxRecDepth 100000 in
set_option maxHeartbeats 4000000 in
theorem c_X8_nearOnes (lL : Launch) (tT : TT) (dD : va_G) (al : Int → Nat) (M : Mem) (w : Int) (hV : IV M) (hw : 0 ≤ w ∧ w ≤ 9) : CI lL yX8_nearOnes cX8_nearOnes 4 FieldType.int 1 25 tT dD al [.ref (al 24), .int (iN w)] M (fun r M' => r = nrB M w (M 114 23).toNat ∧ M' = M) := by
  refine CI.of (own := "RedSkies$Show") (ls0 := [some (.ref (al 24)), some (.int (iN w)), none, none]) (by decide +kernel) rfl (Nat.le_of_ble_eq_true rfl) rfl ?_
  intro pP eE sS mI aA bB mM cC X hr hlk
  obtain ⟨Q, hQ⟩ : ∃ Q : State → Prop, Q = MQ bB (QI tT dD al (fun r M' => r = nrB M w (M 114 23).toNat ∧ M' = M)) aA sS 0 0 (fA al) := ⟨_, rfl⟩
  rw [← hQ]
  have hW := hV.w
  have w2 := hW.n
  have n1 := hV.hn
  refine g_iconst X dX8_nearOnes_0 ?_
  refine g_istore_n_2 X dX8_nearOnes_1 rfl rfl (fun v2_1 ev2_1 => ?_)
  subst v2_1
  refine g_iconst X dX8_nearOnes_2 ?_
  refine g_istore_n_3 X dX8_nearOnes_3 rfl rfl (fun v3_3 ev3_3 => ?_)
  subst v3_3
  have L_4 : ∀ (n : Nat) (b : Int) (k : Int), (0 ≤ k) → (k ≤ M 114 23) → (b = nrB M w k.toNat) → (16 - k).toNat < n → Gd pP lL eE (rmN 1 25) sS mI aA bB mM cC 0 0 Q tT dD al (fA al) 4 [some (.ref (al 24)), some (.int (iN w)), some (.int (iN b)), some (.int (iN k))] [] M := by
    intro n
    induction n with
    | zero => intro b k hk hk2 hb hm; exact absurd hm (Nat.not_lt_zero _)
    | succ n ih =>
      intro b k hk hk2 hb hm
      have ih_4 := ih
      clear ih
      refine g_iload_n X dX8_nearOnes_4 rfl rfl ?_
      refine g_aload_n X dX8_nearOnes_5 rfl rfl ?_
      refine g_geti (kz := 5) X kd_24 fc7 (k := 5) (by decide) rfl wd_227 rfl dX8_nearOnes_6 ?_
      refine g_icmp_ge (tgt := 41) X dX8_nearOnes_9 (by decide) ⟨by omega, by omega⟩ ⟨by omega, by omega⟩ (fun q9 => ?_) (fun q9 => ?_)
      · refine g_iload_n X dX8_nearOnes_41 rfl rfl ?_
        rw [hQ]
        refine g_iret X hr hlk dX8_nearOnes_42 ?_
        obtain rfl : k = M 114 23 := by omega
        exact ⟨hb, rfl⟩
      · refine g_aload_n X dX8_nearOnes_12 rfl rfl ?_
        refine g_iload_n X dX8_nearOnes_13 rfl rfl ?_
        refine g_callVI X (c_X8_isCountedV lL tT dD al _ _ hV hk (by omega)) kd_24 fc7 lk_RX8_55 rfl rfl ⟨by decide, by decide⟩ rfl (Nat.le_of_ble_eq_true rfl) dX8_nearOnes_14 (fun r14 M14 hc14 => ?_)
        obtain ⟨hr14, hm14⟩ := hc14
        subst r14
        subst M14
        refine g_if_eq (tgt := 35) X dX8_nearOnes_17 (by decide) (b2i_i32 _) (fun q17 => ?_) (fun q17 => ?_)
        · have q17 := b2i_f q17
          refine g_iinc_3 X dX8_nearOnes_35 rfl (fun v3_35 ev3_35 => ?_)
          subst v3_35
          refine g_goto (tgt := 4) X dX8_nearOnes_38 (by decide) ?_
          exact g_sub (ih_4 _ _ (by omega) (by omega) (by first | (rw [hb]; exact or_acc (nrB_0 M w) (nrB_1 M w) hk (by omega) ⟨q17, q26⟩) | (rw [hb]; exact sm_skip hk (nrB_0 M w k (fun z => q26 z.2))) | (rw [hb]; exact sm_skip hk (nrB_0 M w k (fun z => z.1 (by omega))))) (by omega)) ⟨rfl, rfl, rfl, rfl, trivial⟩
        · have q17 := b2i_t q17
          refine g_aload_n X dX8_nearOnes_20 rfl rfl ?_
          refine g_iload_n X dX8_nearOnes_21 rfl rfl ?_
          refine g_iload_n X dX8_nearOnes_22 rfl rfl ?_
          refine g_callVI X (c_X8_isNear lL tT dD al _ _ _ hV hk (by omega) hw) kd_24 fc7 lk_RX8_59 rfl rfl ⟨by decide, by decide⟩ rfl (Nat.le_of_ble_eq_true rfl) dX8_nearOnes_23 (fun r23 M23 hc23 => ?_)
          obtain ⟨hr23, hm23⟩ := hc23
          subst r23
          subst M23
          refine g_if_eq (tgt := 35) X dX8_nearOnes_26 (by decide) (b2i_i32 _) (fun q26 => ?_) (fun q26 => ?_)
          · have q26 := b2i_f q26
            refine g_iinc_3 X dX8_nearOnes_35 rfl (fun v3_35 ev3_35 => ?_)
            subst v3_35
            refine g_goto (tgt := 4) X dX8_nearOnes_38 (by decide) ?_
            exact g_sub (ih_4 _ _ (by omega) (by omega) (by first | (rw [hb]; exact or_acc (nrB_0 M w) (nrB_1 M w) hk (by omega) ⟨q17, q26⟩) | (rw [hb]; exact sm_skip hk (nrB_0 M w k (fun z => q26 z.2))) | (rw [hb]; exact sm_skip hk (nrB_0 M w k (fun z => z.1 (by omega))))) (by omega)) ⟨rfl, rfl, rfl, rfl, trivial⟩
          · have q26 := b2i_t q26
            refine g_iload_n X dX8_nearOnes_29 rfl rfl ?_
            refine g_iconst X dX8_nearOnes_30 ?_
            refine g_iload_n X dX8_nearOnes_31 rfl rfl ?_
            refine g_ishl X dX8_nearOnes_32 ?_
            refine g_ior X dX8_nearOnes_33 ?_
            refine g_istore_n_2 X dX8_nearOnes_34 rfl rfl (fun v2_34 ev2_34 => ?_)
            subst v2_34
            refine g_iinc_3 X dX8_nearOnes_35 rfl (fun v3_35 ev3_35 => ?_)
            subst v3_35
            refine g_goto (tgt := 4) X dX8_nearOnes_38 (by decide) ?_
            exact g_sub (ih_4 _ _ (by omega) (by omega) (by first | (rw [hb]; exact or_acc (nrB_0 M w) (nrB_1 M w) hk (by omega) ⟨q17, q26⟩) | (rw [hb]; exact sm_skip hk (nrB_0 M w k (fun z => q26 z.2))) | (rw [hb]; exact sm_skip hk (nrB_0 M w k (fun z => z.1 (by omega))))) (by omega)) ⟨rfl, rfl, rfl, rfl, trivial⟩
  exact g_sub (L_4 _ _ _ (by omega) (by omega) (rfl) (Nat.lt_succ_self _)) ⟨rfl, rfl, rfl, rfl, trivial⟩
set_option maxRecDepth 100000 in
set_option maxHeartbeats 4000000 in
theorem c_X8_isOfJust (lL : Launch) (tT : TT) (dD : va_G) (al : Int → Nat) (M : Mem) (q y : Int) (hV : IV M) (h0 : 0 ≤ q) (h1 : q < M 114 23) (hy : i32 y) : CI lL yX8_isOfJust cX8_isOfJust 3 FieldType.boolean 1 21 tT dD al [.ref (al 24), .int (iN q), .int (iN y)] M (fun r M' => r = b2i (bkP M y q) ∧ M' = M) := by
  refine CI.of (own := "RedSkies$Show") (ls0 := [some (.ref (al 24)), some (.int (iN q)), some (.int (iN y))]) (by decide +kernel) rfl (Nat.le_of_ble_eq_true rfl) rfl ?_
  intro pP eE sS mI aA bB mM cC X hr hlk
  obtain ⟨Q, hQ⟩ : ∃ Q : State → Prop, Q = MQ bB (QI tT dD al (fun r M' => r = b2i (bkP M y q) ∧ M' = M)) aA sS 0 0 (fA al) := ⟨_, rfl⟩
  rw [← hQ]
  have hW := hV.w
  have w2 := hW.n
  have n1 := hV.hn
  have w1 := hW.row h0 h1
  have e2 := hV.fa h0 h1 (c := 2) (by decide) (by decide)
  have e3 := hV.fa h0 h1 (c := 3) (by decide) (by decide)
  refine g_aload_n X dX8_isOfJust_0 rfl rfl ?_
  refine g_iload_n X dX8_isOfJust_1 rfl rfl ?_
  refine g_callVI X (c_X8_isCountedV lL tT dD al _ _ hV h0 h1) kd_24 fc7 lk_RX8_55 rfl rfl ⟨by decide, by decide⟩ rfl (Nat.le_of_ble_eq_true rfl) dX8_isOfJust_2 (fun r2 M2 hc2 => ?_)
  obtain ⟨hr2, hm2⟩ := hc2
  subst r2
  subst M2
  refine g_if_eq (tgt := 35) X dX8_isOfJust_5 (by decide) (b2i_i32 _) (fun q5 => ?_) (fun q5 => ?_)
  · have q5 := b2i_f q5
    refine g_iconst X dX8_isOfJust_35 ?_
    rw [hQ]
    refine g_zret X hr hlk (by decide) dX8_isOfJust_36 ?_
    first | exact ⟨b2i_1 ⟨by omega, by omega, by omega⟩, rfl⟩ | exact ⟨b2i_0 (by rintro ⟨z1, z2, z3⟩; omega), rfl⟩
  · have q5 := b2i_t q5
    refine g_aload_n X dX8_isOfJust_8 rfl rfl ?_
    refine g_getr (r := 25) X kd_24 fc7 (k := 0) (by decide) rfl wd_216 rfl (by decide) dX8_isOfJust_9 ?_
    refine g_iload_n X dX8_isOfJust_12 rfl rfl ?_
    have b0_13_10 : 0 ≤ q := by omega
    have b1_13_10 : q < 16 := by omega
    refine g_aald X kd_25 (bz := 26) rfl b0_13_10 b1_13_10 dX8_isOfJust_13 ?_
    have kr_13_10 := kr_26 b0_13_10 b1_13_10
    refine g_iconst X dX8_isOfJust_14 ?_
    refine g_iald X kr_13_10 (by decide) (by decide) dX8_isOfJust_15 ?_
    refine g_iload_n X dX8_isOfJust_16 rfl rfl ?_
    refine g_icmp_ne (tgt := 35) X dX8_isOfJust_17 (by decide) ⟨by omega, by omega⟩ ⟨by omega, by omega⟩ (fun q17 => ?_) (fun q17 => ?_)
    · refine g_iconst X dX8_isOfJust_35 ?_
      rw [hQ]
      refine g_zret X hr hlk (by decide) dX8_isOfJust_36 ?_
      first | exact ⟨b2i_1 ⟨by omega, by omega, by omega⟩, rfl⟩ | exact ⟨b2i_0 (by rintro ⟨z1, z2, z3⟩; omega), rfl⟩
    · refine g_aload_n X dX8_isOfJust_20 rfl rfl ?_
      refine g_getr (r := 25) X kd_24 fc7 (k := 0) (by decide) rfl wd_216 rfl (by decide) dX8_isOfJust_21 ?_
      refine g_iload_n X dX8_isOfJust_24 rfl rfl ?_
      have b0_25_20 : 0 ≤ q := by omega
      have b1_25_20 : q < 16 := by omega
      refine g_aald X kd_25 (bz := 26) rfl b0_25_20 b1_25_20 dX8_isOfJust_25 ?_
      have kr_25_20 := kr_26 b0_25_20 b1_25_20
      refine g_iconst X dX8_isOfJust_26 ?_
      refine g_iald X kr_25_20 (by decide) (by decide) dX8_isOfJust_27 ?_
      refine g_if_ne (tgt := 35) X dX8_isOfJust_28 (by decide) ⟨by omega, by omega⟩ (fun q28 => ?_) (fun q28 => ?_)
      · refine g_iconst X dX8_isOfJust_35 ?_
        rw [hQ]
        refine g_zret X hr hlk (by decide) dX8_isOfJust_36 ?_
        first | exact ⟨b2i_1 ⟨by omega, by omega, by omega⟩, rfl⟩ | exact ⟨b2i_0 (by rintro ⟨z1, z2, z3⟩; omega), rfl⟩
      · refine g_iconst X dX8_isOfJust_31 ?_
        refine g_goto (tgt := 36) X dX8_isOfJust_32 (by decide) ?_
        rw [hQ]
        refine g_zret X hr hlk (by decide) dX8_isOfJust_36 ?_
        first | exact ⟨b2i_1 ⟨by omega, by omega, by omega⟩, rfl⟩ | exact ⟨b2i_0 (by rintro ⟨z1, z2, z3⟩; omega), rfl⟩
set_option maxRecDepth 100000 in
set_option maxHeartbeats 4000000 in
theorem c_X8_iceAllows (lL : Launch) (tT : TT) (dD : va_G) (al : Int → Nat) (M : Mem) (y a b : Int) (hV : IV M) (hy : 0 ≤ y ∧ y < 401) (ha : i32 a) (hb : i32 b) : CI lL yX8_iceAllows cX8_iceAllows 4 FieldType.boolean 0 0 tT dD al [.ref (al 24), .int (iN y), .int (iN a), .int (iN b)] M (fun r M' => r = b2i (M 134 y = -1 ∨ (M 134 y ≤ b ∧ a ≤ M 135 y)) ∧ M' = M) := by
  refine CI.of (own := "RedSkies$Show") (ls0 := [some (.ref (al 24)), some (.int (iN y)), some (.int (iN a)), some (.int (iN b))]) (by decide +kernel) rfl (Nat.le_of_ble_eq_true rfl) rfl ?_
  intro pP eE sS mI aA bB mM cC X hr hlk
  obtain ⟨Q, hQ⟩ : ∃ Q : State → Prop, Q = MQ bB (QI tT dD al (fun r M' => r = b2i (M 134 y = -1 ∨ (M 134 y ≤ b ∧ a ≤ M 135 y)) ∧ M' = M)) aA sS 0 0 (fA al) := ⟨_, rfl⟩
  rw [← hQ]
  have hW := hV.w
  have w2 := hW.n
  have n1 := hV.hn
  have w1 := hW.ice hy.1 hy.2
  have e1 := hV.ic hy.1 hy.2
  refine g_aload_n X dX8_iceAllows_0 rfl rfl ?_
  refine g_getr (r := 60) X kd_24 fc7 (k := 3) (by decide) rfl wd_223 rfl (by decide) dX8_iceAllows_1 ?_
  refine g_iload_n X dX8_iceAllows_4 rfl rfl ?_
  refine g_iald X kd_60 (by omega) (by omega) dX8_iceAllows_5 ?_
  refine g_iconst X dX8_iceAllows_6 ?_
  refine g_icmp_eq (tgt := 30) X dX8_iceAllows_7 (by decide) ⟨by omega, by omega⟩ (by decide) (fun q7 => ?_) (fun q7 => ?_)
  · refine g_iconst X dX8_iceAllows_30 ?_
    refine g_goto (tgt := 35) X dX8_iceAllows_31 (by decide) ?_
    rw [hQ]
    refine g_zret X hr hlk (by decide) dX8_iceAllows_35 ?_
    first | exact ⟨b2i_1 (by omega), rfl⟩ | exact ⟨b2i_0 (by omega), rfl⟩
  · refine g_aload_n X dX8_iceAllows_10 rfl rfl ?_
    refine g_getr (r := 60) X kd_24 fc7 (k := 3) (by decide) rfl wd_223 rfl (by decide) dX8_iceAllows_11 ?_
    refine g_iload_n X dX8_iceAllows_14 rfl rfl ?_
    refine g_iald X kd_60 (by omega) (by omega) dX8_iceAllows_15 ?_
    refine g_iload_n X dX8_iceAllows_16 rfl rfl ?_
    refine g_icmp_gt (tgt := 34) X dX8_iceAllows_17 (by decide) ⟨by omega, by omega⟩ ⟨by omega, by omega⟩ (fun q17 => ?_) (fun q17 => ?_)
    · refine g_iconst X dX8_iceAllows_34 ?_
      rw [hQ]
      refine g_zret X hr hlk (by decide) dX8_iceAllows_35 ?_
      first | exact ⟨b2i_1 (by omega), rfl⟩ | exact ⟨b2i_0 (by omega), rfl⟩
    · refine g_iload_n X dX8_iceAllows_20 rfl rfl ?_
      refine g_aload_n X dX8_iceAllows_21 rfl rfl ?_
      refine g_getr (r := 61) X kd_24 fc7 (k := 4) (by decide) rfl wd_225 rfl (by decide) dX8_iceAllows_22 ?_
      refine g_iload_n X dX8_iceAllows_25 rfl rfl ?_
      refine g_iald X kd_61 (by omega) (by omega) dX8_iceAllows_26 ?_
      refine g_icmp_gt (tgt := 34) X dX8_iceAllows_27 (by decide) ⟨by omega, by omega⟩ ⟨by omega, by omega⟩ (fun q27 => ?_) (fun q27 => ?_)
      · refine g_iconst X dX8_iceAllows_34 ?_
        rw [hQ]
        refine g_zret X hr hlk (by decide) dX8_iceAllows_35 ?_
        first | exact ⟨b2i_1 (by omega), rfl⟩ | exact ⟨b2i_0 (by omega), rfl⟩
      · refine g_iconst X dX8_iceAllows_30 ?_
        refine g_goto (tgt := 35) X dX8_iceAllows_31 (by decide) ?_
        rw [hQ]
        refine g_zret X hr hlk (by decide) dX8_iceAllows_35 ?_
        first | exact ⟨b2i_1 (by omega), rfl⟩ | exact ⟨b2i_0 (by omega), rfl⟩
set_option maxRecDepth 100000 in
set_option maxHeartbeats 4000000 in
theorem c_X9_nearness (lL : Launch) (tT : TT) (dD : va_G) (al : Int → Nat) (M : Mem) (q w : Int) (hV : IV M) (h0 : 0 ≤ q) (h1 : q < M 114 23) (hw : 0 ≤ w ∧ w ≤ 9) : CI lL yX9_nearness cX9_nearness 3 FieldType.int 1 25 tT dD al [.ref (al 0), .int (iN q), .int (iN w)] M (fun r M' => r = nrO M q w ∧ M' = M) := by
  refine CI.of (own := "RedSkies") (ls0 := [some (.ref (al 0)), some (.int (iN q)), some (.int (iN w))]) (by decide +kernel) rfl (Nat.le_of_ble_eq_true rfl) rfl ?_
  intro pP eE sS mI aA bB mM cC X hr hlk
  obtain ⟨Q, hQ⟩ : ∃ Q : State → Prop, Q = MQ bB (QI tT dD al (fun r M' => r = nrO M q w ∧ M' = M)) aA sS 0 0 (fA al) := ⟨_, rfl⟩
  rw [← hQ]
  have hW := hV.w
  have w2 := hW.n
  have n1 := hV.hn
  refine g_aload_n X dX9_nearness_0 rfl rfl ?_
  refine g_getr (r := 24) X kd_0 fc8 (k := 9) (by decide) rfl wd_312 rfl (by decide) dX9_nearness_1 ?_
  refine g_iload_n X dX9_nearness_4 rfl rfl ?_
  refine g_callVI X (c_X8_isCountedV lL tT dD al _ _ hV h0 h1) kd_24 fc7 lk_RX9_314 rfl rfl ⟨by decide, by decide⟩ rfl (Nat.le_of_ble_eq_true rfl) dX9_nearness_5 (fun r5 M5 hc5 => ?_)
  obtain ⟨hr5, hm5⟩ := hc5
  subst r5
  subst M5
  refine g_if_ne (tgt := 13) X dX9_nearness_8 (by decide) (b2i_i32 _) (fun q8 => ?_) (fun q8 => ?_)
  · have q8 := b2i_t q8
    refine g_aload_n X dX9_nearness_13 rfl rfl ?_
    refine g_getr (r := 24) X kd_0 fc8 (k := 9) (by decide) rfl wd_312 rfl (by decide) dX9_nearness_14 ?_
    refine g_iload_n X dX9_nearness_17 rfl rfl ?_
    refine g_iload_n X dX9_nearness_18 rfl rfl ?_
    refine g_callVI X (c_X8_isNear lL tT dD al _ _ _ hV h0 h1 hw) kd_24 fc7 lk_RX9_317 rfl rfl ⟨by decide, by decide⟩ rfl (Nat.le_of_ble_eq_true rfl) dX9_nearness_19 (fun r19 M19 hc19 => ?_)
    obtain ⟨hr19, hm19⟩ := hc19
    subst r19
    subst M19
    refine g_if_eq (tgt := 29) X dX9_nearness_22 (by decide) (b2i_i32 _) (fun q22 => ?_) (fun q22 => ?_)
    · have q22 := b2i_f q22
      refine g_iconst X dX9_nearness_29 ?_
      rw [hQ]
      refine g_iret X hr hlk dX9_nearness_30 ?_
      exact ⟨by unfold nrO; rw [if_neg (by omega)]; first | exact b2i_1 q22 | exact b2i_0 q22, rfl⟩
    · have q22 := b2i_t q22
      refine g_iconst X dX9_nearness_25 ?_
      refine g_goto (tgt := 30) X dX9_nearness_26 (by decide) ?_
      rw [hQ]
      refine g_iret X hr hlk dX9_nearness_30 ?_
      exact ⟨by unfold nrO; rw [if_neg (by omega)]; first | exact b2i_1 q22 | exact b2i_0 q22, rfl⟩
  · have q8 := b2i_f q8
    refine g_iconst X dX9_nearness_11 ?_
    rw [hQ]
    refine g_iret X hr hlk dX9_nearness_12 ?_
    exact ⟨by unfold nrO; rw [if_pos (by omega)], rfl⟩
