set_option maxRecDepth 100000 in
set_option maxHeartbeats 4000000 in
theorem c_X9_classes (lL : Launch) (tT : TT) (dD : va_G) (al : Int → Nat) (M : Mem) (m q z : Int) (hV : IV M) (im : i32 m) (iq : i32 q) (iz : i32 z) : CI lL yX9_classes cX9_classes 5 FieldType.int 3 75 tT dD al [.ref (al 0), .int (iN m), .int (iN q), .int (iN z)] M (fun r M' => r = (if (0 ≤ m ∧ m < M 114 15) ∧ (0 ≤ q ∧ q < M 114 23) then (if 0 ≤ z ∧ z ≤ 1 then (if M 114 17 = 0 then -103 else if z = 0 then lowS M m q else highS M m q) else -102) else -101) ∧ M' = M) := by
  refine CI.of (own := "RedSkies") (ls0 := [some (.ref (al 0)), some (.int (iN m)), some (.int (iN q)), some (.int (iN z)), none]) (by decide +kernel) rfl (Nat.le_of_ble_eq_true rfl) rfl ?_
  intro pP eE sS mI aA bB mM cC X hr hlk
  obtain ⟨Q, hQ⟩ : ∃ Q : State → Prop, Q = MQ bB (QI tT dD al (fun r M' => r = (if (0 ≤ m ∧ m < M 114 15) ∧ (0 ≤ q ∧ q < M 114 23) then (if 0 ≤ z ∧ z ≤ 1 then (if M 114 17 = 0 then -103 else if z = 0 then lowS M m q else highS M m q) else -102) else -101) ∧ M' = M)) aA sS 0 0 (fA al) := ⟨_, rfl⟩
  rw [← hQ]
  have hW := hV.w
  have w2 := hW.n
  have n1 := hV.hn
  have w3 := hW.mea
  have w4 := hW.pig
  have w5 := hW.lam
  have w6 := hW.law
  have k1 := hV.la
  have k2 := hV.pi
  have k3 := hV.me
  have k4 := hV.lw
  refine g_aload_n X dX9_classes_0 rfl rfl ?_
  refine g_iload_n X dX9_classes_1 rfl rfl ?_
  refine g_callVI X (c_X9_isMeasure lL tT dD al _ _ ⟨by omega, by omega⟩ ⟨by omega, by omega⟩) kd_0 fc8 lk_RX9_160 rfl rfl ⟨by decide, by decide⟩ rfl (Nat.le_of_ble_eq_true rfl) dX9_classes_2 (fun r2 M2 hc2 => ?_)
  obtain ⟨hr2, hm2⟩ := hc2
  subst r2
  subst M2
  refine g_if_eq (tgt := 19) X dX9_classes_5 (by decide) (b2i_i32 _) (fun q5 => ?_) (fun q5 => ?_)
  · have q5 := b2i_f q5
    refine g_bipush X dX9_classes_19 (by decide +kernel) ?_
    rw [hQ]
    refine g_iret X hr hlk dX9_classes_21 ?_
    first | exact ⟨by rw [if_neg (by omega)], rfl⟩ | exact ⟨by rw [if_pos (by omega), if_neg (by omega)], rfl⟩ | exact ⟨by rw [if_pos (by omega), if_pos (by omega), if_pos (by omega)], rfl⟩ | exact ⟨by rw [if_pos (by omega), if_pos (by omega), if_neg (by omega), if_pos (by omega)]; rfl, rfl⟩ | exact ⟨by rw [if_pos (by omega), if_pos (by omega), if_neg (by omega), if_neg (by omega)]; rfl, rfl⟩
  · have q5 := b2i_t q5
    refine g_aload_n X dX9_classes_8 rfl rfl ?_
    refine g_getr (r := 24) X kd_0 fc8 (k := 9) (by decide) rfl wd_312 rfl (by decide) dX9_classes_9 ?_
    refine g_iload_n X dX9_classes_12 rfl rfl ?_
    refine g_callVI X (c_X8_has lL tT dD al _ _ ⟨by omega, by omega⟩ ⟨by omega, by omega⟩) kd_24 fc7 lk_RX9_144 rfl rfl ⟨by decide, by decide⟩ rfl (Nat.le_of_ble_eq_true rfl) dX9_classes_13 (fun r13 M13 hc13 => ?_)
    obtain ⟨hr13, hm13⟩ := hc13
    subst r13
    subst M13
    refine g_if_ne (tgt := 22) X dX9_classes_16 (by decide) (b2i_i32 _) (fun q16 => ?_) (fun q16 => ?_)
    · have q16 := b2i_t q16
      refine g_iload_n X dX9_classes_22 rfl rfl ?_
      refine g_iconst X dX9_classes_23 ?_
      refine g_callSI X (c_X9_isWithin lL tT dD al _ _ _ ⟨by omega, by omega⟩ (by decide)) lk_RX9_126 rfl rfl ⟨by decide, by decide⟩ rfl (Nat.le_of_ble_eq_true rfl) dX9_classes_24 (fun r24 M24 hc24 => ?_)
      obtain ⟨hr24, hm24⟩ := hc24
      subst r24
      subst M24
      refine g_if_ne (tgt := 33) X dX9_classes_27 (by decide) (b2i_i32 _) (fun q27 => ?_) (fun q27 => ?_)
      · have q27 := b2i_t q27
        refine g_aload_n X dX9_classes_33 rfl rfl ?_
        refine g_getr (r := 22) X kd_0 fc8 (k := 8) (by decide) rfl wd_311 rfl (by decide) dX9_classes_34 ?_
        refine g_geti (kz := 1) X kd_22 fc2 (k := 1) (by decide) rfl wd_197 rfl dX9_classes_37 ?_
        refine g_if_ne (tgt := 46) X dX9_classes_40 (by decide) ⟨by omega, by omega⟩ (fun q40 => ?_) (fun q40 => ?_)
        · refine g_aload_n X dX9_classes_46 rfl rfl ?_
          refine g_iload_n X dX9_classes_47 rfl rfl ?_
          refine g_iload_n X dX9_classes_48 rfl rfl ?_
          refine g_callVI X (c_X9_valueOf lL tT dD al _ _ _ hV (by omega) (by omega) (by omega) (by omega)) kd_0 fc8 lk_RX9_163 rfl rfl ⟨by decide, by decide⟩ rfl (Nat.le_of_ble_eq_true rfl) dX9_classes_49 (fun r49 M49 hc49 => ?_)
          obtain ⟨hr49, hm49⟩ := hc49
          subst r49
          subst M49
          refine g_istore_4 X dX9_classes_52 rfl (fun v4_52 ev4_52 => ?_)
          subst v4_52
          refine g_iload_n X dX9_classes_54 rfl rfl ?_
          refine g_if_ne (tgt := 70) X dX9_classes_55 (by decide) ⟨by omega, by omega⟩ (fun q55 => ?_) (fun q55 => ?_)
          · refine g_aload_n X dX9_classes_70 rfl rfl ?_
            refine g_getr (r := 22) X kd_0 fc8 (k := 8) (by decide) rfl wd_311 rfl (by decide) dX9_classes_71 ?_
            refine g_iload X dX9_classes_74 rfl ?_
            have vr := vlu_rng hW (m := m) (p := q) (by omega) (by omega)
            refine g_callVI X (c_X2_highest lL tT dD al _ _ hV (by omega)) kd_22 fc2 lk_RX9_261 rfl rfl ⟨by decide, by decide⟩ rfl (Nat.le_of_ble_eq_true rfl) dX9_classes_76 (fun r76 M76 hc76 => ?_)
            obtain ⟨hr76, hm76⟩ := hc76
            subst r76
            subst M76
            rw [hQ]
            refine g_iret X hr hlk dX9_classes_79 ?_
            first | exact ⟨by rw [if_neg (by omega)], rfl⟩ | exact ⟨by rw [if_pos (by omega), if_neg (by omega)], rfl⟩ | exact ⟨by rw [if_pos (by omega), if_pos (by omega), if_pos (by omega)], rfl⟩ | exact ⟨by rw [if_pos (by omega), if_pos (by omega), if_neg (by omega), if_pos (by omega)]; rfl, rfl⟩ | exact ⟨by rw [if_pos (by omega), if_pos (by omega), if_neg (by omega), if_neg (by omega)]; rfl, rfl⟩
          · refine g_aload_n X dX9_classes_58 rfl rfl ?_
            refine g_getr (r := 22) X kd_0 fc8 (k := 8) (by decide) rfl wd_311 rfl (by decide) dX9_classes_59 ?_
            refine g_iload X dX9_classes_62 rfl ?_
            have vr := vlu_rng hW (m := m) (p := q) (by omega) (by omega)
            refine g_callVI X (c_X2_lowest lL tT dD al _ _ hV (by omega)) kd_22 fc2 lk_RX9_258 rfl rfl ⟨by decide, by decide⟩ rfl (Nat.le_of_ble_eq_true rfl) dX9_classes_64 (fun r64 M64 hc64 => ?_)
            obtain ⟨hr64, hm64⟩ := hc64
            subst r64
            subst M64
            refine g_goto (tgt := 79) X dX9_classes_67 (by decide) ?_
            rw [hQ]
            refine g_iret X hr hlk dX9_classes_79 ?_
            first | exact ⟨by rw [if_neg (by omega)], rfl⟩ | exact ⟨by rw [if_pos (by omega), if_neg (by omega)], rfl⟩ | exact ⟨by rw [if_pos (by omega), if_pos (by omega), if_pos (by omega)], rfl⟩ | exact ⟨by rw [if_pos (by omega), if_pos (by omega), if_neg (by omega), if_pos (by omega)]; rfl, rfl⟩ | exact ⟨by rw [if_pos (by omega), if_pos (by omega), if_neg (by omega), if_neg (by omega)]; rfl, rfl⟩
        · refine g_bipush X dX9_classes_43 (by decide +kernel) ?_
          rw [hQ]
          refine g_iret X hr hlk dX9_classes_45 ?_
          first | exact ⟨by rw [if_neg (by omega)], rfl⟩ | exact ⟨by rw [if_pos (by omega), if_neg (by omega)], rfl⟩ | exact ⟨by rw [if_pos (by omega), if_pos (by omega), if_pos (by omega)], rfl⟩ | exact ⟨by rw [if_pos (by omega), if_pos (by omega), if_neg (by omega), if_pos (by omega)]; rfl, rfl⟩ | exact ⟨by rw [if_pos (by omega), if_pos (by omega), if_neg (by omega), if_neg (by omega)]; rfl, rfl⟩
      · have q27 := b2i_f q27
        refine g_bipush X dX9_classes_30 (by decide +kernel) ?_
        rw [hQ]
        refine g_iret X hr hlk dX9_classes_32 ?_
        first | exact ⟨by rw [if_neg (by omega)], rfl⟩ | exact ⟨by rw [if_pos (by omega), if_neg (by omega)], rfl⟩ | exact ⟨by rw [if_pos (by omega), if_pos (by omega), if_pos (by omega)], rfl⟩ | exact ⟨by rw [if_pos (by omega), if_pos (by omega), if_neg (by omega), if_pos (by omega)]; rfl, rfl⟩ | exact ⟨by rw [if_pos (by omega), if_pos (by omega), if_neg (by omega), if_neg (by omega)]; rfl, rfl⟩
    · have q16 := b2i_f q16
      refine g_bipush X dX9_classes_19 (by decide +kernel) ?_
      rw [hQ]
      refine g_iret X hr hlk dX9_classes_21 ?_
      first | exact ⟨by rw [if_neg (by omega)], rfl⟩ | exact ⟨by rw [if_pos (by omega), if_neg (by omega)], rfl⟩ | exact ⟨by rw [if_pos (by omega), if_pos (by omega), if_pos (by omega)], rfl⟩ | exact ⟨by rw [if_pos (by omega), if_pos (by omega), if_neg (by omega), if_pos (by omega)]; rfl, rfl⟩ | exact ⟨by rw [if_pos (by omega), if_pos (by omega), if_neg (by omega), if_neg (by omega)]; rfl, rfl⟩
set_option maxRecDepth 100000 in
set_option maxHeartbeats 4000000 in
theorem c_X9_back (lL : Launch) (tT : TT) (dD : va_G) (al : Int → Nat) (M : Mem) (m y z : Int) (hV : IV M) (im : i32 m) (iy : i32 y) (iz : i32 z) : CI lL yX9_back cX9_back 9 FieldType.int 3 75 tT dD al [.ref (al 0), .int (iN m), .int (iN y), .int (iN z)] M (fun r M' => r = (if 0 ≤ m ∧ m < M 114 15 then (if (0 ≤ y ∧ y ≤ 400) ∧ (0 ≤ z ∧ z ≤ 1) then (if M 114 17 = 0 then -103 else if bkH M m y (M 114 23).toNat < bkL M m y (M 114 23).toNat then -1 else if z = 0 then bkL M m y (M 114 23).toNat else bkH M m y (M 114 23).toNat) else -102) else -101) ∧ M' = M) := by
  refine CI.of (own := "RedSkies") (ls0 := [some (.ref (al 0)), some (.int (iN m)), some (.int (iN y)), some (.int (iN z)), none, none, none, none, none]) (by decide +kernel) rfl (Nat.le_of_ble_eq_true rfl) rfl ?_
  intro pP eE sS mI aA bB mM cC X hr hlk
  obtain ⟨Q, hQ⟩ : ∃ Q : State → Prop, Q = MQ bB (QI tT dD al (fun r M' => r = (if 0 ≤ m ∧ m < M 114 15 then (if (0 ≤ y ∧ y ≤ 400) ∧ (0 ≤ z ∧ z ≤ 1) then (if M 114 17 = 0 then -103 else if bkH M m y (M 114 23).toNat < bkL M m y (M 114 23).toNat then -1 else if z = 0 then bkL M m y (M 114 23).toNat else bkH M m y (M 114 23).toNat) else -102) else -101) ∧ M' = M)) aA sS 0 0 (fA al) := ⟨_, rfl⟩
  rw [← hQ]
  have hW := hV.w
  have w2 := hW.n
  have n1 := hV.hn
  have w3 := hW.mea
  have w4 := hW.pig
  have w5 := hW.lam
  have w6 := hW.law
  have k1 := hV.la
  have k2 := hV.pi
  have k3 := hV.me
  have k4 := hV.lw
  refine g_aload_n X dX9_back_0 rfl rfl ?_
  refine g_iload_n X dX9_back_1 rfl rfl ?_
  refine g_callVI X (c_X9_isMeasure lL tT dD al _ _ ⟨by omega, by omega⟩ ⟨by omega, by omega⟩) kd_0 fc8 lk_RX9_160 rfl rfl ⟨by decide, by decide⟩ rfl (Nat.le_of_ble_eq_true rfl) dX9_back_2 (fun r2 M2 hc2 => ?_)
  obtain ⟨hr2, hm2⟩ := hc2
  subst r2
  subst M2
  refine g_if_ne (tgt := 11) X dX9_back_5 (by decide) (b2i_i32 _) (fun q5 => ?_) (fun q5 => ?_)
  · have q5 := b2i_t q5
    refine g_iload_n X dX9_back_11 rfl rfl ?_
    refine g_sipush X dX9_back_12 (by decide +kernel) ?_
    refine g_callSI X (c_X9_isWithin lL tT dD al _ _ _ ⟨by omega, by omega⟩ (by decide)) lk_RX9_126 rfl rfl ⟨by decide, by decide⟩ rfl (Nat.le_of_ble_eq_true rfl) dX9_back_15 (fun r15 M15 hc15 => ?_)
    obtain ⟨hr15, hm15⟩ := hc15
    subst r15
    subst M15
    refine g_if_eq (tgt := 29) X dX9_back_18 (by decide) (b2i_i32 _) (fun q18 => ?_) (fun q18 => ?_)
    · have q18 := b2i_f q18
      refine g_bipush X dX9_back_29 (by decide +kernel) ?_
      rw [hQ]
      refine g_iret X hr hlk dX9_back_31 ?_
      first | exact ⟨by rw [if_neg (by omega)], rfl⟩ | exact ⟨by rw [if_pos (by omega), if_neg (by omega)], rfl⟩ | exact ⟨by rw [if_pos (by omega), if_pos (by omega), if_pos (by omega)], rfl⟩ | (obtain rfl : k = M 114 23 := (by omega); exact ⟨by rw [if_pos (by omega), if_pos (by omega), if_neg (by omega), ← ha, ← hb]; first | rw [if_pos (by omega)] | (rw [if_neg (by omega)]; first | rw [if_pos (by omega)] | rw [if_neg (by omega)]), rfl⟩)
    · have q18 := b2i_t q18
      refine g_iload_n X dX9_back_21 rfl rfl ?_
      refine g_iconst X dX9_back_22 ?_
      refine g_callSI X (c_X9_isWithin lL tT dD al _ _ _ ⟨by omega, by omega⟩ (by decide)) lk_RX9_126 rfl rfl ⟨by decide, by decide⟩ rfl (Nat.le_of_ble_eq_true rfl) dX9_back_23 (fun r23 M23 hc23 => ?_)
      obtain ⟨hr23, hm23⟩ := hc23
      subst r23
      subst M23
      refine g_if_ne (tgt := 32) X dX9_back_26 (by decide) (b2i_i32 _) (fun q26 => ?_) (fun q26 => ?_)
      · have q26 := b2i_t q26
        refine g_aload_n X dX9_back_32 rfl rfl ?_
        refine g_getr (r := 22) X kd_0 fc8 (k := 8) (by decide) rfl wd_311 rfl (by decide) dX9_back_33 ?_
        refine g_geti (kz := 1) X kd_22 fc2 (k := 1) (by decide) rfl wd_197 rfl dX9_back_36 ?_
        refine g_if_ne (tgt := 45) X dX9_back_39 (by decide) ⟨by omega, by omega⟩ (fun q39 => ?_) (fun q39 => ?_)
        · have e60 := hV.ic (y := y) (by omega) (by omega)
          have w8 := hW.ice (y := y) (by omega) (by omega)
          refine g_aload_n X dX9_back_45 rfl rfl ?_
          refine g_getr (r := 24) X kd_0 fc8 (k := 9) (by decide) rfl wd_312 rfl (by decide) dX9_back_46 ?_
          refine g_getr (r := 60) X kd_24 fc7 (k := 3) (by decide) rfl wd_224 rfl (by decide) dX9_back_49 ?_
          refine g_iload_n X dX9_back_52 rfl rfl ?_
          refine g_iald X kd_60 (by omega) (by omega) dX9_back_53 ?_
          refine g_iconst X dX9_back_54 ?_
          refine g_icmp_eq (tgt := 62) X dX9_back_55 (by decide) ⟨by omega, by omega⟩ (by decide) (fun q55 => ?_) (fun q55 => ?_)
          · refine g_iconst X dX9_back_62 ?_
            refine g_istore_4 X dX9_back_63 rfl (fun v4_63 ev4_63 => ?_)
            subst v4_63
            refine g_iload X dX9_back_65 rfl ?_
            refine g_if_eq (tgt := 82) X dX9_back_67 (by decide) (by decide) (fun _ => ?_) (fun q => absurd q (by decide))
            refine g_iconst X dX9_back_82 ?_
            refine g_istore_5 X dX9_back_83 rfl (fun v5_83 ev5_83 => ?_)
            subst v5_83
            refine g_iload X dX9_back_85 rfl ?_
            refine g_if_eq (tgt := 102) X dX9_back_87 (by decide) (by decide) (fun _ => ?_) (fun q => absurd q (by decide))
            refine g_aload_n X dX9_back_102 rfl rfl ?_
            refine g_getr (r := 22) X kd_0 fc8 (k := 8) (by decide) rfl wd_311 rfl (by decide) dX9_back_103 ?_
            refine g_geti (kz := 1) X kd_22 fc2 (k := 1) (by decide) rfl wd_197 rfl dX9_back_106 ?_
            refine g_istore_6 X dX9_back_109 rfl (fun v6_109 ev6_109 => ?_)
            subst v6_109
            refine g_iconst X dX9_back_111 ?_
            refine g_istore_7 X dX9_back_112 rfl (fun v7_112 ev7_112 => ?_)
            subst v7_112
            have L_114 : ∀ (n : Nat) (a : Int) (b : Int) (k : Int), (0 ≤ k) → (k ≤ M 114 23) → (a = bkL M m y k.toNat) → (b = bkH M m y k.toNat) → (16 - k).toNat < n → Gd pP lL eE (rmN 3 75) sS mI aA bB mM cC 0 0 Q tT dD al (fA al) 114 [some (.ref (al 0)), some (.int (iN m)), some (.int (iN y)), some (.int (iN z)), none, some (.int (iN a)), some (.int (iN b)), some (.int (iN k)), none] [] M := by
              intro n
              induction n with
              | zero => intro a b k hk hk2 ha hb hm; exact absurd hm (Nat.not_lt_zero _)
              | succ n ih =>
                intro a b k hk hk2 ha hb hm
                have br := bk_rng hW m (y := y) (by omega) (by omega) k.toNat
                rw [← ha, ← hb] at br
                have bks := bk_s M m y hk
                rw [← ha, ← hb] at bks
                have ih_114 := ih
                clear ih
                refine g_iload X dX9_back_114 rfl ?_
                refine g_aload_n X dX9_back_116 rfl rfl ?_
                refine g_getr (r := 24) X kd_0 fc8 (k := 9) (by decide) rfl wd_312 rfl (by decide) dX9_back_117 ?_
                refine g_geti (kz := 5) X kd_24 fc7 (k := 5) (by decide) rfl wd_228 rfl dX9_back_120 ?_
                refine g_icmp_ge (tgt := 186) X dX9_back_123 (by decide) ⟨by omega, by omega⟩ ⟨by omega, by omega⟩ (fun q123 => ?_) (fun q123 => ?_)
                · refine g_iload X dX9_back_186 rfl ?_
                  refine g_iload X dX9_back_188 rfl ?_
                  refine g_icmp_le (tgt := 195) X dX9_back_190 (by decide) ⟨by omega, by omega⟩ ⟨by omega, by omega⟩ (fun q190 => ?_) (fun q190 => ?_)
                  · refine g_iload_n X dX9_back_195 rfl rfl ?_
                    refine g_if_ne (tgt := 204) X dX9_back_196 (by decide) ⟨by omega, by omega⟩ (fun q196 => ?_) (fun q196 => ?_)
                    · refine g_iload X dX9_back_204 rfl ?_
                      rw [hQ]
                      refine g_iret X hr hlk dX9_back_206 ?_
                      first | exact ⟨by rw [if_neg (by omega)], rfl⟩ | exact ⟨by rw [if_pos (by omega), if_neg (by omega)], rfl⟩ | exact ⟨by rw [if_pos (by omega), if_pos (by omega), if_pos (by omega)], rfl⟩ | (obtain rfl : k = M 114 23 := (by omega); exact ⟨by rw [if_pos (by omega), if_pos (by omega), if_neg (by omega), ← ha, ← hb]; first | rw [if_pos (by omega)] | (rw [if_neg (by omega)]; first | rw [if_pos (by omega)] | rw [if_neg (by omega)]), rfl⟩)
                    · refine g_iload X dX9_back_199 rfl ?_
                      refine g_goto (tgt := 206) X dX9_back_201 (by decide) ?_
                      rw [hQ]
                      refine g_iret X hr hlk dX9_back_206 ?_
                      first | exact ⟨by rw [if_neg (by omega)], rfl⟩ | exact ⟨by rw [if_pos (by omega), if_neg (by omega)], rfl⟩ | exact ⟨by rw [if_pos (by omega), if_pos (by omega), if_pos (by omega)], rfl⟩ | (obtain rfl : k = M 114 23 := (by omega); exact ⟨by rw [if_pos (by omega), if_pos (by omega), if_neg (by omega), ← ha, ← hb]; first | rw [if_pos (by omega)] | (rw [if_neg (by omega)]; first | rw [if_pos (by omega)] | rw [if_neg (by omega)]), rfl⟩)
                  · refine g_iconst X dX9_back_193 ?_
                    rw [hQ]
                    refine g_iret X hr hlk dX9_back_194 ?_
                    first | exact ⟨by rw [if_neg (by omega)], rfl⟩ | exact ⟨by rw [if_pos (by omega), if_neg (by omega)], rfl⟩ | exact ⟨by rw [if_pos (by omega), if_pos (by omega), if_pos (by omega)], rfl⟩ | (obtain rfl : k = M 114 23 := (by omega); exact ⟨by rw [if_pos (by omega), if_pos (by omega), if_neg (by omega), ← ha, ← hb]; first | rw [if_pos (by omega)] | (rw [if_neg (by omega)]; first | rw [if_pos (by omega)] | rw [if_neg (by omega)]), rfl⟩)
                · refine g_aload_n X dX9_back_126 rfl rfl ?_
                  refine g_getr (r := 24) X kd_0 fc8 (k := 9) (by decide) rfl wd_312 rfl (by decide) dX9_back_127 ?_
                  refine g_iload X dX9_back_130 rfl ?_
                  refine g_iload_n X dX9_back_132 rfl rfl ?_
                  refine g_callVI X (c_X8_isOfJust lL tT dD al _ _ _ hV hk (by omega) iy) kd_24 fc7 lk_RX9_267 rfl rfl ⟨by decide, by decide⟩ rfl (Nat.le_of_ble_eq_true rfl) dX9_back_133 (fun r133 M133 hc133 => ?_)
                  obtain ⟨hr133, hm133⟩ := hc133
                  subst r133
                  subst M133
                  refine g_if_eq (tgt := 180) X dX9_back_136 (by decide) (b2i_i32 _) (fun q136 => ?_) (fun q136 => ?_)
                  · have q136 := b2i_f q136
                    rw [← b2i_0 q136, if_neg (by decide), if_neg (by decide)] at bks
                    refine g_iinc_7 X dX9_back_180 rfl (fun v7_180 ev7_180 => ?_)
                    subst v7_180
                    refine g_goto (tgt := 114) X dX9_back_183 (by decide) ?_
                    exact g_sub (ih_114 _ _ _ (by omega) (by omega) (by rw [bks.1]; try omega) (by rw [bks.2]; try omega) (by omega)) ⟨rfl, rfl, rfl, rfl, rfl, rfl, rfl, trivial⟩
                  · have q136 := b2i_t q136
                    have vr := vlu_rng hW (m := m) (p := k) (by omega) (by omega)
                    have c1 := clsS_rng M (vlu M m k - M 114 19) (by omega)
                    have c2 := clsS_rng M (vlu M m k + M 114 19) (by omega)
                    have ls : lowS M m k = clsS M (vlu M m k - M 114 19) := rfl
                    have hs : highS M m k = clsS M (vlu M m k + M 114 19) := rfl
                    rw [← b2i_1 q136] at bks
                    simp only [if_true] at bks
                    refine g_aload_n X dX9_back_139 rfl rfl ?_
                    refine g_iload_n X dX9_back_140 rfl rfl ?_
                    refine g_iload X dX9_back_141 rfl ?_
                    refine g_callVI X (c_X9_valueOf lL tT dD al _ _ _ hV (by omega) (by omega) hk (by omega)) kd_0 fc8 lk_RX9_163 rfl rfl ⟨by decide, by decide⟩ rfl (Nat.le_of_ble_eq_true rfl) dX9_back_143 (fun r143 M143 hc143 => ?_)
                    obtain ⟨hr143, hm143⟩ := hc143
                    subst r143
                    subst M143
                    refine g_istore_8 X dX9_back_146 rfl (fun v8_146 ev8_146 => ?_)
                    subst v8_146
                    refine g_iload X dX9_back_148 rfl ?_
                    refine g_aload_n X dX9_back_150 rfl rfl ?_
                    refine g_getr (r := 22) X kd_0 fc8 (k := 8) (by decide) rfl wd_311 rfl (by decide) dX9_back_151 ?_
                    refine g_iload X dX9_back_154 rfl ?_
                    refine g_callVI X (c_X2_lowest lL tT dD al _ _ hV (by omega)) kd_22 fc2 lk_RX9_258 rfl rfl ⟨by decide, by decide⟩ rfl (Nat.le_of_ble_eq_true rfl) dX9_back_156 (fun r156 M156 hc156 => ?_)
                    obtain ⟨hr156, hm156⟩ := hc156
                    subst r156
                    subst M156
                    refine g_mmax X wd_558 wd_559 wd_80 wd_560 ⟨by omega, by omega⟩ ⟨by omega, by omega⟩ rfl ⟨by decide, by decide⟩ (Nat.le_of_ble_eq_true rfl) dX9_back_159 ?_
                    refine g_istore_5 X dX9_back_162 trivial (fun v5_162 ev5_162 => ?_)
                    subst v5_162
                    refine g_iload X dX9_back_164 rfl ?_
                    refine g_aload_n X dX9_back_166 rfl rfl ?_
                    refine g_getr (r := 22) X kd_0 fc8 (k := 8) (by decide) rfl wd_311 rfl (by decide) dX9_back_167 ?_
                    refine g_iload X dX9_back_170 rfl ?_
                    refine g_callVI X (c_X2_highest lL tT dD al _ _ hV (by omega)) kd_22 fc2 lk_RX9_261 rfl rfl ⟨by decide, by decide⟩ rfl (Nat.le_of_ble_eq_true rfl) dX9_back_172 (fun r172 M172 hc172 => ?_)
                    obtain ⟨hr172, hm172⟩ := hc172
                    subst r172
                    subst M172
                    refine g_mmin X wd_555 wd_556 wd_80 wd_557 ⟨by omega, by omega⟩ ⟨by omega, by omega⟩ rfl ⟨by decide, by decide⟩ (Nat.le_of_ble_eq_true rfl) dX9_back_175 ?_
                    refine g_istore_6 X dX9_back_178 rfl (fun v6_178 ev6_178 => ?_)
                    subst v6_178
                    refine g_iinc_7 X dX9_back_180 rfl (fun v7_180 ev7_180 => ?_)
                    subst v7_180
                    refine g_goto (tgt := 114) X dX9_back_183 (by decide) ?_
                    exact g_sub (ih_114 _ _ _ (by omega) (by omega) (by rw [bks.1]; try omega) (by rw [bks.2]; try omega) (by omega)) ⟨rfl, rfl, rfl, rfl, rfl, rfl, rfl, trivial⟩
            exact g_sub (L_114 _ _ _ _ (by omega) (by omega) (by show _ = (if M 134 y = -1 then 0 else M 134 y); first | (rw [if_neg (by omega)]; exact e60.1) | rw [if_pos (by omega)]) (by show _ = (if M 134 y = -1 then M 114 17 else M 135 y); first | (rw [if_neg (by omega)]; exact e60.2 (by omega)) | (rw [if_pos (by omega)]; exact k4.1)) (Nat.lt_succ_self _)) ⟨rfl, rfl, rfl, rfl, rfl, rfl, rfl, trivial⟩
          · refine g_iconst X dX9_back_58 ?_
            refine g_goto (tgt := 63) X dX9_back_59 (by decide) ?_
            refine g_istore_4 X dX9_back_63 rfl (fun v4_63 ev4_63 => ?_)
            subst v4_63
            refine g_iload X dX9_back_65 rfl ?_
            refine g_if_eq (tgt := 82) X dX9_back_67 (by decide) (by decide) (fun q => absurd q (by decide)) (fun _ => ?_)
            refine g_aload_n X dX9_back_70 rfl rfl ?_
            refine g_getr (r := 24) X kd_0 fc8 (k := 9) (by decide) rfl wd_312 rfl (by decide) dX9_back_71 ?_
            refine g_getr (r := 60) X kd_24 fc7 (k := 3) (by decide) rfl wd_224 rfl (by decide) dX9_back_74 ?_
            refine g_iload_n X dX9_back_77 rfl rfl ?_
            refine g_iald X kd_60 (by omega) (by omega) dX9_back_78 ?_
            refine g_goto (tgt := 83) X dX9_back_79 (by decide) ?_
            refine g_istore_5 X dX9_back_83 rfl (fun v5_83 ev5_83 => ?_)
            subst v5_83
            refine g_iload X dX9_back_85 rfl ?_
            refine g_if_eq (tgt := 102) X dX9_back_87 (by decide) (by decide) (fun q => absurd q (by decide)) (fun _ => ?_)
            refine g_aload_n X dX9_back_90 rfl rfl ?_
            refine g_getr (r := 24) X kd_0 fc8 (k := 9) (by decide) rfl wd_312 rfl (by decide) dX9_back_91 ?_
            refine g_getr (r := 61) X kd_24 fc7 (k := 4) (by decide) rfl wd_226 rfl (by decide) dX9_back_94 ?_
            refine g_iload_n X dX9_back_97 rfl rfl ?_
            refine g_iald X kd_61 (by omega) (by omega) dX9_back_98 ?_
            refine g_goto (tgt := 109) X dX9_back_99 (by decide) ?_
            refine g_istore_6 X dX9_back_109 rfl (fun v6_109 ev6_109 => ?_)
            subst v6_109
            refine g_iconst X dX9_back_111 ?_
            refine g_istore_7 X dX9_back_112 rfl (fun v7_112 ev7_112 => ?_)
            subst v7_112
            have L_114 : ∀ (n : Nat) (a : Int) (b : Int) (k : Int), (0 ≤ k) → (k ≤ M 114 23) → (a = bkL M m y k.toNat) → (b = bkH M m y k.toNat) → (16 - k).toNat < n → Gd pP lL eE (rmN 3 75) sS mI aA bB mM cC 0 0 Q tT dD al (fA al) 114 [some (.ref (al 0)), some (.int (iN m)), some (.int (iN y)), some (.int (iN z)), none, some (.int (iN a)), some (.int (iN b)), some (.int (iN k)), none] [] M := by
              intro n
              induction n with
              | zero => intro a b k hk hk2 ha hb hm; exact absurd hm (Nat.not_lt_zero _)
              | succ n ih =>
                intro a b k hk hk2 ha hb hm
                have br := bk_rng hW m (y := y) (by omega) (by omega) k.toNat
                rw [← ha, ← hb] at br
                have bks := bk_s M m y hk
                rw [← ha, ← hb] at bks
                have ih_114 := ih
                clear ih
                refine g_iload X dX9_back_114 rfl ?_
                refine g_aload_n X dX9_back_116 rfl rfl ?_
                refine g_getr (r := 24) X kd_0 fc8 (k := 9) (by decide) rfl wd_312 rfl (by decide) dX9_back_117 ?_
                refine g_geti (kz := 5) X kd_24 fc7 (k := 5) (by decide) rfl wd_228 rfl dX9_back_120 ?_
                refine g_icmp_ge (tgt := 186) X dX9_back_123 (by decide) ⟨by omega, by omega⟩ ⟨by omega, by omega⟩ (fun q123 => ?_) (fun q123 => ?_)
                · refine g_iload X dX9_back_186 rfl ?_
                  refine g_iload X dX9_back_188 rfl ?_
                  refine g_icmp_le (tgt := 195) X dX9_back_190 (by decide) ⟨by omega, by omega⟩ ⟨by omega, by omega⟩ (fun q190 => ?_) (fun q190 => ?_)
                  · refine g_iload_n X dX9_back_195 rfl rfl ?_
                    refine g_if_ne (tgt := 204) X dX9_back_196 (by decide) ⟨by omega, by omega⟩ (fun q196 => ?_) (fun q196 => ?_)
                    · refine g_iload X dX9_back_204 rfl ?_
                      rw [hQ]
                      refine g_iret X hr hlk dX9_back_206 ?_
                      first | exact ⟨by rw [if_neg (by omega)], rfl⟩ | exact ⟨by rw [if_pos (by omega), if_neg (by omega)], rfl⟩ | exact ⟨by rw [if_pos (by omega), if_pos (by omega), if_pos (by omega)], rfl⟩ | (obtain rfl : k = M 114 23 := (by omega); exact ⟨by rw [if_pos (by omega), if_pos (by omega), if_neg (by omega), ← ha, ← hb]; first | rw [if_pos (by omega)] | (rw [if_neg (by omega)]; first | rw [if_pos (by omega)] | rw [if_neg (by omega)]), rfl⟩)
                    · refine g_iload X dX9_back_199 rfl ?_
                      refine g_goto (tgt := 206) X dX9_back_201 (by decide) ?_
                      rw [hQ]
                      refine g_iret X hr hlk dX9_back_206 ?_
                      first | exact ⟨by rw [if_neg (by omega)], rfl⟩ | exact ⟨by rw [if_pos (by omega), if_neg (by omega)], rfl⟩ | exact ⟨by rw [if_pos (by omega), if_pos (by omega), if_pos (by omega)], rfl⟩ | (obtain rfl : k = M 114 23 := (by omega); exact ⟨by rw [if_pos (by omega), if_pos (by omega), if_neg (by omega), ← ha, ← hb]; first | rw [if_pos (by omega)] | (rw [if_neg (by omega)]; first | rw [if_pos (by omega)] | rw [if_neg (by omega)]), rfl⟩)
                  · refine g_iconst X dX9_back_193 ?_
                    rw [hQ]
                    refine g_iret X hr hlk dX9_back_194 ?_
                    first | exact ⟨by rw [if_neg (by omega)], rfl⟩ | exact ⟨by rw [if_pos (by omega), if_neg (by omega)], rfl⟩ | exact ⟨by rw [if_pos (by omega), if_pos (by omega), if_pos (by omega)], rfl⟩ | (obtain rfl : k = M 114 23 := (by omega); exact ⟨by rw [if_pos (by omega), if_pos (by omega), if_neg (by omega), ← ha, ← hb]; first | rw [if_pos (by omega)] | (rw [if_neg (by omega)]; first | rw [if_pos (by omega)] | rw [if_neg (by omega)]), rfl⟩)
                · refine g_aload_n X dX9_back_126 rfl rfl ?_
                  refine g_getr (r := 24) X kd_0 fc8 (k := 9) (by decide) rfl wd_312 rfl (by decide) dX9_back_127 ?_
                  refine g_iload X dX9_back_130 rfl ?_
                  refine g_iload_n X dX9_back_132 rfl rfl ?_
                  refine g_callVI X (c_X8_isOfJust lL tT dD al _ _ _ hV hk (by omega) iy) kd_24 fc7 lk_RX9_267 rfl rfl ⟨by decide, by decide⟩ rfl (Nat.le_of_ble_eq_true rfl) dX9_back_133 (fun r133 M133 hc133 => ?_)
                  obtain ⟨hr133, hm133⟩ := hc133
                  subst r133
                  subst M133
                  refine g_if_eq (tgt := 180) X dX9_back_136 (by decide) (b2i_i32 _) (fun q136 => ?_) (fun q136 => ?_)
                  · have q136 := b2i_f q136
                    rw [← b2i_0 q136, if_neg (by decide), if_neg (by decide)] at bks
                    refine g_iinc_7 X dX9_back_180 rfl (fun v7_180 ev7_180 => ?_)
                    subst v7_180
                    refine g_goto (tgt := 114) X dX9_back_183 (by decide) ?_
                    exact g_sub (ih_114 _ _ _ (by omega) (by omega) (by rw [bks.1]; try omega) (by rw [bks.2]; try omega) (by omega)) ⟨rfl, rfl, rfl, rfl, rfl, rfl, rfl, trivial⟩
                  · have q136 := b2i_t q136
                    have vr := vlu_rng hW (m := m) (p := k) (by omega) (by omega)
                    have c1 := clsS_rng M (vlu M m k - M 114 19) (by omega)
                    have c2 := clsS_rng M (vlu M m k + M 114 19) (by omega)
                    have ls : lowS M m k = clsS M (vlu M m k - M 114 19) := rfl
                    have hs : highS M m k = clsS M (vlu M m k + M 114 19) := rfl
                    rw [← b2i_1 q136] at bks
                    simp only [if_true] at bks
                    refine g_aload_n X dX9_back_139 rfl rfl ?_
                    refine g_iload_n X dX9_back_140 rfl rfl ?_
                    refine g_iload X dX9_back_141 rfl ?_
                    refine g_callVI X (c_X9_valueOf lL tT dD al _ _ _ hV (by omega) (by omega) hk (by omega)) kd_0 fc8 lk_RX9_163 rfl rfl ⟨by decide, by decide⟩ rfl (Nat.le_of_ble_eq_true rfl) dX9_back_143 (fun r143 M143 hc143 => ?_)
                    obtain ⟨hr143, hm143⟩ := hc143
                    subst r143
                    subst M143
                    refine g_istore_8 X dX9_back_146 rfl (fun v8_146 ev8_146 => ?_)
                    subst v8_146
                    refine g_iload X dX9_back_148 rfl ?_
                    refine g_aload_n X dX9_back_150 rfl rfl ?_
                    refine g_getr (r := 22) X kd_0 fc8 (k := 8) (by decide) rfl wd_311 rfl (by decide) dX9_back_151 ?_
                    refine g_iload X dX9_back_154 rfl ?_
                    refine g_callVI X (c_X2_lowest lL tT dD al _ _ hV (by omega)) kd_22 fc2 lk_RX9_258 rfl rfl ⟨by decide, by decide⟩ rfl (Nat.le_of_ble_eq_true rfl) dX9_back_156 (fun r156 M156 hc156 => ?_)
                    obtain ⟨hr156, hm156⟩ := hc156
                    subst r156
                    subst M156
                    refine g_mmax X wd_558 wd_559 wd_80 wd_560 ⟨by omega, by omega⟩ ⟨by omega, by omega⟩ rfl ⟨by decide, by decide⟩ (Nat.le_of_ble_eq_true rfl) dX9_back_159 ?_
                    refine g_istore_5 X dX9_back_162 trivial (fun v5_162 ev5_162 => ?_)
                    subst v5_162
                    refine g_iload X dX9_back_164 rfl ?_
                    refine g_aload_n X dX9_back_166 rfl rfl ?_
                    refine g_getr (r := 22) X kd_0 fc8 (k := 8) (by decide) rfl wd_311 rfl (by decide) dX9_back_167 ?_
                    refine g_iload X dX9_back_170 rfl ?_
                    refine g_callVI X (c_X2_highest lL tT dD al _ _ hV (by omega)) kd_22 fc2 lk_RX9_261 rfl rfl ⟨by decide, by decide⟩ rfl (Nat.le_of_ble_eq_true rfl) dX9_back_172 (fun r172 M172 hc172 => ?_)
                    obtain ⟨hr172, hm172⟩ := hc172
                    subst r172
                    subst M172
                    refine g_mmin X wd_555 wd_556 wd_80 wd_557 ⟨by omega, by omega⟩ ⟨by omega, by omega⟩ rfl ⟨by decide, by decide⟩ (Nat.le_of_ble_eq_true rfl) dX9_back_175 ?_
                    refine g_istore_6 X dX9_back_178 rfl (fun v6_178 ev6_178 => ?_)
                    subst v6_178
                    refine g_iinc_7 X dX9_back_180 rfl (fun v7_180 ev7_180 => ?_)
                    subst v7_180
                    refine g_goto (tgt := 114) X dX9_back_183 (by decide) ?_
                    exact g_sub (ih_114 _ _ _ (by omega) (by omega) (by rw [bks.1]; try omega) (by rw [bks.2]; try omega) (by omega)) ⟨rfl, rfl, rfl, rfl, rfl, rfl, rfl, trivial⟩
            exact g_sub (L_114 _ _ _ _ (by omega) (by omega) (by show _ = (if M 134 y = -1 then 0 else M 134 y); first | (rw [if_neg (by omega)]; exact e60.1) | rw [if_pos (by omega)]) (by show _ = (if M 134 y = -1 then M 114 17 else M 135 y); first | (rw [if_neg (by omega)]; exact e60.2 (by omega)) | (rw [if_pos (by omega)]; exact k4.1)) (Nat.lt_succ_self _)) ⟨rfl, rfl, rfl, rfl, rfl, rfl, rfl, trivial⟩
        · refine g_bipush X dX9_back_42 (by decide +kernel) ?_
          rw [hQ]
          refine g_iret X hr hlk dX9_back_44 ?_
          first | exact ⟨by rw [if_neg (by omega)], rfl⟩ | exact ⟨by rw [if_pos (by omega), if_neg (by omega)], rfl⟩ | exact ⟨by rw [if_pos (by omega), if_pos (by omega), if_pos (by omega)], rfl⟩ | (obtain rfl : k = M 114 23 := (by omega); exact ⟨by rw [if_pos (by omega), if_pos (by omega), if_neg (by omega), ← ha, ← hb]; first | rw [if_pos (by omega)] | (rw [if_neg (by omega)]; first | rw [if_pos (by omega)] | rw [if_neg (by omega)]), rfl⟩)
      · have q26 := b2i_f q26
        refine g_bipush X dX9_back_29 (by decide +kernel) ?_
        rw [hQ]
        refine g_iret X hr hlk dX9_back_31 ?_
        first | exact ⟨by rw [if_neg (by omega)], rfl⟩ | exact ⟨by rw [if_pos (by omega), if_neg (by omega)], rfl⟩ | exact ⟨by rw [if_pos (by omega), if_pos (by omega), if_pos (by omega)], rfl⟩ | (obtain rfl : k = M 114 23 := (by omega); exact ⟨by rw [if_pos (by omega), if_pos (by omega), if_neg (by omega), ← ha, ← hb]; first | rw [if_pos (by omega)] | (rw [if_neg (by omega)]; first | rw [if_pos (by omega)] | rw [if_neg (by omega)]), rfl⟩)
  · have q5 := b2i_f q5
    refine g_bipush X dX9_back_8 (by decide +kernel) ?_
    rw [hQ]
    refine g_iret X hr hlk dX9_back_10 ?_
    first | exact ⟨by rw [if_neg (by omega)], rfl⟩ | exact ⟨by rw [if_pos (by omega), if_neg (by omega)], rfl⟩ | exact ⟨by rw [if_pos (by omega), if_pos (by omega), if_pos (by omega)], rfl⟩ | (obtain rfl : k = M 114 23 := (by omega); exact ⟨by rw [if_pos (by omega), if_pos (by omega), if_neg (by omega), ← ha, ← hb]; first | rw [if_pos (by omega)] | (rw [if_neg (by omega)]; first | rw [if_pos (by omega)] | rw [if_neg (by omega)]), rfl⟩)
set_option maxRecDepth 100000 in
set_option maxHeartbeats 4000000 in
theorem c_X9_dates (lL : Launch) (tT : TT) (dD : va_G) (al : Int → Nat) (M : Mem) (m q z : Int) (hV : IV M) (im : i32 m) (iq : i32 q) (iz : i32 z) : CI lL yX9_dates cX9_dates 4 FieldType.int 4 108 tT dD al [.ref (al 0), .int (iN m), .int (iN q), .int (iN z)] M (fun r M' => r = (if (0 ≤ m ∧ m < M 114 15) ∧ (0 ≤ q ∧ q < M 114 23) then (if 0 ≤ z ∧ z ≤ 2 then (if M 114 17 = 0 then -103 else if z = 0 then dN M m q (nY M q) else if z = 1 then dF M m q (nY M q) else dL M m q (nY M q)) else -102) else -101) ∧ M' = M) := by
  refine CI.of (own := "RedSkies") (ls0 := [some (.ref (al 0)), some (.int (iN m)), some (.int (iN q)), some (.int (iN z))]) (by decide +kernel) rfl (Nat.le_of_ble_eq_true rfl) rfl ?_
  intro pP eE sS mI aA bB mM cC X hr hlk
  obtain ⟨Q, hQ⟩ : ∃ Q : State → Prop, Q = MQ bB (QI tT dD al (fun r M' => r = (if (0 ≤ m ∧ m < M 114 15) ∧ (0 ≤ q ∧ q < M 114 23) then (if 0 ≤ z ∧ z ≤ 2 then (if M 114 17 = 0 then -103 else if z = 0 then dN M m q (nY M q) else if z = 1 then dF M m q (nY M q) else dL M m q (nY M q)) else -102) else -101) ∧ M' = M)) aA sS 0 0 (fA al) := ⟨_, rfl⟩
  rw [← hQ]
  have hW := hV.w
  have w2 := hW.n
  have n1 := hV.hn
  have w3 := hW.mea
  have w4 := hW.pig
  have w5 := hW.lam
  have w6 := hW.law
  have k1 := hV.la
  have k2 := hV.pi
  have k3 := hV.me
  have k4 := hV.lw
  refine g_aload_n X dX9_dates_0 rfl rfl ?_
  refine g_iload_n X dX9_dates_1 rfl rfl ?_
  refine g_callVI X (c_X9_isMeasure lL tT dD al _ _ ⟨by omega, by omega⟩ ⟨by omega, by omega⟩) kd_0 fc8 lk_RX9_160 rfl rfl ⟨by decide, by decide⟩ rfl (Nat.le_of_ble_eq_true rfl) dX9_dates_2 (fun r2 M2 hc2 => ?_)
  obtain ⟨hr2, hm2⟩ := hc2
  subst r2
  subst M2
  refine g_if_eq (tgt := 19) X dX9_dates_5 (by decide) (b2i_i32 _) (fun q5 => ?_) (fun q5 => ?_)
  · have q5 := b2i_f q5
    refine g_bipush X dX9_dates_19 (by decide +kernel) ?_
    rw [hQ]
    refine g_iret X hr hlk dX9_dates_21 ?_
    exact ⟨by rw [if_neg (by omega)], rfl⟩
  · have q5 := b2i_t q5
    refine g_aload_n X dX9_dates_8 rfl rfl ?_
    refine g_getr (r := 24) X kd_0 fc8 (k := 9) (by decide) rfl wd_312 rfl (by decide) dX9_dates_9 ?_
    refine g_iload_n X dX9_dates_12 rfl rfl ?_
    refine g_callVI X (c_X8_has lL tT dD al _ _ ⟨by omega, by omega⟩ ⟨by omega, by omega⟩) kd_24 fc7 lk_RX9_144 rfl rfl ⟨by decide, by decide⟩ rfl (Nat.le_of_ble_eq_true rfl) dX9_dates_13 (fun r13 M13 hc13 => ?_)
    obtain ⟨hr13, hm13⟩ := hc13
    subst r13
    subst M13
    refine g_if_ne (tgt := 22) X dX9_dates_16 (by decide) (b2i_i32 _) (fun q16 => ?_) (fun q16 => ?_)
    · have q16 := b2i_t q16
      refine g_iload_n X dX9_dates_22 rfl rfl ?_
      refine g_iconst X dX9_dates_23 ?_
      refine g_callSI X (c_X9_isWithin lL tT dD al _ _ _ ⟨by omega, by omega⟩ (by decide)) lk_RX9_126 rfl rfl ⟨by decide, by decide⟩ rfl (Nat.le_of_ble_eq_true rfl) dX9_dates_24 (fun r24 M24 hc24 => ?_)
      obtain ⟨hr24, hm24⟩ := hc24
      subst r24
      subst M24
      refine g_if_ne (tgt := 33) X dX9_dates_27 (by decide) (b2i_i32 _) (fun q27 => ?_) (fun q27 => ?_)
      · have q27 := b2i_t q27
        refine g_aload_n X dX9_dates_33 rfl rfl ?_
        refine g_getr (r := 22) X kd_0 fc8 (k := 8) (by decide) rfl wd_311 rfl (by decide) dX9_dates_34 ?_
        refine g_geti (kz := 1) X kd_22 fc2 (k := 1) (by decide) rfl wd_197 rfl dX9_dates_37 ?_
        refine g_if_ne (tgt := 46) X dX9_dates_40 (by decide) ⟨by omega, by omega⟩ (fun q40 => ?_) (fun q40 => ?_)
        · refine g_aload_n X dX9_dates_46 rfl rfl ?_
          refine g_iload_n X dX9_dates_47 rfl rfl ?_
          refine g_iload_n X dX9_dates_48 rfl rfl ?_
          refine g_iload_n X dX9_dates_49 rfl rfl ?_
          refine g_callVI X (c_X9_datesOf lL tT dD al _ _ _ _ hV (by omega) (by omega) (by omega) (by omega) iz) kd_0 fc8 lk_RX9_278 rfl rfl ⟨by decide, by decide⟩ rfl (Nat.le_of_ble_eq_true rfl) dX9_dates_50 (fun r50 M50 hc50 => ?_)
          obtain ⟨hr50, hm50⟩ := hc50
          subst r50
          subst M50
          rw [hQ]
          refine g_iret X hr hlk dX9_dates_53 ?_
          exact ⟨by rw [if_pos (show (0 ≤ m ∧ m < M 114 15) ∧ (0 ≤ q ∧ q < M 114 23) by omega), if_pos (show 0 ≤ z ∧ z ≤ 2 by omega), if_neg (show ¬ M 114 17 = 0 by omega)], rfl⟩
        · refine g_bipush X dX9_dates_43 (by decide +kernel) ?_
          rw [hQ]
          refine g_iret X hr hlk dX9_dates_45 ?_
          exact ⟨by rw [if_pos (show (0 ≤ m ∧ m < M 114 15) ∧ (0 ≤ q ∧ q < M 114 23) by omega), if_pos (show 0 ≤ z ∧ z ≤ 2 by omega), if_pos (by omega)], rfl⟩
      · have q27 := b2i_f q27
        refine g_bipush X dX9_dates_30 (by decide +kernel) ?_
        rw [hQ]
        refine g_iret X hr hlk dX9_dates_32 ?_
        exact ⟨by rw [if_pos (show (0 ≤ m ∧ m < M 114 15) ∧ (0 ≤ q ∧ q < M 114 23) by omega), if_neg (by omega)], rfl⟩
    · have q16 := b2i_f q16
      refine g_bipush X dX9_dates_19 (by decide +kernel) ?_
      rw [hQ]
      refine g_iret X hr hlk dX9_dates_21 ?_
      exact ⟨by rw [if_neg (by omega)], rfl⟩
set_option maxRecDepth 100000 in
set_option maxHeartbeats 4000000 in
theorem c_X9_wrong (lL : Launch) (tT : TT) (dD : va_G) (al : Int → Nat) (M : Mem) (m : Int) (hV : IV M) (im : i32 m) : CI lL yX9_wrong cX9_wrong 2 FieldType.int 5 131 tT dD al [.ref (al 0), .int (iN m)] M (fun r M' => r = (if 0 ≤ m ∧ m < M 114 15 then (if M 114 17 = 0 then -103 else wrS M m (M 114 23).toNat) else -101) ∧ M' = M) := by
  refine CI.of (own := "RedSkies") (ls0 := [some (.ref (al 0)), some (.int (iN m))]) (by decide +kernel) rfl (Nat.le_of_ble_eq_true rfl) rfl ?_
  intro pP eE sS mI aA bB mM cC X hr hlk
  obtain ⟨Q, hQ⟩ : ∃ Q : State → Prop, Q = MQ bB (QI tT dD al (fun r M' => r = (if 0 ≤ m ∧ m < M 114 15 then (if M 114 17 = 0 then -103 else wrS M m (M 114 23).toNat) else -101) ∧ M' = M)) aA sS 0 0 (fA al) := ⟨_, rfl⟩
  rw [← hQ]
  have hW := hV.w
  have w2 := hW.n
  have n1 := hV.hn
  have w3 := hW.mea
  have w4 := hW.pig
  have w5 := hW.lam
  have w6 := hW.law
  have k1 := hV.la
  have k2 := hV.pi
  have k3 := hV.me
  have k4 := hV.lw
  refine g_aload_n X dX9_wrong_0 rfl rfl ?_
  refine g_iload_n X dX9_wrong_1 rfl rfl ?_
  refine g_callVI X (c_X9_isMeasure lL tT dD al _ _ ⟨by omega, by omega⟩ ⟨by omega, by omega⟩) kd_0 fc8 lk_RX9_160 rfl rfl ⟨by decide, by decide⟩ rfl (Nat.le_of_ble_eq_true rfl) dX9_wrong_2 (fun r2 M2 hc2 => ?_)
  obtain ⟨hr2, hm2⟩ := hc2
  subst r2
  subst M2
  refine g_if_ne (tgt := 11) X dX9_wrong_5 (by decide) (b2i_i32 _) (fun q5 => ?_) (fun q5 => ?_)
  · have q5 := b2i_t q5
    refine g_aload_n X dX9_wrong_11 rfl rfl ?_
    refine g_getr (r := 22) X kd_0 fc8 (k := 8) (by decide) rfl wd_311 rfl (by decide) dX9_wrong_12 ?_
    refine g_geti (kz := 1) X kd_22 fc2 (k := 1) (by decide) rfl wd_197 rfl dX9_wrong_15 ?_
    refine g_if_ne (tgt := 24) X dX9_wrong_18 (by decide) ⟨by omega, by omega⟩ (fun q18 => ?_) (fun q18 => ?_)
    · refine g_aload_n X dX9_wrong_24 rfl rfl ?_
      refine g_iload_n X dX9_wrong_25 rfl rfl ?_
      refine g_callVI X (c_X9_dateless lL tT dD al _ _ hV (by omega) (by omega)) kd_0 fc8 lk_RX9_282 rfl rfl ⟨by decide, by decide⟩ rfl (Nat.le_of_ble_eq_true rfl) dX9_wrong_26 (fun r26 M26 hc26 => ?_)
      obtain ⟨hr26, hm26⟩ := hc26
      subst r26
      subst M26
      rw [hQ]
      refine g_iret X hr hlk dX9_wrong_29 ?_
      first | exact ⟨by rw [if_neg (by omega)], rfl⟩ | exact ⟨by rw [if_pos (by omega), if_pos (by omega)], rfl⟩ | exact ⟨by rw [if_pos (by omega), if_neg (by omega)], rfl⟩
    · refine g_bipush X dX9_wrong_21 (by decide +kernel) ?_
      rw [hQ]
      refine g_iret X hr hlk dX9_wrong_23 ?_
      first | exact ⟨by rw [if_neg (by omega)], rfl⟩ | exact ⟨by rw [if_pos (by omega), if_pos (by omega)], rfl⟩ | exact ⟨by rw [if_pos (by omega), if_neg (by omega)], rfl⟩
  · have q5 := b2i_f q5
    refine g_bipush X dX9_wrong_8 (by decide +kernel) ?_
    rw [hQ]
    refine g_iret X hr hlk dX9_wrong_10 ?_
    first | exact ⟨by rw [if_neg (by omega)], rfl⟩ | exact ⟨by rw [if_pos (by omega), if_pos (by omega)], rfl⟩ | exact ⟨by rw [if_pos (by omega), if_neg (by omega)], rfl⟩
set_option maxRecDepth 100000 in
set_option maxHeartbeats 4000000 in
theorem c_X9_image (lL : Launch) (tT : TT) (dD : va_G) (al : Int → Nat) (M : Mem)  (hV : IV M) : CI lL yX9_image cX9_image 1 FieldType.int 2 62 tT dD al [.ref (al 0)] M (fun r M' => r = M 114 23 ∧ M' = (mu (tfX M 62 24 64 81 97 98 99 26 43 59 60 61) 0 17 1)) := by
  refine CI.of (own := "RedSkies") (ls0 := [some (.ref (al 0))]) (by decide +kernel) rfl (Nat.le_of_ble_eq_true rfl) rfl ?_
  intro pP eE sS mI aA bB mM cC X hr hlk
  obtain ⟨Q, hQ⟩ : ∃ Q : State → Prop, Q = MQ bB (QI tT dD al (fun r M' => r = M 114 23 ∧ M' = (mu (tfX M 62 24 64 81 97 98 99 26 43 59 60 61) 0 17 1))) aA sS 0 0 (fA al) := ⟨_, rfl⟩
  rw [← hQ]
  have hW := hV.w
  have w2 := hW.n
  have n1 := hV.hn
  have w3 := hW.mea
  have w4 := hW.pig
  have w5 := hW.lam
  have w6 := hW.law
  have k1 := hV.la
  have k2 := hV.pi
  have k3 := hV.me
  have k4 := hV.lw
  refine g_aload_n X dX9_image_0 rfl rfl ?_
  refine g_getr (r := 62) X kd_0 fc8 (k := 10) (by decide) rfl wd_313 rfl (by decide) dX9_image_1 ?_
  refine g_aload_n X dX9_image_4 rfl rfl ?_
  refine g_getr (r := 24) X kd_0 fc8 (k := 9) (by decide) rfl wd_312 rfl (by decide) dX9_image_5 ?_
  refine g_callVV X (c_X8_takeFromK lL tT dD al _  (by omega)) kd_62 fc7 lk_RX9_285 rfl rfl ⟨by decide, by decide⟩ rfl (Nat.le_of_ble_eq_true rfl) dX9_image_8 (fun M8 hc8 => ?_)
  subst M8
  refine g_aload_n X dX9_image_11 rfl rfl ?_
  refine g_iconst X dX9_image_12 ?_
  refine g_putz (kz := 17) X kd_0 fc8 (k := 17) (by decide) rfl wd_320 rfl rfl rfl (by decide) dX9_image_13 ?_
  refine g_aload_n X dX9_image_16 rfl rfl ?_
  refine g_getr (r := 24) X kd_0 fc8 (k := 9) (by decide) rfl wd_312 rfl (by decide) dX9_image_17 ?_
  refine g_geti (kz := 5) X kd_24 fc7 (k := 5) (by decide) rfl wd_228 rfl dX9_image_20 ?_
  refine g_teq (b := ((tfX M 62 24 64 81 97 98 99 26 43 59 60 61) 24 5)) (by first | (simp [mu]; done) | (simp only [mu]; repeat (first | rw [if_pos (⟨rfl, rfl⟩)] | rw [if_neg (by omega)]))) ?_
  refine g_teq (b := M 114 23) (by simp only [mu, tfX, cpy, tkX]; simp; omega) ?_
  rw [hQ]
  refine g_iret X hr hlk dX9_image_23 ?_
  exact ⟨rfl, rfl⟩
set_option maxRecDepth 100000 in
set_option maxHeartbeats 4000000 in
theorem c_X9_restore (lL : Launch) (tT : TT) (dD : va_G) (al : Int → Nat) (M : Mem)  (hk : WKept M) (hI : IK M) : CI lL yX9_restore cX9_restore 1 FieldType.int 2 62 tT dD al [.ref (al 0)] M (fun r M' => r = (if M 114 46 = -1 then -103 else M 114 46) ∧ M' = (if M 114 46 = -1 then M else (tfX M 24 62 26 43 59 60 61 64 81 97 98 99))) := by
  refine CI.of (own := "RedSkies") (ls0 := [some (.ref (al 0))]) (by decide +kernel) rfl (Nat.le_of_ble_eq_true rfl) rfl ?_
  intro pP eE sS mI aA bB mM cC X hr hlk
  obtain ⟨Q, hQ⟩ : ∃ Q : State → Prop, Q = MQ bB (QI tT dD al (fun r M' => r = (if M 114 46 = -1 then -103 else M 114 46) ∧ M' = (if M 114 46 = -1 then M else (tfX M 24 62 26 43 59 60 61 64 81 97 98 99)))) aA sS 0 0 (fA al) := ⟨_, rfl⟩
  rw [← hQ]
  have w1 := hk.1
  have w2 := hk.2.1
  have w3 : (M 0 17 = 0 ∧ M 114 46 = -1) ∨ (M 0 17 = 1 ∧ M 114 46 ≠ -1 ∧ M 62 5 = M 114 46) := by rcases hI with q | q; exact Or.inl q; exact Or.inr ⟨q.1, q.2.1, q.2.2.1.1⟩
  refine g_aload_n X dX9_restore_0 rfl rfl ?_
  refine g_getz (kz := 17) X kd_0 fc8 (k := 17) (by decide) rfl wd_320 rfl dX9_restore_1 ?_
  refine g_if_ne (tgt := 10) X dX9_restore_4 (by decide) ⟨by omega, by omega⟩ (fun q4 => ?_) (fun q4 => ?_)
  · refine g_aload_n X dX9_restore_10 rfl rfl ?_
    refine g_getr (r := 24) X kd_0 fc8 (k := 9) (by decide) rfl wd_312 rfl (by decide) dX9_restore_11 ?_
    refine g_aload_n X dX9_restore_14 rfl rfl ?_
    refine g_getr (r := 62) X kd_0 fc8 (k := 10) (by decide) rfl wd_313 rfl (by decide) dX9_restore_15 ?_
    refine g_callVV X (c_X8_takeFromS lL tT dD al _  (by omega)) kd_24 fc7 lk_RX9_285 rfl rfl ⟨by decide, by decide⟩ rfl (Nat.le_of_ble_eq_true rfl) dX9_restore_18 (fun M18 hc18 => ?_)
    subst M18
    refine g_aload_n X dX9_restore_21 rfl rfl ?_
    refine g_getr (r := 24) X kd_0 fc8 (k := 9) (by decide) rfl wd_312 rfl (by decide) dX9_restore_22 ?_
    refine g_geti (kz := 5) X kd_24 fc7 (k := 5) (by decide) rfl wd_228 rfl dX9_restore_25 ?_
    refine g_teq (b := M 114 46) (by simp only [mu, tfX, cpy, tkX]; simp; omega) ?_
    rw [hQ]
    refine g_iret X hr hlk dX9_restore_28 ?_
    first | exact ⟨by rw [if_pos (by omega)], by rw [if_pos (by omega)]⟩ | exact ⟨by rw [if_neg (by omega)], by rw [if_neg (by omega)]⟩
  · refine g_bipush X dX9_restore_7 (by decide +kernel) ?_
    rw [hQ]
    refine g_iret X hr hlk dX9_restore_9 ?_
    first | exact ⟨by rw [if_pos (by omega)], by rw [if_pos (by omega)]⟩ | exact ⟨by rw [if_neg (by omega)], by rw [if_neg (by omega)]⟩
set_option maxRecDepth 100000 in
set_option maxHeartbeats 4000000 in
theorem c_X9_howMany (lL : Launch) (tT : TT) (dD : va_G) (al : Int → Nat) (M : Mem) (k : Int) (hV : IV M) (hG : IG M) (hD : ID M) (h0 : 0 ≤ k ∧ k ≤ 8) : CI lL yX9_howMany cX9_howMany 2 FieldType.int 0 0 tT dD al [.ref (al 0), .int (iN k)] M (fun r M' => r = cntS M k ∧ M' = M) := by
  refine CI.of (own := "RedSkies") (ls0 := [some (.ref (al 0)), some (.int (iN k))]) (by decide +kernel) rfl (Nat.le_of_ble_eq_true rfl) rfl ?_
  intro pP eE sS mI aA bB mM cC X hr hlk
  obtain ⟨Q, hQ⟩ : ∃ Q : State → Prop, Q = MQ bB (QI tT dD al (fun r M' => r = cntS M k ∧ M' = M)) aA sS 0 0 (fA al) := ⟨_, rfl⟩
  rw [← hQ]
  have hW := hV.w
  have w2 := hW.n
  have n1 := hV.hn
  have w3 := hW.mea
  have w4 := hW.pig
  have w5 := hW.lam
  have w6 := hW.law
  have k1 := hV.la
  have k2 := hV.pi
  have k3 := hV.me
  have k4 := hV.lw
  have g1 := hG.1
  have g2 : M 0 16 = M 114 39 := hD
  refine g_iload_n X dX9_howMany_0 rfl rfl ?_
  rcases (by omega : (k < 0 ∨ 7 < k) ∨ k = 0 ∨ k = 1 ∨ k = 2 ∨ k = 3 ∨ k = 4 ∨ k = 5 ∨ k = 6 ∨ k = 7) with q1 | q1 | q1 | q1 | q1 | q1 | q1 | q1 | q1
  · refine g_tsOut (tgt := 103) X dX9_howMany_1 ⟨by omega, by omega⟩ q1 (by decide) ?_
    refine g_aload_n X dX9_howMany_103 rfl rfl ?_
    refine g_geti (kz := 16) X kd_0 fc8 (k := 16) (by decide) rfl wd_319 rfl dX9_howMany_104 ?_
    rw [hQ]
    refine g_iret X hr hlk dX9_howMany_107 ?_
    clear X hr hlk hQ
    exact ⟨by unfold cntS; grind, rfl⟩
  · refine g_tsIn (tgt := 48) (off := 47) X dX9_howMany_1 ⟨by omega, by omega⟩ (by omega) (by omega) (by rw [q1]; rfl) (by decide) ?_
    refine g_aload_n X dX9_howMany_48 rfl rfl ?_
    refine g_geti (kz := 13) X kd_0 fc8 (k := 13) (by decide) rfl wd_316 rfl dX9_howMany_49 ?_
    rw [hQ]
    refine g_iret X hr hlk dX9_howMany_52 ?_
    clear X hr hlk hQ
    exact ⟨by unfold cntS; grind, rfl⟩
  · refine g_tsIn (tgt := 53) (off := 52) X dX9_howMany_1 ⟨by omega, by omega⟩ (by omega) (by omega) (by rw [q1]; rfl) (by decide) ?_
    refine g_aload_n X dX9_howMany_53 rfl rfl ?_
    refine g_geti (kz := 14) X kd_0 fc8 (k := 14) (by decide) rfl wd_317 rfl dX9_howMany_54 ?_
    rw [hQ]
    refine g_iret X hr hlk dX9_howMany_57 ?_
    clear X hr hlk hQ
    exact ⟨by unfold cntS; grind, rfl⟩
  · refine g_tsIn (tgt := 58) (off := 57) X dX9_howMany_1 ⟨by omega, by omega⟩ (by omega) (by omega) (by rw [q1]; rfl) (by decide) ?_
    refine g_aload_n X dX9_howMany_58 rfl rfl ?_
    refine g_getr (r := 24) X kd_0 fc8 (k := 9) (by decide) rfl wd_312 rfl (by decide) dX9_howMany_59 ?_
    refine g_geti (kz := 5) X kd_24 fc7 (k := 5) (by decide) rfl wd_228 rfl dX9_howMany_62 ?_
    rw [hQ]
    refine g_iret X hr hlk dX9_howMany_65 ?_
    clear X hr hlk hQ
    exact ⟨by unfold cntS; grind, rfl⟩
  · refine g_tsIn (tgt := 66) (off := 65) X dX9_howMany_1 ⟨by omega, by omega⟩ (by omega) (by omega) (by rw [q1]; rfl) (by decide) ?_
    refine g_aload_n X dX9_howMany_66 rfl rfl ?_
    refine g_geti (kz := 15) X kd_0 fc8 (k := 15) (by decide) rfl wd_318 rfl dX9_howMany_67 ?_
    rw [hQ]
    refine g_iret X hr hlk dX9_howMany_70 ?_
    clear X hr hlk hQ
    exact ⟨by unfold cntS; grind, rfl⟩
  · refine g_tsIn (tgt := 71) (off := 70) X dX9_howMany_1 ⟨by omega, by omega⟩ (by omega) (by omega) (by rw [q1]; rfl) (by decide) ?_
    refine g_aload_n X dX9_howMany_71 rfl rfl ?_
    refine g_getr (r := 24) X kd_0 fc8 (k := 9) (by decide) rfl wd_312 rfl (by decide) dX9_howMany_72 ?_
    refine g_geti (kz := 6) X kd_24 fc7 (k := 6) (by decide) rfl wd_230 rfl dX9_howMany_75 ?_
    rw [hQ]
    refine g_iret X hr hlk dX9_howMany_78 ?_
    clear X hr hlk hQ
    exact ⟨by unfold cntS; grind, rfl⟩
  · refine g_tsIn (tgt := 79) (off := 78) X dX9_howMany_1 ⟨by omega, by omega⟩ (by omega) (by omega) (by rw [q1]; rfl) (by decide) ?_
    refine g_aload_n X dX9_howMany_79 rfl rfl ?_
    refine g_getr (r := 22) X kd_0 fc8 (k := 8) (by decide) rfl wd_311 rfl (by decide) dX9_howMany_80 ?_
    refine g_geti (kz := 1) X kd_22 fc2 (k := 1) (by decide) rfl wd_197 rfl dX9_howMany_83 ?_
    rw [hQ]
    refine g_iret X hr hlk dX9_howMany_86 ?_
    clear X hr hlk hQ
    exact ⟨by unfold cntS; grind, rfl⟩
  · refine g_tsIn (tgt := 87) (off := 86) X dX9_howMany_1 ⟨by omega, by omega⟩ (by omega) (by omega) (by rw [q1]; rfl) (by decide) ?_
    refine g_aload_n X dX9_howMany_87 rfl rfl ?_
    refine g_getr (r := 24) X kd_0 fc8 (k := 9) (by decide) rfl wd_312 rfl (by decide) dX9_howMany_88 ?_
    refine g_geti (kz := 7) X kd_24 fc7 (k := 7) (by decide) rfl wd_232 rfl dX9_howMany_91 ?_
    rw [hQ]
    refine g_iret X hr hlk dX9_howMany_94 ?_
    clear X hr hlk hQ
    exact ⟨by unfold cntS; grind, rfl⟩
  · refine g_tsIn (tgt := 95) (off := 94) X dX9_howMany_1 ⟨by omega, by omega⟩ (by omega) (by omega) (by rw [q1]; rfl) (by decide) ?_
    refine g_aload_n X dX9_howMany_95 rfl rfl ?_
    refine g_getr (r := 1) X kd_0 fc8 (k := 0) (by decide) rfl wd_303 rfl (by decide) dX9_howMany_96 ?_
    refine g_geti (kz := 1) X kd_1 fc5 (k := 1) (by decide) rfl wd_98 rfl dX9_howMany_99 ?_
    rw [hQ]
    refine g_iret X hr hlk dX9_howMany_102 ?_
    clear X hr hlk hQ
    exact ⟨by unfold cntS; grind, rfl⟩
set_option maxRecDepth 100000 in
set_option maxHeartbeats 4000000 in
theorem c_X9_count (lL : Launch) (tT : TT) (dD : va_G) (al : Int → Nat) (M : Mem) (k : Int) (hV : IV M) (hG : IG M) (hD : ID M) (ik : i32 k) : CI lL yX9_count cX9_count 2 FieldType.int 1 21 tT dD al [.ref (al 0), .int (iN k)] M (fun r M' => r = cntS M k ∧ M' = M) := by
  refine CI.of (own := "RedSkies") (ls0 := [some (.ref (al 0)), some (.int (iN k))]) (by decide +kernel) rfl (Nat.le_of_ble_eq_true rfl) rfl ?_
  intro pP eE sS mI aA bB mM cC X hr hlk
  obtain ⟨Q, hQ⟩ : ∃ Q : State → Prop, Q = MQ bB (QI tT dD al (fun r M' => r = cntS M k ∧ M' = M)) aA sS 0 0 (fA al) := ⟨_, rfl⟩
  rw [← hQ]
  refine g_iload_n X dX9_count_0 rfl rfl ?_
  refine g_bipush X dX9_count_1 (by decide +kernel) ?_
  refine g_callSI X (c_X9_isWithin lL tT dD al _ _ _ ⟨by omega, by omega⟩ (by decide)) lk_RX9_126 rfl rfl ⟨by decide, by decide⟩ rfl (Nat.le_of_ble_eq_true rfl) dX9_count_3 (fun r3 M3 hc3 => ?_)
  obtain ⟨hr3, hm3⟩ := hc3
  subst r3
  subst M3
  refine g_if_eq (tgt := 17) X dX9_count_6 (by decide) (b2i_i32 _) (fun q6 => ?_) (fun q6 => ?_)
  · have q6 := b2i_f q6
    refine g_bipush X dX9_count_17 (by decide +kernel) ?_
    rw [hQ]
    refine g_iret X hr hlk dX9_count_19 ?_
    first | exact ⟨rfl, rfl⟩ | exact ⟨by unfold cntS; rw [if_neg (by omega), if_neg (by omega), if_neg (by omega), if_neg (by omega), if_neg (by omega), if_neg (by omega), if_neg (by omega), if_neg (by omega), if_neg (by omega)], rfl⟩
  · have q6 := b2i_t q6
    refine g_aload_n X dX9_count_9 rfl rfl ?_
    refine g_iload_n X dX9_count_10 rfl rfl ?_
    refine g_callVI X (c_X9_howMany lL tT dD al _ _ hV hG hD (by omega)) kd_0 fc8 lk_RX9_292 rfl rfl ⟨by decide, by decide⟩ rfl (Nat.le_of_ble_eq_true rfl) dX9_count_11 (fun r11 M11 hc11 => ?_)
    obtain ⟨hr11, hm11⟩ := hc11
    subst r11
    subst M11
    refine g_goto (tgt := 19) X dX9_count_14 (by decide) ?_
    rw [hQ]
    refine g_iret X hr hlk dX9_count_19 ?_
    first | exact ⟨rfl, rfl⟩ | exact ⟨by unfold cntS; rw [if_neg (by omega), if_neg (by omega), if_neg (by omega), if_neg (by omega), if_neg (by omega), if_neg (by omega), if_neg (by omega), if_neg (by omega), if_neg (by omega)], rfl⟩
set_option maxRecDepth 100000 in
set_option maxHeartbeats 4000000 in
theorem c_X9_mixed (lL : Launch) (tT : TT) (dD : va_G) (al : Int → Nat) (M : Mem) (h v : Int)  : CJ lL yX9_mixed cX9_mixed 4 0 0 tT dD al [.long (jN h), .long (jN v)] M (fun r M' => r = 31 * h + v ∧ M' = M) := by
  refine CJ.of (own := "RedSkies") (ls0 := [some (.long (jN h)), none, some (.long (jN v)), none]) (by decide +kernel) rfl (Nat.le_of_ble_eq_true rfl) rfl ?_
  intro pP eE sS mI aA bB mM cC X hr hlk
  obtain ⟨Q, hQ⟩ : ∃ Q : State → Prop, Q = MQ bB (QJ tT dD al (fun r M' => r = 31 * h + v ∧ M' = M)) aA sS 0 0 (fA al) := ⟨_, rfl⟩
  rw [← hQ]
  refine g_ldc2 X (n := 31) wd_808 (by decide +kernel) dX9_mixed_0 ?_
  refine g_lload_n X dX9_mixed_3 rfl rfl ?_
  refine g_lmul X dX9_mixed_4 ?_
  refine g_lload_n X dX9_mixed_5 rfl rfl ?_
  refine g_ladd X dX9_mixed_6 ?_
  rw [hQ]
  refine g_lret X hr hlk dX9_mixed_7 ?_
  exact ⟨rfl, rfl⟩
