set_option maxRecDepth 100000 in
set_option maxHeartbeats 4000000 in
theorem c_X9_letters (lL : Launch) (tT : TT) (dD : va_G) (al : Int → Nat) (M : Mem) (w : Int) (hP : WPage M) (hG : IG M) : CI lL yX9_letters cX9_letters 4 FieldType.int 2 46 tT dD al [.ref (al 0), .long (jN w)] M (fun r M' => r = (if b2i (lg w 8) = 1 then (if M 114 1 + lm w 8 ≤ 40 then M 114 1 + lm w 8 else -104) else -102) ∧ M' = (if b2i (lg w 8) = 1 ∧ M 114 1 + lm w 8 ≤ 40 then letX M w (lm w 8) else M)) := by
  refine CI.of (own := "RedSkies") (ls0 := [some (.ref (al 0)), some (.long (jN w)), none, none]) (by decide +kernel) rfl (Nat.le_of_ble_eq_true rfl) rfl ?_
  intro pP eE sS mI aA bB mM cC X hr hlk
  obtain ⟨Q, hQ⟩ : ∃ Q : State → Prop, Q = MQ bB (QI tT dD al (fun r M' => r = (if b2i (lg w 8) = 1 then (if M 114 1 + lm w 8 ≤ 40 then M 114 1 + lm w 8 else -104) else -102) ∧ M' = (if b2i (lg w 8) = 1 ∧ M 114 1 + lm w 8 ≤ 40 then letX M w (lm w 8) else M))) aA sS 0 0 (fA al) := ⟨_, rfl⟩
  rw [← hQ]
  have hp0 := hP.1
  have hg0 := hG.1
  have w1 := lm_rng w 8
  have w2 := b2i_01 (lg w 8)
  refine g_lload_n X dX9_letters_0 rfl rfl ?_
  refine g_callSI X (c_X5_lettersIn lL tT dD al _ _ ) lk_RX9_83 rfl rfl ⟨by decide, by decide⟩ rfl (Nat.le_of_ble_eq_true rfl) dX9_letters_1 (fun r1 M1 hc1 => ?_)
  obtain ⟨hr1, hm1⟩ := hc1
  subst r1
  subst M1
  refine g_istore_n_3 X dX9_letters_4 rfl trivial (fun v3_4 ev3_4 => ?_)
  subst v3_4
  refine g_iload_n X dX9_letters_5 rfl rfl ?_
  refine g_iconst X dX9_letters_6 ?_
  refine g_icmp_ne (tgt := 13) X dX9_letters_7 (by decide) ⟨by split <;> omega, by split <;> omega⟩ (by decide) (fun q7 => ?_) (fun q7 => ?_)
  · have l1 : b2i (lg w 8) = 1 := by rcases w2 with q | q; (rw [if_neg (by omega)] at q7; exact absurd rfl q7); exact q
    refine g_aload_n X dX9_letters_13 rfl rfl ?_
    refine g_getr (r := 1) X kd_0 fc8 (k := 0) (by decide) rfl wd_303 rfl (by decide) dX9_letters_14 ?_
    refine g_geti (kz := 1) X kd_1 fc5 (k := 1) (by decide) rfl wd_98 rfl dX9_letters_17 ?_
    refine g_iload_n X dX9_letters_20 rfl rfl ?_
    refine g_teq (b := lm w 8) (by rw [if_pos l1]) ?_
    refine g_iadd X dX9_letters_21 ?_
    refine g_bipush X dX9_letters_22 (by decide +kernel) ?_
    refine g_icmp_le (tgt := 30) X dX9_letters_24 (by decide) ⟨by omega, by omega⟩ (by decide) (fun q24 => ?_) (fun q24 => ?_)
    · refine g_aload_n X dX9_letters_30 rfl rfl ?_
      refine g_getr (r := 1) X kd_0 fc8 (k := 0) (by decide) rfl wd_303 rfl (by decide) dX9_letters_31 ?_
      refine g_lload_n X dX9_letters_34 rfl rfl ?_
      refine g_iload_n X dX9_letters_35 rfl rfl ?_
      refine g_teq (b := lm w 8) (by rw [if_pos l1]) ?_
      refine g_callVV X (c_X5_append lL tT dD al _ _ _ (by first | assumption | omega) (by first | assumption | omega) (by first | assumption | omega)) kd_1 fc5 lk_RX9_91 rfl rfl ⟨by decide, by decide⟩ rfl (Nat.le_of_ble_eq_true rfl) dX9_letters_36 (fun M36 hc36 => ?_)
      subst M36
      refine g_aload_n X dX9_letters_39 rfl rfl ?_
      refine g_getr (r := 1) X kd_0 fc8 (k := 0) (by decide) rfl wd_303 rfl (by decide) dX9_letters_40 ?_
      refine g_geti (kz := 1) X kd_1 fc5 (k := 1) (by decide) rfl wd_98 rfl dX9_letters_43 ?_
      refine g_teq (b := M 114 1 + lm w 8) (by simp [letX]; exact hg0) ?_
      rw [hQ]
      refine g_iret X hr hlk dX9_letters_46 ?_
      exact ⟨by rw [if_pos l1, if_pos (by omega)], by rw [if_pos ⟨l1, by omega⟩]⟩
    · refine g_bipush X dX9_letters_27 (by decide +kernel) ?_
      rw [hQ]
      refine g_iret X hr hlk dX9_letters_29 ?_
      exact ⟨by rw [if_pos l1, if_neg (by omega)], by rw [if_neg (fun z => by have := z.2; omega)]⟩
  · have l1 : ¬ b2i (lg w 8) = 1 := fun q => by rw [if_pos q] at q7; omega
    refine g_bipush X dX9_letters_10 (by decide +kernel) ?_
    rw [hQ]
    refine g_iret X hr hlk dX9_letters_12 ?_
    exact ⟨by rw [if_neg l1], by rw [if_neg (fun z => l1 z.1)]⟩
set_option maxRecDepth 100000 in
set_option maxHeartbeats 4000000 in
theorem c_X9_blank (lL : Launch) (tT : TT) (dD : va_G) (al : Int → Nat) (M : Mem)  (hG : IG M) : CI lL yX9_blank cX9_blank 2 FieldType.int 0 0 tT dD al [.ref (al 0)] M (fun r M' => r = M 114 1 ∧ M' = mu M 1 1 0) := by
  refine CI.of (own := "RedSkies") (ls0 := [some (.ref (al 0)), none]) (by decide +kernel) rfl (Nat.le_of_ble_eq_true rfl) rfl ?_
  intro pP eE sS mI aA bB mM cC X hr hlk
  obtain ⟨Q, hQ⟩ : ∃ Q : State → Prop, Q = MQ bB (QI tT dD al (fun r M' => r = M 114 1 ∧ M' = mu M 1 1 0)) aA sS 0 0 (fA al) := ⟨_, rfl⟩
  rw [← hQ]
  refine g_aload_n X dX9_blank_0 rfl rfl ?_
  refine g_getr (r := 1) X kd_0 fc8 (k := 0) (by decide) rfl wd_303 rfl (by decide) dX9_blank_1 ?_
  refine g_geti (kz := 1) X kd_1 fc5 (k := 1) (by decide) rfl wd_98 rfl dX9_blank_4 ?_
  refine g_istore_n_1 X dX9_blank_7 rfl rfl (fun v1_7 ev1_7 => ?_)
  subst v1_7
  refine g_aload_n X dX9_blank_8 rfl rfl ?_
  refine g_getr (r := 1) X kd_0 fc8 (k := 0) (by decide) rfl wd_303 rfl (by decide) dX9_blank_9 ?_
  refine g_iconst X dX9_blank_12 ?_
  refine g_puti (kz := 1) X kd_1 fc5 (k := 1) (by decide) rfl wd_98 rfl rfl rfl dX9_blank_13 ?_
  refine g_iload_n X dX9_blank_16 rfl rfl ?_
  rw [hQ]
  refine g_iret X hr hlk dX9_blank_17 ?_
  exact ⟨hG.1, rfl⟩
set_option maxRecDepth 100000 in
set_option maxHeartbeats 4000000 in
theorem c_X9_fault (lL : Launch) (tT : TT) (dD : va_G) (al : Int → Nat) (M : Mem) (k : Int) (ik : i32 k) (hP : WPage M) (hG : IG M) (hB : B118 M) : CI lL yX9_fault cX9_fault 2 FieldType.int 5 107 tT dD al [.ref (al 0), .int (iN k)] M (fun r M' => (0 ≤ k ∧ k ≤ 2 → FX k M r M') ∧ (¬ (0 ≤ k ∧ k ≤ 2) → r = -102 ∧ M' = M)) := by
  refine CI.of (own := "RedSkies") (ls0 := [some (.ref (al 0)), some (.int (iN k))]) (by decide +kernel) rfl (Nat.le_of_ble_eq_true rfl) rfl ?_
  intro pP eE sS mI aA bB mM cC X hr hlk
  obtain ⟨Q, hQ⟩ : ∃ Q : State → Prop, Q = MQ bB (QI tT dD al (fun r M' => (0 ≤ k ∧ k ≤ 2 → FX k M r M') ∧ (¬ (0 ≤ k ∧ k ≤ 2) → r = -102 ∧ M' = M))) aA sS 0 0 (fA al) := ⟨_, rfl⟩
  rw [← hQ]
  refine g_iload_n X dX9_fault_0 rfl rfl ?_
  rcases (by omega : (k < 0 ∨ 2 < k) ∨ k = 0 ∨ k = 1 ∨ k = 2) with q1 | q1 | q1 | q1
  · refine g_tsOut (tgt := 64) X dX9_fault_1 ⟨by omega, by omega⟩ q1 (by decide) ?_
    refine g_bipush X dX9_fault_64 (by decide +kernel) ?_
    rw [hQ]
    refine g_iret X hr hlk dX9_fault_66 ?_
    exact ⟨fun z => by omega, fun _ => ⟨rfl, rfl⟩⟩
  · refine g_tsIn (tgt := 28) (off := 27) X dX9_fault_1 ⟨by omega, by omega⟩ (by omega) (by omega) (by rw [q1]; rfl) (by decide) ?_
    refine g_aload_n X dX9_fault_28 rfl rfl ?_
    refine g_getr (r := 1) X kd_0 fc8 (k := 0) (by decide) rfl wd_303 rfl (by decide) dX9_fault_29 ?_
    refine g_aload_n X dX9_fault_32 rfl rfl ?_
    refine g_getr (r := 3) X kd_0 fc8 (k := 1) (by decide) rfl wd_304 rfl (by decide) dX9_fault_33 ?_
    refine g_callVI X (c_X5_standing0 lL tT dD al _  (by first | assumption | omega) (by first | assumption | omega) (by first | assumption | omega)) kd_1 fc5 lk_RX9_95 rfl rfl ⟨by decide, by decide⟩ rfl (Nat.le_of_ble_eq_true rfl) dX9_fault_36 (fun r36 M36 hc36 => ?_)
    rw [hQ]
    refine g_iret X hr hlk dX9_fault_39 ?_
    subst q1
    exact ⟨fun _ => hc36, fun z => absurd (by decide) z⟩
  · refine g_tsIn (tgt := 40) (off := 39) X dX9_fault_1 ⟨by omega, by omega⟩ (by omega) (by omega) (by rw [q1]; rfl) (by decide) ?_
    refine g_aload_n X dX9_fault_40 rfl rfl ?_
    refine g_getr (r := 1) X kd_0 fc8 (k := 0) (by decide) rfl wd_303 rfl (by decide) dX9_fault_41 ?_
    refine g_aload_n X dX9_fault_44 rfl rfl ?_
    refine g_getr (r := 6) X kd_0 fc8 (k := 2) (by decide) rfl wd_305 rfl (by decide) dX9_fault_45 ?_
    refine g_callVI X (c_X5_standing1 lL tT dD al _  (by first | assumption | omega) (by first | assumption | omega) (by first | assumption | omega)) kd_1 fc5 lk_RX9_95 rfl rfl ⟨by decide, by decide⟩ rfl (Nat.le_of_ble_eq_true rfl) dX9_fault_48 (fun r48 M48 hc48 => ?_)
    rw [hQ]
    refine g_iret X hr hlk dX9_fault_51 ?_
    subst q1
    exact ⟨fun _ => hc48, fun z => absurd (by decide) z⟩
  · refine g_tsIn (tgt := 52) (off := 51) X dX9_fault_1 ⟨by omega, by omega⟩ (by omega) (by omega) (by rw [q1]; rfl) (by decide) ?_
    refine g_aload_n X dX9_fault_52 rfl rfl ?_
    refine g_getr (r := 1) X kd_0 fc8 (k := 0) (by decide) rfl wd_303 rfl (by decide) dX9_fault_53 ?_
    refine g_aload_n X dX9_fault_56 rfl rfl ?_
    refine g_getr (r := 8) X kd_0 fc8 (k := 3) (by decide) rfl wd_306 rfl (by decide) dX9_fault_57 ?_
    refine g_callVI X (c_X5_standing2 lL tT dD al _  (by first | assumption | omega) (by first | assumption | omega) (by first | assumption | omega)) kd_1 fc5 lk_RX9_95 rfl rfl ⟨by decide, by decide⟩ rfl (Nat.le_of_ble_eq_true rfl) dX9_fault_60 (fun r60 M60 hc60 => ?_)
    rw [hQ]
    refine g_iret X hr hlk dX9_fault_63 ?_
    subst q1
    exact ⟨fun _ => hc60, fun z => absurd (by decide) z⟩
set_option maxRecDepth 100000 in
set_option maxHeartbeats 4000000 in
theorem c_X9_lamp (lL : Launch) (tT : TT) (dD : va_G) (al : Int → Nat) (M : Mem)  (hV : IV M) (hP : WPage M) (hG : IG M) (hB : B118 M) : CI lL yX9_lamp cX9_lamp 1 FieldType.int 6 128 tT dD al [.ref (al 0)] M (fun r M' => ∃ f Mx, FX 0 M f Mx ∧ lampX M f Mx r M') := by
  refine CI.of (own := "RedSkies") (ls0 := [some (.ref (al 0))]) (by decide +kernel) rfl (Nat.le_of_ble_eq_true rfl) rfl ?_
  intro pP eE sS mI aA bB mM cC X hr hlk
  obtain ⟨Q, hQ⟩ : ∃ Q : State → Prop, Q = MQ bB (QI tT dD al (fun r M' => ∃ f Mx, FX 0 M f Mx ∧ lampX M f Mx r M')) aA sS 0 0 (fA al) := ⟨_, rfl⟩
  rw [← hQ]
  have hp0 := hP.1
  have hg0 := hG.1
  have hW := hV.w
  have wl := hW.lam
  have wm := hW.mea
  have l1 := hV.la
  have l2 := hV.me
  have l3 := hV.lw
  refine g_aload_n X dX9_lamp_0 rfl rfl ?_
  refine g_getr (r := 1) X kd_0 fc8 (k := 0) (by decide) rfl wd_303 rfl (by decide) dX9_lamp_1 ?_
  refine g_aload_n X dX9_lamp_4 rfl rfl ?_
  refine g_getr (r := 3) X kd_0 fc8 (k := 1) (by decide) rfl wd_304 rfl (by decide) dX9_lamp_5 ?_
  refine g_callVI X (c_X5_isWhole0 lL tT dD al _  (by first | assumption | omega) (by first | assumption | omega) (by first | assumption | omega)) kd_1 fc5 lk_RX9_99 rfl rfl ⟨by decide, by decide⟩ rfl (Nat.le_of_ble_eq_true rfl) dX9_lamp_8 (fun r8 M8 hc8 => ?_)
  obtain ⟨f8, hf8, hr8, hd8⟩ := hc8
  have hX := hf8.2.2.2
  have hfr := hf8.1
  have e13 : M8 0 13 = M 114 13 := by rw [hX.row (by omega)]; exact l1
  refine g_if_ne (tgt := 17) X dX9_lamp_11 (by decide) ⟨by omega, by omega⟩ (fun q11 => ?_) (fun q11 => ?_)
  · refine g_aload_n X dX9_lamp_17 rfl rfl ?_
    refine g_geti (kz := 13) X kd_0 fc8 (k := 13) (by decide) rfl wd_316 rfl dX9_lamp_18 ?_
    refine g_teq (b := M 114 13) (by exact e13) ?_
    refine g_iconst X dX9_lamp_21 ?_
    refine g_icmp_lt (tgt := 28) X dX9_lamp_22 (by decide) ⟨by omega, by omega⟩ (by decide) (fun q22 => ?_) (fun q22 => ?_)
    · refine g_aload_n X dX9_lamp_28 rfl rfl ?_
      refine g_getr (r := 3) X kd_0 fc8 (k := 1) (by decide) rfl wd_304 rfl (by decide) dX9_lamp_29 ?_
      refine g_getr (r := 4) X kd_3 fc1 (k := 0) (by decide) rfl wd_116 rfl (by decide) dX9_lamp_32 ?_
      refine g_iconst X dX9_lamp_35 ?_
      refine g_aload_n X dX9_lamp_36 rfl rfl ?_
      refine g_getr (r := 10) X kd_0 fc8 (k := 4) (by decide) rfl wd_307 rfl (by decide) dX9_lamp_37 ?_
      refine g_aload_n X dX9_lamp_40 rfl rfl ?_
      refine g_geti (kz := 13) X kd_0 fc8 (k := 13) (by decide) rfl wd_316 rfl dX9_lamp_41 ?_
      refine g_teq (b := M 114 13) (by exact e13) ?_
      have b0_44_19 : 0 ≤ (M 114 13) := by omega
      have b1_44_19 : (M 114 13) < 4 := by omega
      refine g_aald X kd_10 (bz := 11) rfl b0_44_19 b1_44_19 dX9_lamp_44 ?_
      have kr_44_19 := kr_11 b0_44_19 b1_44_19
      refine g_iconst X dX9_lamp_45 ?_
      refine g_iconst X dX9_lamp_46 ?_
      refine g_copy X wd_492 wd_494 wd_493 wd_79 kd_4 kr_44_19 (by first | decide | omega) (by first | decide | omega) (by first | decide | omega) (by first | decide | omega) (by first | decide | omega) rfl ⟨by decide, by decide⟩ (Nat.le_of_ble_eq_true rfl) dX9_lamp_47 ?_
      refine g_aload_n X dX9_lamp_50 rfl rfl ?_
      refine g_getr (r := 1) X kd_0 fc8 (k := 0) (by decide) rfl wd_303 rfl (by decide) dX9_lamp_51 ?_
      refine g_iconst X dX9_lamp_54 ?_
      refine g_puti (kz := 1) X kd_1 fc5 (k := 1) (by decide) rfl wd_98 rfl rfl rfl dX9_lamp_55 ?_
      refine g_aload_n X dX9_lamp_58 rfl rfl ?_
      refine g_dup X dX9_lamp_59 rfl ?_
      refine g_geti (kz := 13) X kd_0 fc8 (k := 13) (by decide) rfl wd_316 rfl dX9_lamp_60 ?_
      refine g_teq (b := ((cpy M8 4 0 (11 + (M 114 13)) 0 3) 0 13)) (by first | (simp [mu]; done) | (simp only [mu]; repeat (first | rw [if_pos (⟨rfl, rfl⟩)] | rw [if_neg (by omega)]))) ?_
      refine g_teq (b := M 114 13) (by simp [cpy]; first | exact e13 | (rw [if_neg (by omega)]; exact e13)) ?_
      refine g_iconst X dX9_lamp_63 ?_
      refine g_iadd X dX9_lamp_64 ?_
      refine g_puti (kz := 13) X kd_0 fc8 (k := 13) (by decide) rfl wd_316 rfl rfl rfl dX9_lamp_65 ?_
      refine g_aload_n X dX9_lamp_68 rfl rfl ?_
      refine g_geti (kz := 13) X kd_0 fc8 (k := 13) (by decide) rfl wd_316 rfl dX9_lamp_69 ?_
      refine g_teq (b := ((M 114 13) + 1)) (by first | (simp [mu]; done) | (simp only [mu]; repeat (first | rw [if_pos (⟨rfl, rfl⟩)] | rw [if_neg (by omega)]))) ?_
      refine g_iconst X dX9_lamp_72 ?_
      refine g_isub X dX9_lamp_73 ?_
      rw [hQ]
      refine g_iret X hr hlk dX9_lamp_74 ?_
      exact ⟨f8, M8, hf8, by unfold lampX; rw [if_neg (by omega), if_neg (by omega)]; exact ⟨by omega, rfl⟩⟩
    · refine g_bipush X dX9_lamp_25 (by decide +kernel) ?_
      rw [hQ]
      refine g_iret X hr hlk dX9_lamp_27 ?_
      exact ⟨f8, M8, hf8, by unfold lampX; rw [if_neg (by omega), if_pos (by omega)]; exact ⟨rfl, rfl⟩⟩
  · refine g_bipush X dX9_lamp_14 (by decide +kernel) ?_
    rw [hQ]
    refine g_iret X hr hlk dX9_lamp_16 ?_
    exact ⟨f8, M8, hf8, by unfold lampX; rw [if_pos (by omega)]; exact ⟨rfl, rfl⟩⟩
set_option maxRecDepth 100000 in
set_option maxHeartbeats 4000000 in
theorem c_X9_measure (lL : Launch) (tT : TT) (dD : va_G) (al : Int → Nat) (M : Mem)  (hV : IV M) (hP : WPage M) (hG : IG M) (hB : B118 M) : CI lL yX9_measure cX9_measure 1 FieldType.int 5 107 tT dD al [.ref (al 0)] M (fun r M' => ∃ f Mx, FX 1 M f Mx ∧ measX M f Mx r M') := by
  refine CI.of (own := "RedSkies") (ls0 := [some (.ref (al 0))]) (by decide +kernel) rfl (Nat.le_of_ble_eq_true rfl) rfl ?_
  intro pP eE sS mI aA bB mM cC X hr hlk
  obtain ⟨Q, hQ⟩ : ∃ Q : State → Prop, Q = MQ bB (QI tT dD al (fun r M' => ∃ f Mx, FX 1 M f Mx ∧ measX M f Mx r M')) aA sS 0 0 (fA al) := ⟨_, rfl⟩
  rw [← hQ]
  have hp0 := hP.1
  have hg0 := hG.1
  have hW := hV.w
  have wl := hW.lam
  have wm := hW.mea
  have l1 := hV.la
  have l2 := hV.me
  have l3 := hV.lw
  refine g_aload_n X dX9_measure_0 rfl rfl ?_
  refine g_getr (r := 1) X kd_0 fc8 (k := 0) (by decide) rfl wd_303 rfl (by decide) dX9_measure_1 ?_
  refine g_aload_n X dX9_measure_4 rfl rfl ?_
  refine g_getr (r := 6) X kd_0 fc8 (k := 2) (by decide) rfl wd_305 rfl (by decide) dX9_measure_5 ?_
  refine g_callVI X (c_X5_isWhole1 lL tT dD al _  (by first | assumption | omega) (by first | assumption | omega) (by first | assumption | omega)) kd_1 fc5 lk_RX9_99 rfl rfl ⟨by decide, by decide⟩ rfl (Nat.le_of_ble_eq_true rfl) dX9_measure_8 (fun r8 M8 hc8 => ?_)
  obtain ⟨f8, hf8, hr8, hd8⟩ := hc8
  have hX := hf8.2.2.2
  have hfr := hf8.1
  have e13 : M8 0 15 = M 114 15 := by rw [hX.row (by omega)]; exact l2
  refine g_if_ne (tgt := 17) X dX9_measure_11 (by decide) ⟨by omega, by omega⟩ (fun q11 => ?_) (fun q11 => ?_)
  · refine g_aload_n X dX9_measure_17 rfl rfl ?_
    refine g_geti (kz := 15) X kd_0 fc8 (k := 15) (by decide) rfl wd_318 rfl dX9_measure_18 ?_
    refine g_teq (b := M 114 15) (by exact e13) ?_
    refine g_iconst X dX9_measure_21 ?_
    refine g_icmp_lt (tgt := 28) X dX9_measure_22 (by decide) ⟨by omega, by omega⟩ (by decide) (fun q22 => ?_) (fun q22 => ?_)
    · refine g_aload_n X dX9_measure_28 rfl rfl ?_
      refine g_getr (r := 6) X kd_0 fc8 (k := 2) (by decide) rfl wd_305 rfl (by decide) dX9_measure_29 ?_
      refine g_getr (r := 7) X kd_6 fc4 (k := 0) (by decide) rfl wd_143 rfl (by decide) dX9_measure_32 ?_
      refine g_iconst X dX9_measure_35 ?_
      refine g_aload_n X dX9_measure_36 rfl rfl ?_
      refine g_getr (r := 17) X kd_0 fc8 (k := 7) (by decide) rfl wd_310 rfl (by decide) dX9_measure_37 ?_
      refine g_aload_n X dX9_measure_40 rfl rfl ?_
      refine g_geti (kz := 15) X kd_0 fc8 (k := 15) (by decide) rfl wd_318 rfl dX9_measure_41 ?_
      refine g_teq (b := M 114 15) (by exact e13) ?_
      have b0_44_19 : 0 ≤ (M 114 15) := by omega
      have b1_44_19 : (M 114 15) < 4 := by omega
      refine g_aald X kd_17 (bz := 18) rfl b0_44_19 b1_44_19 dX9_measure_44 ?_
      have kr_44_19 := kr_18 b0_44_19 b1_44_19
      refine g_iconst X dX9_measure_45 ?_
      refine g_bipush X dX9_measure_46 (by decide +kernel) ?_
      refine g_copy X wd_492 wd_494 wd_493 wd_79 kd_7 kr_44_19 (by first | decide | omega) (by first | decide | omega) (by first | decide | omega) (by first | decide | omega) (by first | decide | omega) rfl ⟨by decide, by decide⟩ (Nat.le_of_ble_eq_true rfl) dX9_measure_48 ?_
      refine g_aload_n X dX9_measure_51 rfl rfl ?_
      refine g_getr (r := 1) X kd_0 fc8 (k := 0) (by decide) rfl wd_303 rfl (by decide) dX9_measure_52 ?_
      refine g_iconst X dX9_measure_55 ?_
      refine g_puti (kz := 1) X kd_1 fc5 (k := 1) (by decide) rfl wd_98 rfl rfl rfl dX9_measure_56 ?_
      refine g_aload_n X dX9_measure_59 rfl rfl ?_
      refine g_dup X dX9_measure_60 rfl ?_
      refine g_geti (kz := 15) X kd_0 fc8 (k := 15) (by decide) rfl wd_318 rfl dX9_measure_61 ?_
      refine g_teq (b := ((cpy M8 7 0 (18 + (M 114 15)) 0 24) 0 15)) (by first | (simp [mu]; done) | (simp only [mu]; repeat (first | rw [if_pos (⟨rfl, rfl⟩)] | rw [if_neg (by omega)]))) ?_
      refine g_teq (b := M 114 15) (by simp [cpy]; first | exact e13 | (rw [if_neg (by omega)]; exact e13)) ?_
      refine g_iconst X dX9_measure_64 ?_
      refine g_iadd X dX9_measure_65 ?_
      refine g_puti (kz := 15) X kd_0 fc8 (k := 15) (by decide) rfl wd_318 rfl rfl rfl dX9_measure_66 ?_
      refine g_aload_n X dX9_measure_69 rfl rfl ?_
      refine g_geti (kz := 15) X kd_0 fc8 (k := 15) (by decide) rfl wd_318 rfl dX9_measure_70 ?_
      refine g_teq (b := ((M 114 15) + 1)) (by first | (simp [mu]; done) | (simp only [mu]; repeat (first | rw [if_pos (⟨rfl, rfl⟩)] | rw [if_neg (by omega)]))) ?_
      refine g_iconst X dX9_measure_73 ?_
      refine g_isub X dX9_measure_74 ?_
      rw [hQ]
      refine g_iret X hr hlk dX9_measure_75 ?_
      exact ⟨f8, M8, hf8, by unfold measX; rw [if_neg (by omega), if_neg (by omega)]; exact ⟨by omega, rfl⟩⟩
    · refine g_bipush X dX9_measure_25 (by decide +kernel) ?_
      rw [hQ]
      refine g_iret X hr hlk dX9_measure_27 ?_
      exact ⟨f8, M8, hf8, by unfold measX; rw [if_neg (by omega), if_pos (by omega)]; exact ⟨rfl, rfl⟩⟩
  · refine g_bipush X dX9_measure_14 (by decide +kernel) ?_
    rw [hQ]
    refine g_iret X hr hlk dX9_measure_16 ?_
    exact ⟨f8, M8, hf8, by unfold measX; rw [if_pos (by omega)]; exact ⟨rfl, rfl⟩⟩
set_option maxRecDepth 100000 in
set_option maxHeartbeats 4000000 in
theorem c_X2_takeFrom (lL : Launch) (tT : TT) (dD : va_G) (al : Int → Nat) (M : Mem)   : CV lL yX2_takeFrom cX2_takeFrom 2 1 40 tT dD al [.ref (al 22), .ref (al 8)] M (fun M' => M' = mu (mu (cpy M 9 0 23 0 5) 22 1 (M 8 1)) 22 2 (M 8 2)) := by
  refine CV.of (own := "RedSkies$Law") (ls0 := [some (.ref (al 22)), some (.ref (al 8))]) (by decide +kernel) rfl (Nat.le_of_ble_eq_true rfl) rfl ?_
  intro pP eE sS mI aA bB mM cC X hr hlk
  obtain ⟨Q, hQ⟩ : ∃ Q : State → Prop, Q = MQ bB (QV tT dD al (fun M' => M' = mu (mu (cpy M 9 0 23 0 5) 22 1 (M 8 1)) 22 2 (M 8 2))) aA sS 0 0 (fA al) := ⟨_, rfl⟩
  rw [← hQ]
  refine g_aload_n X dX2_takeFrom_0 rfl rfl ?_
  refine g_getr (r := 9) X kd_8 fc3 (k := 0) (by decide) rfl wd_169 rfl (by decide) dX2_takeFrom_1 ?_
  refine g_iconst X dX2_takeFrom_4 ?_
  refine g_aload_n X dX2_takeFrom_5 rfl rfl ?_
  refine g_getr (r := 23) X kd_22 fc2 (k := 0) (by decide) rfl wd_195 rfl (by decide) dX2_takeFrom_6 ?_
  refine g_iconst X dX2_takeFrom_9 ?_
  refine g_iconst X dX2_takeFrom_10 ?_
  refine g_copy X wd_507 wd_494 wd_493 wd_79 kd_9 kd_23 (by first | decide | omega) (by first | decide | omega) (by first | decide | omega) (by first | decide | omega) (by first | decide | omega) rfl ⟨by decide, by decide⟩ (Nat.le_of_ble_eq_true rfl) dX2_takeFrom_11 ?_
  refine g_aload_n X dX2_takeFrom_14 rfl rfl ?_
  refine g_aload_n X dX2_takeFrom_15 rfl rfl ?_
  refine g_geti (kz := 1) X kd_8 fc3 (k := 1) (by decide) rfl wd_171 rfl dX2_takeFrom_16 ?_
  refine g_teq (b := M 8 1) (by simp [cpy]) ?_
  refine g_puti (kz := 1) X kd_22 fc2 (k := 1) (by decide) rfl wd_196 rfl rfl rfl dX2_takeFrom_19 ?_
  refine g_aload_n X dX2_takeFrom_22 rfl rfl ?_
  refine g_aload_n X dX2_takeFrom_23 rfl rfl ?_
  refine g_geti (kz := 2) X kd_8 fc3 (k := 2) (by decide) rfl wd_173 rfl dX2_takeFrom_24 ?_
  refine g_teq (b := ((cpy M 9 0 23 0 5) 8 2)) (by first | (simp [mu]; done) | (simp only [mu]; repeat (first | rw [if_pos (⟨rfl, rfl⟩)] | rw [if_neg (by omega)]))) ?_
  refine g_teq (b := M 8 2) (by simp [cpy, mu]) ?_
  refine g_puti (kz := 2) X kd_22 fc2 (k := 2) (by decide) rfl wd_198 rfl rfl rfl dX2_takeFrom_27 ?_
  rw [hQ]
  refine g_vret X hr hlk dX2_takeFrom_30 ?_
  rfl
set_option maxRecDepth 100000 in
set_option maxHeartbeats 4000000 in
theorem c_X9_law (lL : Launch) (tT : TT) (dD : va_G) (al : Int → Nat) (M : Mem)  (hV : IV M) (hP : WPage M) (hG : IG M) (hB : B118 M) : CI lL yX9_law cX9_law 1 FieldType.int 5 109 tT dD al [.ref (al 0)] M (fun r M' => ∃ f Mx, FX 2 M f Mx ∧ lawX M f Mx r M') := by
  refine CI.of (own := "RedSkies") (ls0 := [some (.ref (al 0))]) (by decide +kernel) rfl (Nat.le_of_ble_eq_true rfl) rfl ?_
  intro pP eE sS mI aA bB mM cC X hr hlk
  obtain ⟨Q, hQ⟩ : ∃ Q : State → Prop, Q = MQ bB (QI tT dD al (fun r M' => ∃ f Mx, FX 2 M f Mx ∧ lawX M f Mx r M')) aA sS 0 0 (fA al) := ⟨_, rfl⟩
  rw [← hQ]
  have hp0 := hP.1
  have hg0 := hG.1
  have hW := hV.w
  have wl := hW.lam
  have wm := hW.mea
  have l1 := hV.la
  have l2 := hV.me
  have l3 := hV.lw
  refine g_aload_n X dX9_law_0 rfl rfl ?_
  refine g_getr (r := 1) X kd_0 fc8 (k := 0) (by decide) rfl wd_303 rfl (by decide) dX9_law_1 ?_
  refine g_aload_n X dX9_law_4 rfl rfl ?_
  refine g_getr (r := 8) X kd_0 fc8 (k := 3) (by decide) rfl wd_306 rfl (by decide) dX9_law_5 ?_
  refine g_callVI X (c_X5_isWhole2 lL tT dD al _  (by first | assumption | omega) (by first | assumption | omega) (by first | assumption | omega)) kd_1 fc5 lk_RX9_99 rfl rfl ⟨by decide, by decide⟩ rfl (Nat.le_of_ble_eq_true rfl) dX9_law_8 (fun r8 M8 hc8 => ?_)
  obtain ⟨f8, hf8, hr8, hd8⟩ := hc8
  have hX := hf8.2.2.2
  have hfr := hf8.1
  refine g_if_ne (tgt := 17) X dX9_law_11 (by decide) ⟨by omega, by omega⟩ (fun q11 => ?_) (fun q11 => ?_)
  · refine g_aload_n X dX9_law_17 rfl rfl ?_
    refine g_getr (r := 22) X kd_0 fc8 (k := 8) (by decide) rfl wd_311 rfl (by decide) dX9_law_18 ?_
    refine g_aload_n X dX9_law_21 rfl rfl ?_
    refine g_getr (r := 8) X kd_0 fc8 (k := 3) (by decide) rfl wd_306 rfl (by decide) dX9_law_22 ?_
    refine g_callVV X (c_X2_takeFrom lL tT dD al _  ) kd_22 fc2 lk_RX9_121 rfl rfl ⟨by decide, by decide⟩ rfl (Nat.le_of_ble_eq_true rfl) dX9_law_25 (fun M25 hc25 => ?_)
    subst M25
    refine g_aload_n X dX9_law_28 rfl rfl ?_
    refine g_getr (r := 1) X kd_0 fc8 (k := 0) (by decide) rfl wd_303 rfl (by decide) dX9_law_29 ?_
    refine g_iconst X dX9_law_32 ?_
    refine g_puti (kz := 1) X kd_1 fc5 (k := 1) (by decide) rfl wd_98 rfl rfl rfl dX9_law_33 ?_
    refine g_aload_n X dX9_law_36 rfl rfl ?_
    refine g_getr (r := 22) X kd_0 fc8 (k := 8) (by decide) rfl wd_311 rfl (by decide) dX9_law_37 ?_
    refine g_geti (kz := 1) X kd_22 fc2 (k := 1) (by decide) rfl wd_197 rfl dX9_law_40 ?_
    refine g_teq (b := ((mu (mu (cpy M8 9 0 23 0 5) 22 1 (M8 8 1)) 22 2 (M8 8 2)) 22 1)) (by first | (simp [mu]; done) | (simp only [mu]; repeat (first | rw [if_pos (⟨rfl, rfl⟩)] | rw [if_neg (by omega)]))) ?_
    refine g_teq (b := M8 8 1) (by simp [mu]) ?_
    rw [hQ]
    refine g_iret X hr hlk dX9_law_43 ?_
    exact ⟨f8, M8, hf8, by unfold lawX; rw [if_neg (by omega)]; exact ⟨rfl, rfl⟩⟩
  · refine g_bipush X dX9_law_14 (by decide +kernel) ?_
    rw [hQ]
    refine g_iret X hr hlk dX9_law_16 ?_
    exact ⟨f8, M8, hf8, by unfold lawX; rw [if_pos (by omega)]; exact ⟨rfl, rfl⟩⟩
