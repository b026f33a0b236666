set_option maxRecDepth 100000 in
set_option maxHeartbeats 4000000 in
theorem c_X9_pigment (lL : Launch) (tT : TT) (dD : va_G) (al : Int → Nat) (M : Mem) (a b : Int) (hV : IV M) (ia : i32 a) (ib : i32 b) : CI lL yX9_pigment cX9_pigment 3 FieldType.int 1 21 tT dD al [.ref (al 0), .int (iN a), .int (iN b)] M (fun r M' => r = (if (0 ≤ a ∧ a ≤ 400) ∧ (0 ≤ b ∧ b ≤ 9) then (if M 114 20 = 4 then -104 else M 114 20) else -102) ∧ M' = (if ((0 ≤ a ∧ a ≤ 400) ∧ (0 ≤ b ∧ b ≤ 9)) ∧ M 114 20 ≠ 4 then mu (mu (mu M 15 (M 114 20) a) 16 (M 114 20) b) 0 14 (M 114 20 + 1) else M)) := by
  refine CI.of (own := "RedSkies") (ls0 := [some (.ref (al 0)), some (.int (iN a)), some (.int (iN b))]) (by decide +kernel) rfl (Nat.le_of_ble_eq_true rfl) rfl ?_
  intro pP eE sS mI aA bB mM cC X hr hlk
  obtain ⟨Q, hQ⟩ : ∃ Q : State → Prop, Q = MQ bB (QI tT dD al (fun r M' => r = (if (0 ≤ a ∧ a ≤ 400) ∧ (0 ≤ b ∧ b ≤ 9) then (if M 114 20 = 4 then -104 else M 114 20) else -102) ∧ M' = (if ((0 ≤ a ∧ a ≤ 400) ∧ (0 ≤ b ∧ b ≤ 9)) ∧ M 114 20 ≠ 4 then mu (mu (mu M 15 (M 114 20) a) 16 (M 114 20) b) 0 14 (M 114 20 + 1) else M))) aA sS 0 0 (fA al) := ⟨_, rfl⟩
  rw [← hQ]
  have hW := hV.w
  have w2 := hW.n
  have n1 := hV.hn
  have w3 := hW.mea
  have w4 := hW.pig
  have w5 := hW.lam
  have w6 := hW.law
  have k1 := hV.la
  have k2 := hV.pi
  have k3 := hV.me
  have k4 := hV.lw
  refine g_iload_n X dX9_pigment_0 rfl rfl ?_
  refine g_sipush X dX9_pigment_1 (by decide +kernel) ?_
  refine g_callSI X (c_X9_isWithin lL tT dD al _ _ _ ⟨by omega, by omega⟩ (by decide)) lk_RX9_126 rfl rfl ⟨by decide, by decide⟩ rfl (Nat.le_of_ble_eq_true rfl) dX9_pigment_4 (fun r4 M4 hc4 => ?_)
  obtain ⟨hr4, hm4⟩ := hc4
  subst r4
  subst M4
  refine g_if_eq (tgt := 19) X dX9_pigment_7 (by decide) (b2i_i32 _) (fun q7 => ?_) (fun q7 => ?_)
  · have q7 := b2i_f q7
    refine g_bipush X dX9_pigment_19 (by decide +kernel) ?_
    rw [hQ]
    refine g_iret X hr hlk dX9_pigment_21 ?_
    first | exact ⟨by rw [if_neg (by omega)], by rw [if_neg (by omega)]⟩ | exact ⟨by rw [if_pos (by omega), if_pos (by omega)], by rw [if_neg (by omega)]⟩ | exact ⟨by rw [if_pos (by omega), if_neg (by omega)]; omega, by rw [if_pos (by omega), ← k2]⟩
  · have q7 := b2i_t q7
    refine g_iload_n X dX9_pigment_10 rfl rfl ?_
    refine g_bipush X dX9_pigment_11 (by decide +kernel) ?_
    refine g_callSI X (c_X9_isWithin lL tT dD al _ _ _ ⟨by omega, by omega⟩ (by decide)) lk_RX9_126 rfl rfl ⟨by decide, by decide⟩ rfl (Nat.le_of_ble_eq_true rfl) dX9_pigment_13 (fun r13 M13 hc13 => ?_)
    obtain ⟨hr13, hm13⟩ := hc13
    subst r13
    subst M13
    refine g_if_ne (tgt := 22) X dX9_pigment_16 (by decide) (b2i_i32 _) (fun q16 => ?_) (fun q16 => ?_)
    · have q16 := b2i_t q16
      refine g_aload_n X dX9_pigment_22 rfl rfl ?_
      refine g_geti (kz := 14) X kd_0 fc8 (k := 14) (by decide) rfl wd_317 rfl dX9_pigment_23 ?_
      refine g_teq (b := M 114 20) (by exact k2) ?_
      refine g_iconst X dX9_pigment_26 ?_
      refine g_icmp_lt (tgt := 33) X dX9_pigment_27 (by decide) ⟨by omega, by omega⟩ (by decide) (fun q27 => ?_) (fun q27 => ?_)
      · refine g_aload_n X dX9_pigment_33 rfl rfl ?_
        refine g_getr (r := 15) X kd_0 fc8 (k := 5) (by decide) rfl wd_308 rfl (by decide) dX9_pigment_34 ?_
        refine g_aload_n X dX9_pigment_37 rfl rfl ?_
        refine g_geti (kz := 14) X kd_0 fc8 (k := 14) (by decide) rfl wd_317 rfl dX9_pigment_38 ?_
        refine g_iload_n X dX9_pigment_41 rfl rfl ?_
        refine g_iast X kd_15 (by omega) (by omega) dX9_pigment_42 ?_
        refine g_aload_n X dX9_pigment_43 rfl rfl ?_
        refine g_getr (r := 16) X kd_0 fc8 (k := 6) (by decide) rfl wd_309 rfl (by decide) dX9_pigment_44 ?_
        refine g_aload_n X dX9_pigment_47 rfl rfl ?_
        refine g_geti (kz := 14) X kd_0 fc8 (k := 14) (by decide) rfl wd_317 rfl dX9_pigment_48 ?_
        refine g_teq (b := (M 0 14)) (by first | (simp [mu]; done) | (simp only [mu]; repeat (first | rw [if_pos (⟨rfl, rfl⟩)] | rw [if_neg (by omega)]))) ?_
        refine g_iload_n X dX9_pigment_51 rfl rfl ?_
        refine g_iast X kd_16 (by omega) (by omega) dX9_pigment_52 ?_
        refine g_aload_n X dX9_pigment_53 rfl rfl ?_
        refine g_dup X dX9_pigment_54 rfl ?_
        refine g_geti (kz := 14) X kd_0 fc8 (k := 14) (by decide) rfl wd_317 rfl dX9_pigment_55 ?_
        refine g_teq (b := (M 0 14)) (by first | (simp [mu]; done) | (simp only [mu]; repeat (first | rw [if_pos (⟨rfl, rfl⟩)] | rw [if_neg (by omega)]))) ?_
        refine g_teq (b := M 114 20) (by exact k2) ?_
        refine g_iconst X dX9_pigment_58 ?_
        refine g_iadd X dX9_pigment_59 ?_
        refine g_puti (kz := 14) X kd_0 fc8 (k := 14) (by decide) rfl wd_317 rfl rfl rfl dX9_pigment_60 ?_
        refine g_aload_n X dX9_pigment_63 rfl rfl ?_
        refine g_geti (kz := 14) X kd_0 fc8 (k := 14) (by decide) rfl wd_317 rfl dX9_pigment_64 ?_
        refine g_teq (b := ((M 114 20) + 1)) (by first | (simp [mu]; done) | (simp only [mu]; repeat (first | rw [if_pos (⟨rfl, rfl⟩)] | rw [if_neg (by omega)]))) ?_
        refine g_iconst X dX9_pigment_67 ?_
        refine g_isub X dX9_pigment_68 ?_
        rw [hQ]
        refine g_iret X hr hlk dX9_pigment_69 ?_
        first | exact ⟨by rw [if_neg (by omega)], by rw [if_neg (by omega)]⟩ | exact ⟨by rw [if_pos (by omega), if_pos (by omega)], by rw [if_neg (by omega)]⟩ | exact ⟨by rw [if_pos (by omega), if_neg (by omega)]; omega, by rw [if_pos (by omega), ← k2]⟩
      · refine g_bipush X dX9_pigment_30 (by decide +kernel) ?_
        rw [hQ]
        refine g_iret X hr hlk dX9_pigment_32 ?_
        first | exact ⟨by rw [if_neg (by omega)], by rw [if_neg (by omega)]⟩ | exact ⟨by rw [if_pos (by omega), if_pos (by omega)], by rw [if_neg (by omega)]⟩ | exact ⟨by rw [if_pos (by omega), if_neg (by omega)]; omega, by rw [if_pos (by omega), ← k2]⟩
    · have q16 := b2i_f q16
      refine g_bipush X dX9_pigment_19 (by decide +kernel) ?_
      rw [hQ]
      refine g_iret X hr hlk dX9_pigment_21 ?_
      first | exact ⟨by rw [if_neg (by omega)], by rw [if_neg (by omega)]⟩ | exact ⟨by rw [if_pos (by omega), if_pos (by omega)], by rw [if_neg (by omega)]⟩ | exact ⟨by rw [if_pos (by omega), if_neg (by omega)]; omega, by rw [if_pos (by omega), ← k2]⟩
set_option maxRecDepth 100000 in
set_option maxHeartbeats 4000000 in
theorem c_X9_mountain (lL : Launch) (tT : TT) (dD : va_G) (al : Int → Nat) (M : Mem) (a : Int) (hV : IV M) (ia : i32 a) : CI lL yX9_mountain cX9_mountain 2 FieldType.int 1 21 tT dD al [.ref (al 0), .int (iN a)] M (fun r M' => r = (if 0 ≤ a ∧ a ≤ 400 then (if M 114 26 = 6 then -104 else M 114 26) else -102) ∧ M' = (if (0 ≤ a ∧ a ≤ 400) ∧ M 114 26 ≠ 6 then mu (mu M 59 (M 24 6) a) 24 6 (M 24 6 + 1) else M)) := by
  refine CI.of (own := "RedSkies") (ls0 := [some (.ref (al 0)), some (.int (iN a))]) (by decide +kernel) rfl (Nat.le_of_ble_eq_true rfl) rfl ?_
  intro pP eE sS mI aA bB mM cC X hr hlk
  obtain ⟨Q, hQ⟩ : ∃ Q : State → Prop, Q = MQ bB (QI tT dD al (fun r M' => r = (if 0 ≤ a ∧ a ≤ 400 then (if M 114 26 = 6 then -104 else M 114 26) else -102) ∧ M' = (if (0 ≤ a ∧ a ≤ 400) ∧ M 114 26 ≠ 6 then mu (mu M 59 (M 24 6) a) 24 6 (M 24 6 + 1) else M))) aA sS 0 0 (fA al) := ⟨_, rfl⟩
  rw [← hQ]
  have hW := hV.w
  have w2 := hW.n
  have n1 := hV.hn
  have w3 := hW.mea
  have w4 := hW.pig
  have w5 := hW.lam
  have w6 := hW.law
  have k1 := hV.la
  have k2 := hV.pi
  have k3 := hV.me
  have k4 := hV.lw
  refine g_iload_n X dX9_mountain_0 rfl rfl ?_
  refine g_sipush X dX9_mountain_1 (by decide +kernel) ?_
  refine g_callSI X (c_X9_isWithin lL tT dD al _ _ _ ⟨by omega, by omega⟩ (by decide)) lk_RX9_126 rfl rfl ⟨by decide, by decide⟩ rfl (Nat.le_of_ble_eq_true rfl) dX9_mountain_4 (fun r4 M4 hc4 => ?_)
  obtain ⟨hr4, hm4⟩ := hc4
  subst r4
  subst M4
  refine g_if_ne (tgt := 13) X dX9_mountain_7 (by decide) (b2i_i32 _) (fun q7 => ?_) (fun q7 => ?_)
  · have q7 := b2i_t q7
    refine g_aload_n X dX9_mountain_13 rfl rfl ?_
    refine g_getr (r := 24) X kd_0 fc8 (k := 9) (by decide) rfl wd_312 rfl (by decide) dX9_mountain_14 ?_
    refine g_geti (kz := 6) X kd_24 fc7 (k := 6) (by decide) rfl wd_230 rfl dX9_mountain_17 ?_
    refine g_bipush X dX9_mountain_20 (by decide +kernel) ?_
    refine g_icmp_lt (tgt := 28) X dX9_mountain_22 (by decide) ⟨by omega, by omega⟩ (by decide) (fun q22 => ?_) (fun q22 => ?_)
    · refine g_aload_n X dX9_mountain_28 rfl rfl ?_
      refine g_getr (r := 24) X kd_0 fc8 (k := 9) (by decide) rfl wd_312 rfl (by decide) dX9_mountain_29 ?_
      refine g_getr (r := 59) X kd_24 fc7 (k := 2) (by decide) rfl wd_222 rfl (by decide) dX9_mountain_32 ?_
      refine g_aload_n X dX9_mountain_35 rfl rfl ?_
      refine g_getr (r := 24) X kd_0 fc8 (k := 9) (by decide) rfl wd_312 rfl (by decide) dX9_mountain_36 ?_
      refine g_geti (kz := 6) X kd_24 fc7 (k := 6) (by decide) rfl wd_230 rfl dX9_mountain_39 ?_
      refine g_iload_n X dX9_mountain_42 rfl rfl ?_
      refine g_iast X kd_59 (by omega) (by omega) dX9_mountain_43 ?_
      refine g_aload_n X dX9_mountain_44 rfl rfl ?_
      refine g_getr (r := 24) X kd_0 fc8 (k := 9) (by decide) rfl wd_312 rfl (by decide) dX9_mountain_45 ?_
      refine g_dup X dX9_mountain_48 rfl ?_
      refine g_geti (kz := 6) X kd_24 fc7 (k := 6) (by decide) rfl wd_230 rfl dX9_mountain_49 ?_
      refine g_teq (b := (M 24 6)) (by first | (simp [mu]; done) | (simp only [mu]; repeat (first | rw [if_pos (⟨rfl, rfl⟩)] | rw [if_neg (by omega)]))) ?_
      refine g_iconst X dX9_mountain_52 ?_
      refine g_iadd X dX9_mountain_53 ?_
      refine g_puti (kz := 6) X kd_24 fc7 (k := 6) (by decide) rfl wd_230 rfl rfl rfl dX9_mountain_54 ?_
      refine g_aload_n X dX9_mountain_57 rfl rfl ?_
      refine g_getr (r := 24) X kd_0 fc8 (k := 9) (by decide) rfl wd_312 rfl (by decide) dX9_mountain_58 ?_
      refine g_geti (kz := 6) X kd_24 fc7 (k := 6) (by decide) rfl wd_230 rfl dX9_mountain_61 ?_
      refine g_teq (b := ((M 24 6) + 1)) (by first | (simp [mu]; done) | (simp only [mu]; repeat (first | rw [if_pos (⟨rfl, rfl⟩)] | rw [if_neg (by omega)]))) ?_
      refine g_iconst X dX9_mountain_64 ?_
      refine g_isub X dX9_mountain_65 ?_
      rw [hQ]
      refine g_iret X hr hlk dX9_mountain_66 ?_
      first | exact ⟨by rw [if_neg (by omega)], by rw [if_neg (by omega)]⟩ | exact ⟨by rw [if_pos (by omega), if_pos (by omega)], by rw [if_neg (by omega)]⟩ | exact ⟨by rw [if_pos (by omega), if_neg (by omega)]; omega, by rw [if_pos (by omega)]⟩
    · refine g_bipush X dX9_mountain_25 (by decide +kernel) ?_
      rw [hQ]
      refine g_iret X hr hlk dX9_mountain_27 ?_
      first | exact ⟨by rw [if_neg (by omega)], by rw [if_neg (by omega)]⟩ | exact ⟨by rw [if_pos (by omega), if_pos (by omega)], by rw [if_neg (by omega)]⟩ | exact ⟨by rw [if_pos (by omega), if_neg (by omega)]; omega, by rw [if_pos (by omega)]⟩
  · have q7 := b2i_f q7
    refine g_bipush X dX9_mountain_10 (by decide +kernel) ?_
    rw [hQ]
    refine g_iret X hr hlk dX9_mountain_12 ?_
    first | exact ⟨by rw [if_neg (by omega)], by rw [if_neg (by omega)]⟩ | exact ⟨by rw [if_pos (by omega), if_pos (by omega)], by rw [if_neg (by omega)]⟩ | exact ⟨by rw [if_pos (by omega), if_neg (by omega)]; omega, by rw [if_pos (by omega)]⟩
set_option maxRecDepth 100000 in
set_option maxHeartbeats 4000000 in
theorem c_X9_picture (lL : Launch) (tT : TT) (dD : va_G) (al : Int → Nat) (M : Mem) (kind hand year span lamp pig : Int) (hV : IV M) (ikind : i32 kind) (ihand : i32 hand) (iyear : i32 year) (ispan : i32 span) (ilamp : i32 lamp) (ipig : i32 pig) : CI lL yX9_picture cX9_picture 7 FieldType.int 2 50 tT dD al [.ref (al 0), .int (iN kind), .int (iN hand), .int (iN year), .int (iN span), .int (iN lamp), .int (iN pig)] M (fun r M' => r = (if b2i (picRng kind hand year span) = 1 then (if b2i (picUnk M lamp pig) = 1 then (if M 114 23 = 16 then -104 else M 114 23) else -101) else -102) ∧ M' = (if b2i (picRng kind hand year span ∧ picUnk M lamp pig ∧ M 114 23 ≠ 16) = 1 then hgX M kind hand year span lamp pig else M)) := by
  refine CI.of (own := "RedSkies") (ls0 := [some (.ref (al 0)), some (.int (iN kind)), some (.int (iN hand)), some (.int (iN year)), some (.int (iN span)), some (.int (iN lamp)), some (.int (iN pig))]) (by decide +kernel) rfl (Nat.le_of_ble_eq_true rfl) rfl ?_
  intro pP eE sS mI aA bB mM cC X hr hlk
  obtain ⟨Q, hQ⟩ : ∃ Q : State → Prop, Q = MQ bB (QI tT dD al (fun r M' => r = (if b2i (picRng kind hand year span) = 1 then (if b2i (picUnk M lamp pig) = 1 then (if M 114 23 = 16 then -104 else M 114 23) else -101) else -102) ∧ M' = (if b2i (picRng kind hand year span ∧ picUnk M lamp pig ∧ M 114 23 ≠ 16) = 1 then hgX M kind hand year span lamp pig else M))) aA sS 0 0 (fA al) := ⟨_, rfl⟩
  rw [← hQ]
  have hW := hV.w
  have w2 := hW.n
  have n1 := hV.hn
  have w3 := hW.mea
  have w4 := hW.pig
  have w5 := hW.lam
  have w6 := hW.law
  have k1 := hV.la
  have k2 := hV.pi
  have k3 := hV.me
  have k4 := hV.lw
  refine g_iload_n X dX9_picture_0 rfl rfl ?_
  refine g_iconst X dX9_picture_1 ?_
  refine g_callSI X (c_X9_isWithin lL tT dD al _ _ _ ⟨by omega, by omega⟩ (by decide)) lk_RX9_126 rfl rfl ⟨by decide, by decide⟩ rfl (Nat.le_of_ble_eq_true rfl) dX9_picture_2 (fun r2 M2 hc2 => ?_)
  obtain ⟨hr2, hm2⟩ := hc2
  subst r2
  subst M2
  refine g_if_eq (tgt := 16) X dX9_picture_5 (by decide) (b2i_i32 _) (fun q5 => ?_) (fun q5 => ?_)
  · have q5 := b2i_f q5
    refine g_bipush X dX9_picture_16 (by decide +kernel) ?_
    rw [hQ]
    refine g_iret X hr hlk dX9_picture_18 ?_
    have pR : picRng kind hand year span ↔ ((0 ≤ kind ∧ kind ≤ 4) ∧ (0 ≤ hand ∧ hand ≤ 4) ∧ (0 ≤ year ∧ year ≤ 400) ∧ (0 ≤ span ∧ span ≤ 20)) := Iff.rfl
    have pU : picUnk M lamp pig ↔ ((-1 ≤ lamp ∧ lamp ≤ M 114 13 - 1) ∧ (-1 ≤ pig ∧ pig ≤ M 114 20 - 1)) := Iff.rfl
    have n16 : M 24 5 < 16 ↔ M 114 23 ≠ 16 := by omega
    first | (have nR : ¬ picRng kind hand year span := (by rw [pR]; omega); exact ⟨by rw [← b2i_0 nR]; rfl, by rw [← b2i_0 (fun z => nR z.1)]; rfl⟩) | (have yR : picRng kind hand year span := (by rw [pR]; omega); have nU : ¬ picUnk M lamp pig := (by rw [pU]; omega); exact ⟨by rw [← b2i_1 yR, if_pos rfl, ← b2i_0 nU]; rfl, by rw [← b2i_0 (fun z => nU z.2.1)]; rfl⟩) | (have yR : picRng kind hand year span := (by rw [pR]; omega); have yU : picUnk M lamp pig := (by rw [pU]; omega); rw [← b2i_1 yR, if_pos rfl, ← b2i_1 yU, if_pos rfl]; refine ⟨by rw [n1.1]; by_cases z : M 114 23 = 16; (rw [if_neg (by omega), if_pos z]); (rw [if_pos (by omega), if_neg z]), ?_⟩; rw [hc91]; by_cases z : M 114 23 = 16; (rw [if_neg (by omega), ← b2i_0 (fun w => w.2.2 z)]; rfl); (rw [if_pos (by omega), ← b2i_1 ⟨yR, yU, z⟩]; rfl))
  · have q5 := b2i_t q5
    refine g_iload_n X dX9_picture_8 rfl rfl ?_
    refine g_iconst X dX9_picture_9 ?_
    refine g_callSI X (c_X9_isWithin lL tT dD al _ _ _ ⟨by omega, by omega⟩ (by decide)) lk_RX9_126 rfl rfl ⟨by decide, by decide⟩ rfl (Nat.le_of_ble_eq_true rfl) dX9_picture_10 (fun r10 M10 hc10 => ?_)
    obtain ⟨hr10, hm10⟩ := hc10
    subst r10
    subst M10
    refine g_if_ne (tgt := 19) X dX9_picture_13 (by decide) (b2i_i32 _) (fun q13 => ?_) (fun q13 => ?_)
    · have q13 := b2i_t q13
      refine g_iload_n X dX9_picture_19 rfl rfl ?_
      refine g_sipush X dX9_picture_20 (by decide +kernel) ?_
      refine g_callSI X (c_X9_isWithin lL tT dD al _ _ _ ⟨by omega, by omega⟩ (by decide)) lk_RX9_126 rfl rfl ⟨by decide, by decide⟩ rfl (Nat.le_of_ble_eq_true rfl) dX9_picture_23 (fun r23 M23 hc23 => ?_)
      obtain ⟨hr23, hm23⟩ := hc23
      subst r23
      subst M23
      refine g_if_eq (tgt := 39) X dX9_picture_26 (by decide) (b2i_i32 _) (fun q26 => ?_) (fun q26 => ?_)
      · have q26 := b2i_f q26
        refine g_bipush X dX9_picture_39 (by decide +kernel) ?_
        rw [hQ]
        refine g_iret X hr hlk dX9_picture_41 ?_
        have pR : picRng kind hand year span ↔ ((0 ≤ kind ∧ kind ≤ 4) ∧ (0 ≤ hand ∧ hand ≤ 4) ∧ (0 ≤ year ∧ year ≤ 400) ∧ (0 ≤ span ∧ span ≤ 20)) := Iff.rfl
        have pU : picUnk M lamp pig ↔ ((-1 ≤ lamp ∧ lamp ≤ M 114 13 - 1) ∧ (-1 ≤ pig ∧ pig ≤ M 114 20 - 1)) := Iff.rfl
        have n16 : M 24 5 < 16 ↔ M 114 23 ≠ 16 := by omega
        first | (have nR : ¬ picRng kind hand year span := (by rw [pR]; omega); exact ⟨by rw [← b2i_0 nR]; rfl, by rw [← b2i_0 (fun z => nR z.1)]; rfl⟩) | (have yR : picRng kind hand year span := (by rw [pR]; omega); have nU : ¬ picUnk M lamp pig := (by rw [pU]; omega); exact ⟨by rw [← b2i_1 yR, if_pos rfl, ← b2i_0 nU]; rfl, by rw [← b2i_0 (fun z => nU z.2.1)]; rfl⟩) | (have yR : picRng kind hand year span := (by rw [pR]; omega); have yU : picUnk M lamp pig := (by rw [pU]; omega); rw [← b2i_1 yR, if_pos rfl, ← b2i_1 yU, if_pos rfl]; refine ⟨by rw [n1.1]; by_cases z : M 114 23 = 16; (rw [if_neg (by omega), if_pos z]); (rw [if_pos (by omega), if_neg z]), ?_⟩; rw [hc91]; by_cases z : M 114 23 = 16; (rw [if_neg (by omega), ← b2i_0 (fun w => w.2.2 z)]; rfl); (rw [if_pos (by omega), ← b2i_1 ⟨yR, yU, z⟩]; rfl))
      · have q26 := b2i_t q26
        refine g_iload X dX9_picture_29 rfl ?_
        refine g_bipush X dX9_picture_31 (by decide +kernel) ?_
        refine g_callSI X (c_X9_isWithin lL tT dD al _ _ _ ⟨by omega, by omega⟩ (by decide)) lk_RX9_126 rfl rfl ⟨by decide, by decide⟩ rfl (Nat.le_of_ble_eq_true rfl) dX9_picture_33 (fun r33 M33 hc33 => ?_)
        obtain ⟨hr33, hm33⟩ := hc33
        subst r33
        subst M33
        refine g_if_ne (tgt := 42) X dX9_picture_36 (by decide) (b2i_i32 _) (fun q36 => ?_) (fun q36 => ?_)
        · have q36 := b2i_t q36
          refine g_iload X dX9_picture_42 rfl ?_
          refine g_iconst X dX9_picture_44 ?_
          refine g_icmp_eq (tgt := 60) X dX9_picture_45 (by decide) ⟨by omega, by omega⟩ (by decide) (fun q45 => ?_) (fun q45 => ?_)
          · refine g_iload X dX9_picture_60 rfl ?_
            refine g_iconst X dX9_picture_62 ?_
            refine g_icmp_eq (tgt := 78) X dX9_picture_63 (by decide) ⟨by omega, by omega⟩ (by decide) (fun q63 => ?_) (fun q63 => ?_)
            · refine g_aload_n X dX9_picture_78 rfl rfl ?_
              refine g_getr (r := 24) X kd_0 fc8 (k := 9) (by decide) rfl wd_312 rfl (by decide) dX9_picture_79 ?_
              refine g_iload_n X dX9_picture_82 rfl rfl ?_
              refine g_iload_n X dX9_picture_83 rfl rfl ?_
              refine g_iload_n X dX9_picture_84 rfl rfl ?_
              refine g_iload X dX9_picture_85 rfl ?_
              refine g_iload X dX9_picture_87 rfl ?_
              refine g_iload X dX9_picture_89 rfl ?_
              refine g_callVI X (c_X8_hang lL tT dD al _ _ _ _ _ _ _ (by omega) (by omega)) kd_24 fc7 lk_RX9_140 rfl rfl ⟨by decide, by decide⟩ rfl (Nat.le_of_ble_eq_true rfl) dX9_picture_91 (fun r91 M91 hc91 => ?_)
              obtain ⟨hr91, hc91⟩ := hc91
              subst r91
              rw [hQ]
              refine g_iret X hr hlk dX9_picture_94 ?_
              have pR : picRng kind hand year span ↔ ((0 ≤ kind ∧ kind ≤ 4) ∧ (0 ≤ hand ∧ hand ≤ 4) ∧ (0 ≤ year ∧ year ≤ 400) ∧ (0 ≤ span ∧ span ≤ 20)) := Iff.rfl
              have pU : picUnk M lamp pig ↔ ((-1 ≤ lamp ∧ lamp ≤ M 114 13 - 1) ∧ (-1 ≤ pig ∧ pig ≤ M 114 20 - 1)) := Iff.rfl
              have n16 : M 24 5 < 16 ↔ M 114 23 ≠ 16 := by omega
              first | (have nR : ¬ picRng kind hand year span := (by rw [pR]; omega); exact ⟨by rw [← b2i_0 nR]; rfl, by rw [← b2i_0 (fun z => nR z.1)]; rfl⟩) | (have yR : picRng kind hand year span := (by rw [pR]; omega); have nU : ¬ picUnk M lamp pig := (by rw [pU]; omega); exact ⟨by rw [← b2i_1 yR, if_pos rfl, ← b2i_0 nU]; rfl, by rw [← b2i_0 (fun z => nU z.2.1)]; rfl⟩) | (have yR : picRng kind hand year span := (by rw [pR]; omega); have yU : picUnk M lamp pig := (by rw [pU]; omega); rw [← b2i_1 yR, if_pos rfl, ← b2i_1 yU, if_pos rfl]; refine ⟨by rw [n1.1]; by_cases z : M 114 23 = 16; (rw [if_neg (by omega), if_pos z]); (rw [if_pos (by omega), if_neg z]), ?_⟩; rw [hc91]; by_cases z : M 114 23 = 16; (rw [if_neg (by omega), ← b2i_0 (fun w => w.2.2 z)]; rfl); (rw [if_pos (by omega), ← b2i_1 ⟨yR, yU, z⟩]; rfl))
            · refine g_aload_n X dX9_picture_66 rfl rfl ?_
              refine g_iload X dX9_picture_67 rfl ?_
              refine g_callVI X (c_X9_isPigment lL tT dD al _ _ ipig ⟨by omega, by omega⟩) kd_0 fc8 lk_RX9_137 rfl rfl ⟨by decide, by decide⟩ rfl (Nat.le_of_ble_eq_true rfl) dX9_picture_69 (fun r69 M69 hc69 => ?_)
              obtain ⟨hr69, hm69⟩ := hc69
              subst r69
              subst M69
              refine g_if_ne (tgt := 78) X dX9_picture_72 (by decide) (b2i_i32 _) (fun q72 => ?_) (fun q72 => ?_)
              · have q72 := b2i_t q72
                refine g_aload_n X dX9_picture_78 rfl rfl ?_
                refine g_getr (r := 24) X kd_0 fc8 (k := 9) (by decide) rfl wd_312 rfl (by decide) dX9_picture_79 ?_
                refine g_iload_n X dX9_picture_82 rfl rfl ?_
                refine g_iload_n X dX9_picture_83 rfl rfl ?_
                refine g_iload_n X dX9_picture_84 rfl rfl ?_
                refine g_iload X dX9_picture_85 rfl ?_
                refine g_iload X dX9_picture_87 rfl ?_
                refine g_iload X dX9_picture_89 rfl ?_
                refine g_callVI X (c_X8_hang lL tT dD al _ _ _ _ _ _ _ (by omega) (by omega)) kd_24 fc7 lk_RX9_140 rfl rfl ⟨by decide, by decide⟩ rfl (Nat.le_of_ble_eq_true rfl) dX9_picture_91 (fun r91 M91 hc91 => ?_)
                obtain ⟨hr91, hc91⟩ := hc91
                subst r91
                rw [hQ]
                refine g_iret X hr hlk dX9_picture_94 ?_
                have pR : picRng kind hand year span ↔ ((0 ≤ kind ∧ kind ≤ 4) ∧ (0 ≤ hand ∧ hand ≤ 4) ∧ (0 ≤ year ∧ year ≤ 400) ∧ (0 ≤ span ∧ span ≤ 20)) := Iff.rfl
                have pU : picUnk M lamp pig ↔ ((-1 ≤ lamp ∧ lamp ≤ M 114 13 - 1) ∧ (-1 ≤ pig ∧ pig ≤ M 114 20 - 1)) := Iff.rfl
                have n16 : M 24 5 < 16 ↔ M 114 23 ≠ 16 := by omega
                first | (have nR : ¬ picRng kind hand year span := (by rw [pR]; omega); exact ⟨by rw [← b2i_0 nR]; rfl, by rw [← b2i_0 (fun z => nR z.1)]; rfl⟩) | (have yR : picRng kind hand year span := (by rw [pR]; omega); have nU : ¬ picUnk M lamp pig := (by rw [pU]; omega); exact ⟨by rw [← b2i_1 yR, if_pos rfl, ← b2i_0 nU]; rfl, by rw [← b2i_0 (fun z => nU z.2.1)]; rfl⟩) | (have yR : picRng kind hand year span := (by rw [pR]; omega); have yU : picUnk M lamp pig := (by rw [pU]; omega); rw [← b2i_1 yR, if_pos rfl, ← b2i_1 yU, if_pos rfl]; refine ⟨by rw [n1.1]; by_cases z : M 114 23 = 16; (rw [if_neg (by omega), if_pos z]); (rw [if_pos (by omega), if_neg z]), ?_⟩; rw [hc91]; by_cases z : M 114 23 = 16; (rw [if_neg (by omega), ← b2i_0 (fun w => w.2.2 z)]; rfl); (rw [if_pos (by omega), ← b2i_1 ⟨yR, yU, z⟩]; rfl))
              · have q72 := b2i_f q72
                refine g_bipush X dX9_picture_75 (by decide +kernel) ?_
                rw [hQ]
                refine g_iret X hr hlk dX9_picture_77 ?_
                have pR : picRng kind hand year span ↔ ((0 ≤ kind ∧ kind ≤ 4) ∧ (0 ≤ hand ∧ hand ≤ 4) ∧ (0 ≤ year ∧ year ≤ 400) ∧ (0 ≤ span ∧ span ≤ 20)) := Iff.rfl
                have pU : picUnk M lamp pig ↔ ((-1 ≤ lamp ∧ lamp ≤ M 114 13 - 1) ∧ (-1 ≤ pig ∧ pig ≤ M 114 20 - 1)) := Iff.rfl
                have n16 : M 24 5 < 16 ↔ M 114 23 ≠ 16 := by omega
                first | (have nR : ¬ picRng kind hand year span := (by rw [pR]; omega); exact ⟨by rw [← b2i_0 nR]; rfl, by rw [← b2i_0 (fun z => nR z.1)]; rfl⟩) | (have yR : picRng kind hand year span := (by rw [pR]; omega); have nU : ¬ picUnk M lamp pig := (by rw [pU]; omega); exact ⟨by rw [← b2i_1 yR, if_pos rfl, ← b2i_0 nU]; rfl, by rw [← b2i_0 (fun z => nU z.2.1)]; rfl⟩) | (have yR : picRng kind hand year span := (by rw [pR]; omega); have yU : picUnk M lamp pig := (by rw [pU]; omega); rw [← b2i_1 yR, if_pos rfl, ← b2i_1 yU, if_pos rfl]; refine ⟨by rw [n1.1]; by_cases z : M 114 23 = 16; (rw [if_neg (by omega), if_pos z]); (rw [if_pos (by omega), if_neg z]), ?_⟩; rw [hc91]; by_cases z : M 114 23 = 16; (rw [if_neg (by omega), ← b2i_0 (fun w => w.2.2 z)]; rfl); (rw [if_pos (by omega), ← b2i_1 ⟨yR, yU, z⟩]; rfl))
          · refine g_aload_n X dX9_picture_48 rfl rfl ?_
            refine g_iload X dX9_picture_49 rfl ?_
            refine g_callVI X (c_X9_isLamp lL tT dD al _ _ ilamp ⟨by omega, by omega⟩) kd_0 fc8 lk_RX9_133 rfl rfl ⟨by decide, by decide⟩ rfl (Nat.le_of_ble_eq_true rfl) dX9_picture_51 (fun r51 M51 hc51 => ?_)
            obtain ⟨hr51, hm51⟩ := hc51
            subst r51
            subst M51
            refine g_if_ne (tgt := 60) X dX9_picture_54 (by decide) (b2i_i32 _) (fun q54 => ?_) (fun q54 => ?_)
            · have q54 := b2i_t q54
              refine g_iload X dX9_picture_60 rfl ?_
              refine g_iconst X dX9_picture_62 ?_
              refine g_icmp_eq (tgt := 78) X dX9_picture_63 (by decide) ⟨by omega, by omega⟩ (by decide) (fun q63 => ?_) (fun q63 => ?_)
              · refine g_aload_n X dX9_picture_78 rfl rfl ?_
                refine g_getr (r := 24) X kd_0 fc8 (k := 9) (by decide) rfl wd_312 rfl (by decide) dX9_picture_79 ?_
                refine g_iload_n X dX9_picture_82 rfl rfl ?_
                refine g_iload_n X dX9_picture_83 rfl rfl ?_
                refine g_iload_n X dX9_picture_84 rfl rfl ?_
                refine g_iload X dX9_picture_85 rfl ?_
                refine g_iload X dX9_picture_87 rfl ?_
                refine g_iload X dX9_picture_89 rfl ?_
                refine g_callVI X (c_X8_hang lL tT dD al _ _ _ _ _ _ _ (by omega) (by omega)) kd_24 fc7 lk_RX9_140 rfl rfl ⟨by decide, by decide⟩ rfl (Nat.le_of_ble_eq_true rfl) dX9_picture_91 (fun r91 M91 hc91 => ?_)
                obtain ⟨hr91, hc91⟩ := hc91
                subst r91
                rw [hQ]
                refine g_iret X hr hlk dX9_picture_94 ?_
                have pR : picRng kind hand year span ↔ ((0 ≤ kind ∧ kind ≤ 4) ∧ (0 ≤ hand ∧ hand ≤ 4) ∧ (0 ≤ year ∧ year ≤ 400) ∧ (0 ≤ span ∧ span ≤ 20)) := Iff.rfl
                have pU : picUnk M lamp pig ↔ ((-1 ≤ lamp ∧ lamp ≤ M 114 13 - 1) ∧ (-1 ≤ pig ∧ pig ≤ M 114 20 - 1)) := Iff.rfl
                have n16 : M 24 5 < 16 ↔ M 114 23 ≠ 16 := by omega
                first | (have nR : ¬ picRng kind hand year span := (by rw [pR]; omega); exact ⟨by rw [← b2i_0 nR]; rfl, by rw [← b2i_0 (fun z => nR z.1)]; rfl⟩) | (have yR : picRng kind hand year span := (by rw [pR]; omega); have nU : ¬ picUnk M lamp pig := (by rw [pU]; omega); exact ⟨by rw [← b2i_1 yR, if_pos rfl, ← b2i_0 nU]; rfl, by rw [← b2i_0 (fun z => nU z.2.1)]; rfl⟩) | (have yR : picRng kind hand year span := (by rw [pR]; omega); have yU : picUnk M lamp pig := (by rw [pU]; omega); rw [← b2i_1 yR, if_pos rfl, ← b2i_1 yU, if_pos rfl]; refine ⟨by rw [n1.1]; by_cases z : M 114 23 = 16; (rw [if_neg (by omega), if_pos z]); (rw [if_pos (by omega), if_neg z]), ?_⟩; rw [hc91]; by_cases z : M 114 23 = 16; (rw [if_neg (by omega), ← b2i_0 (fun w => w.2.2 z)]; rfl); (rw [if_pos (by omega), ← b2i_1 ⟨yR, yU, z⟩]; rfl))
              · refine g_aload_n X dX9_picture_66 rfl rfl ?_
                refine g_iload X dX9_picture_67 rfl ?_
                refine g_callVI X (c_X9_isPigment lL tT dD al _ _ ipig ⟨by omega, by omega⟩) kd_0 fc8 lk_RX9_137 rfl rfl ⟨by decide, by decide⟩ rfl (Nat.le_of_ble_eq_true rfl) dX9_picture_69 (fun r69 M69 hc69 => ?_)
                obtain ⟨hr69, hm69⟩ := hc69
                subst r69
                subst M69
                refine g_if_ne (tgt := 78) X dX9_picture_72 (by decide) (b2i_i32 _) (fun q72 => ?_) (fun q72 => ?_)
                · have q72 := b2i_t q72
                  refine g_aload_n X dX9_picture_78 rfl rfl ?_
                  refine g_getr (r := 24) X kd_0 fc8 (k := 9) (by decide) rfl wd_312 rfl (by decide) dX9_picture_79 ?_
                  refine g_iload_n X dX9_picture_82 rfl rfl ?_
                  refine g_iload_n X dX9_picture_83 rfl rfl ?_
                  refine g_iload_n X dX9_picture_84 rfl rfl ?_
                  refine g_iload X dX9_picture_85 rfl ?_
                  refine g_iload X dX9_picture_87 rfl ?_
                  refine g_iload X dX9_picture_89 rfl ?_
                  refine g_callVI X (c_X8_hang lL tT dD al _ _ _ _ _ _ _ (by omega) (by omega)) kd_24 fc7 lk_RX9_140 rfl rfl ⟨by decide, by decide⟩ rfl (Nat.le_of_ble_eq_true rfl) dX9_picture_91 (fun r91 M91 hc91 => ?_)
                  obtain ⟨hr91, hc91⟩ := hc91
                  subst r91
                  rw [hQ]
                  refine g_iret X hr hlk dX9_picture_94 ?_
                  have pR : picRng kind hand year span ↔ ((0 ≤ kind ∧ kind ≤ 4) ∧ (0 ≤ hand ∧ hand ≤ 4) ∧ (0 ≤ year ∧ year ≤ 400) ∧ (0 ≤ span ∧ span ≤ 20)) := Iff.rfl
                  have pU : picUnk M lamp pig ↔ ((-1 ≤ lamp ∧ lamp ≤ M 114 13 - 1) ∧ (-1 ≤ pig ∧ pig ≤ M 114 20 - 1)) := Iff.rfl
                  have n16 : M 24 5 < 16 ↔ M 114 23 ≠ 16 := by omega
                  first | (have nR : ¬ picRng kind hand year span := (by rw [pR]; omega); exact ⟨by rw [← b2i_0 nR]; rfl, by rw [← b2i_0 (fun z => nR z.1)]; rfl⟩) | (have yR : picRng kind hand year span := (by rw [pR]; omega); have nU : ¬ picUnk M lamp pig := (by rw [pU]; omega); exact ⟨by rw [← b2i_1 yR, if_pos rfl, ← b2i_0 nU]; rfl, by rw [← b2i_0 (fun z => nU z.2.1)]; rfl⟩) | (have yR : picRng kind hand year span := (by rw [pR]; omega); have yU : picUnk M lamp pig := (by rw [pU]; omega); rw [← b2i_1 yR, if_pos rfl, ← b2i_1 yU, if_pos rfl]; refine ⟨by rw [n1.1]; by_cases z : M 114 23 = 16; (rw [if_neg (by omega), if_pos z]); (rw [if_pos (by omega), if_neg z]), ?_⟩; rw [hc91]; by_cases z : M 114 23 = 16; (rw [if_neg (by omega), ← b2i_0 (fun w => w.2.2 z)]; rfl); (rw [if_pos (by omega), ← b2i_1 ⟨yR, yU, z⟩]; rfl))
                · have q72 := b2i_f q72
                  refine g_bipush X dX9_picture_75 (by decide +kernel) ?_
                  rw [hQ]
                  refine g_iret X hr hlk dX9_picture_77 ?_
                  have pR : picRng kind hand year span ↔ ((0 ≤ kind ∧ kind ≤ 4) ∧ (0 ≤ hand ∧ hand ≤ 4) ∧ (0 ≤ year ∧ year ≤ 400) ∧ (0 ≤ span ∧ span ≤ 20)) := Iff.rfl
                  have pU : picUnk M lamp pig ↔ ((-1 ≤ lamp ∧ lamp ≤ M 114 13 - 1) ∧ (-1 ≤ pig ∧ pig ≤ M 114 20 - 1)) := Iff.rfl
                  have n16 : M 24 5 < 16 ↔ M 114 23 ≠ 16 := by omega
                  first | (have nR : ¬ picRng kind hand year span := (by rw [pR]; omega); exact ⟨by rw [← b2i_0 nR]; rfl, by rw [← b2i_0 (fun z => nR z.1)]; rfl⟩) | (have yR : picRng kind hand year span := (by rw [pR]; omega); have nU : ¬ picUnk M lamp pig := (by rw [pU]; omega); exact ⟨by rw [← b2i_1 yR, if_pos rfl, ← b2i_0 nU]; rfl, by rw [← b2i_0 (fun z => nU z.2.1)]; rfl⟩) | (have yR : picRng kind hand year span := (by rw [pR]; omega); have yU : picUnk M lamp pig := (by rw [pU]; omega); rw [← b2i_1 yR, if_pos rfl, ← b2i_1 yU, if_pos rfl]; refine ⟨by rw [n1.1]; by_cases z : M 114 23 = 16; (rw [if_neg (by omega), if_pos z]); (rw [if_pos (by omega), if_neg z]), ?_⟩; rw [hc91]; by_cases z : M 114 23 = 16; (rw [if_neg (by omega), ← b2i_0 (fun w => w.2.2 z)]; rfl); (rw [if_pos (by omega), ← b2i_1 ⟨yR, yU, z⟩]; rfl))
            · have q54 := b2i_f q54
              refine g_bipush X dX9_picture_57 (by decide +kernel) ?_
              rw [hQ]
              refine g_iret X hr hlk dX9_picture_59 ?_
              have pR : picRng kind hand year span ↔ ((0 ≤ kind ∧ kind ≤ 4) ∧ (0 ≤ hand ∧ hand ≤ 4) ∧ (0 ≤ year ∧ year ≤ 400) ∧ (0 ≤ span ∧ span ≤ 20)) := Iff.rfl
              have pU : picUnk M lamp pig ↔ ((-1 ≤ lamp ∧ lamp ≤ M 114 13 - 1) ∧ (-1 ≤ pig ∧ pig ≤ M 114 20 - 1)) := Iff.rfl
              have n16 : M 24 5 < 16 ↔ M 114 23 ≠ 16 := by omega
              first | (have nR : ¬ picRng kind hand year span := (by rw [pR]; omega); exact ⟨by rw [← b2i_0 nR]; rfl, by rw [← b2i_0 (fun z => nR z.1)]; rfl⟩) | (have yR : picRng kind hand year span := (by rw [pR]; omega); have nU : ¬ picUnk M lamp pig := (by rw [pU]; omega); exact ⟨by rw [← b2i_1 yR, if_pos rfl, ← b2i_0 nU]; rfl, by rw [← b2i_0 (fun z => nU z.2.1)]; rfl⟩) | (have yR : picRng kind hand year span := (by rw [pR]; omega); have yU : picUnk M lamp pig := (by rw [pU]; omega); rw [← b2i_1 yR, if_pos rfl, ← b2i_1 yU, if_pos rfl]; refine ⟨by rw [n1.1]; by_cases z : M 114 23 = 16; (rw [if_neg (by omega), if_pos z]); (rw [if_pos (by omega), if_neg z]), ?_⟩; rw [hc91]; by_cases z : M 114 23 = 16; (rw [if_neg (by omega), ← b2i_0 (fun w => w.2.2 z)]; rfl); (rw [if_pos (by omega), ← b2i_1 ⟨yR, yU, z⟩]; rfl))
        · have q36 := b2i_f q36
          refine g_bipush X dX9_picture_39 (by decide +kernel) ?_
          rw [hQ]
          refine g_iret X hr hlk dX9_picture_41 ?_
          have pR : picRng kind hand year span ↔ ((0 ≤ kind ∧ kind ≤ 4) ∧ (0 ≤ hand ∧ hand ≤ 4) ∧ (0 ≤ year ∧ year ≤ 400) ∧ (0 ≤ span ∧ span ≤ 20)) := Iff.rfl
          have pU : picUnk M lamp pig ↔ ((-1 ≤ lamp ∧ lamp ≤ M 114 13 - 1) ∧ (-1 ≤ pig ∧ pig ≤ M 114 20 - 1)) := Iff.rfl
          have n16 : M 24 5 < 16 ↔ M 114 23 ≠ 16 := by omega
          first | (have nR : ¬ picRng kind hand year span := (by rw [pR]; omega); exact ⟨by rw [← b2i_0 nR]; rfl, by rw [← b2i_0 (fun z => nR z.1)]; rfl⟩) | (have yR : picRng kind hand year span := (by rw [pR]; omega); have nU : ¬ picUnk M lamp pig := (by rw [pU]; omega); exact ⟨by rw [← b2i_1 yR, if_pos rfl, ← b2i_0 nU]; rfl, by rw [← b2i_0 (fun z => nU z.2.1)]; rfl⟩) | (have yR : picRng kind hand year span := (by rw [pR]; omega); have yU : picUnk M lamp pig := (by rw [pU]; omega); rw [← b2i_1 yR, if_pos rfl, ← b2i_1 yU, if_pos rfl]; refine ⟨by rw [n1.1]; by_cases z : M 114 23 = 16; (rw [if_neg (by omega), if_pos z]); (rw [if_pos (by omega), if_neg z]), ?_⟩; rw [hc91]; by_cases z : M 114 23 = 16; (rw [if_neg (by omega), ← b2i_0 (fun w => w.2.2 z)]; rfl); (rw [if_pos (by omega), ← b2i_1 ⟨yR, yU, z⟩]; rfl))
    · have q13 := b2i_f q13
      refine g_bipush X dX9_picture_16 (by decide +kernel) ?_
      rw [hQ]
      refine g_iret X hr hlk dX9_picture_18 ?_
      have pR : picRng kind hand year span ↔ ((0 ≤ kind ∧ kind ≤ 4) ∧ (0 ≤ hand ∧ hand ≤ 4) ∧ (0 ≤ year ∧ year ≤ 400) ∧ (0 ≤ span ∧ span ≤ 20)) := Iff.rfl
      have pU : picUnk M lamp pig ↔ ((-1 ≤ lamp ∧ lamp ≤ M 114 13 - 1) ∧ (-1 ≤ pig ∧ pig ≤ M 114 20 - 1)) := Iff.rfl
      have n16 : M 24 5 < 16 ↔ M 114 23 ≠ 16 := by omega
      first | (have nR : ¬ picRng kind hand year span := (by rw [pR]; omega); exact ⟨by rw [← b2i_0 nR]; rfl, by rw [← b2i_0 (fun z => nR z.1)]; rfl⟩) | (have yR : picRng kind hand year span := (by rw [pR]; omega); have nU : ¬ picUnk M lamp pig := (by rw [pU]; omega); exact ⟨by rw [← b2i_1 yR, if_pos rfl, ← b2i_0 nU]; rfl, by rw [← b2i_0 (fun z => nU z.2.1)]; rfl⟩) | (have yR : picRng kind hand year span := (by rw [pR]; omega); have yU : picUnk M lamp pig := (by rw [pU]; omega); rw [← b2i_1 yR, if_pos rfl, ← b2i_1 yU, if_pos rfl]; refine ⟨by rw [n1.1]; by_cases z : M 114 23 = 16; (rw [if_neg (by omega), if_pos z]); (rw [if_pos (by omega), if_neg z]), ?_⟩; rw [hc91]; by_cases z : M 114 23 = 16; (rw [if_neg (by omega), ← b2i_0 (fun w => w.2.2 z)]; rfl); (rw [if_pos (by omega), ← b2i_1 ⟨yR, yU, z⟩]; rfl))
set_option maxRecDepth 100000 in
set_option maxHeartbeats 4000000 in
theorem c_X9_colour (lL : Launch) (tT : TT) (dD : va_G) (al : Int → Nat) (M : Mem) (q pt cl v : Int) (hV : IV M) (iq : i32 q) (ipt : i32 pt) (icl : i32 cl) (iv : i32 v) : CI lL yX9_colour cX9_colour 7 FieldType.int 1 21 tT dD al [.ref (al 0), .int (iN q), .int (iN pt), .int (iN cl), .int (iN v)] M (fun r M' => r = (if 0 ≤ q ∧ q < M 114 23 then (if (0 ≤ pt ∧ pt ≤ 3) ∧ (0 ≤ cl ∧ cl ≤ 2) ∧ (0 ≤ v ∧ v ≤ 99) then M 125 (12 * q + 3 * pt + cl) else -102) else -101) ∧ M' = (if ((0 ≤ q ∧ q < M 114 23) ∧ (0 ≤ pt ∧ pt ≤ 3) ∧ (0 ≤ cl ∧ cl ≤ 2) ∧ (0 ≤ v ∧ v ≤ 99)) then mu M (43 + q) (pt * 3 + cl) v else M)) := by
  refine CI.of (own := "RedSkies") (ls0 := [some (.ref (al 0)), some (.int (iN q)), some (.int (iN pt)), some (.int (iN cl)), some (.int (iN v)), none, none]) (by decide +kernel) rfl (Nat.le_of_ble_eq_true rfl) rfl ?_
  intro pP eE sS mI aA bB mM cC X hr hlk
  obtain ⟨Q, hQ⟩ : ∃ Q : State → Prop, Q = MQ bB (QI tT dD al (fun r M' => r = (if 0 ≤ q ∧ q < M 114 23 then (if (0 ≤ pt ∧ pt ≤ 3) ∧ (0 ≤ cl ∧ cl ≤ 2) ∧ (0 ≤ v ∧ v ≤ 99) then M 125 (12 * q + 3 * pt + cl) else -102) else -101) ∧ M' = (if ((0 ≤ q ∧ q < M 114 23) ∧ (0 ≤ pt ∧ pt ≤ 3) ∧ (0 ≤ cl ∧ cl ≤ 2) ∧ (0 ≤ v ∧ v ≤ 99)) then mu M (43 + q) (pt * 3 + cl) v else M))) aA sS 0 0 (fA al) := ⟨_, rfl⟩
  rw [← hQ]
  have hW := hV.w
  have w2 := hW.n
  have n1 := hV.hn
  have w3 := hW.mea
  have w4 := hW.pig
  have w5 := hW.lam
  have w6 := hW.law
  have k1 := hV.la
  have k2 := hV.pi
  have k3 := hV.me
  have k4 := hV.lw
  refine g_aload_n X dX9_colour_0 rfl rfl ?_
  refine g_getr (r := 24) X kd_0 fc8 (k := 9) (by decide) rfl wd_312 rfl (by decide) dX9_colour_1 ?_
  refine g_iload_n X dX9_colour_4 rfl rfl ?_
  refine g_callVI X (c_X8_has lL tT dD al _ _ iq ⟨by omega, by omega⟩) kd_24 fc7 lk_RX9_144 rfl rfl ⟨by decide, by decide⟩ rfl (Nat.le_of_ble_eq_true rfl) dX9_colour_5 (fun r5 M5 hc5 => ?_)
  obtain ⟨hr5, hm5⟩ := hc5
  subst r5
  subst M5
  refine g_if_ne (tgt := 14) X dX9_colour_8 (by decide) (b2i_i32 _) (fun q8 => ?_) (fun q8 => ?_)
  · have q8 := b2i_t q8
    refine g_iload_n X dX9_colour_14 rfl rfl ?_
    refine g_iconst X dX9_colour_15 ?_
    refine g_callSI X (c_X9_isWithin lL tT dD al _ _ _ ⟨by omega, by omega⟩ (by decide)) lk_RX9_126 rfl rfl ⟨by decide, by decide⟩ rfl (Nat.le_of_ble_eq_true rfl) dX9_colour_16 (fun r16 M16 hc16 => ?_)
    obtain ⟨hr16, hm16⟩ := hc16
    subst r16
    subst M16
    refine g_if_eq (tgt := 40) X dX9_colour_19 (by decide) (b2i_i32 _) (fun q19 => ?_) (fun q19 => ?_)
    · have q19 := b2i_f q19
      refine g_bipush X dX9_colour_40 (by decide +kernel) ?_
      rw [hQ]
      refine g_iret X hr hlk dX9_colour_42 ?_
      first | exact ⟨by rw [if_neg (by omega)], by rw [if_neg (by omega)]⟩ | exact ⟨by rw [if_pos (by omega), if_neg (by omega)], by rw [if_neg (by omega)]⟩ | exact ⟨by rw [if_pos (by omega), if_pos (by omega)], by rw [if_pos (by omega)]⟩
    · have q19 := b2i_t q19
      refine g_iload_n X dX9_colour_22 rfl rfl ?_
      refine g_iconst X dX9_colour_23 ?_
      refine g_callSI X (c_X9_isWithin lL tT dD al _ _ _ ⟨by omega, by omega⟩ (by decide)) lk_RX9_126 rfl rfl ⟨by decide, by decide⟩ rfl (Nat.le_of_ble_eq_true rfl) dX9_colour_24 (fun r24 M24 hc24 => ?_)
      obtain ⟨hr24, hm24⟩ := hc24
      subst r24
      subst M24
      refine g_if_eq (tgt := 40) X dX9_colour_27 (by decide) (b2i_i32 _) (fun q27 => ?_) (fun q27 => ?_)
      · have q27 := b2i_f q27
        refine g_bipush X dX9_colour_40 (by decide +kernel) ?_
        rw [hQ]
        refine g_iret X hr hlk dX9_colour_42 ?_
        first | exact ⟨by rw [if_neg (by omega)], by rw [if_neg (by omega)]⟩ | exact ⟨by rw [if_pos (by omega), if_neg (by omega)], by rw [if_neg (by omega)]⟩ | exact ⟨by rw [if_pos (by omega), if_pos (by omega)], by rw [if_pos (by omega)]⟩
      · have q27 := b2i_t q27
        refine g_iload X dX9_colour_30 rfl ?_
        refine g_bipush X dX9_colour_32 (by decide +kernel) ?_
        refine g_callSI X (c_X9_isWithin lL tT dD al _ _ _ ⟨by omega, by omega⟩ (by decide)) lk_RX9_126 rfl rfl ⟨by decide, by decide⟩ rfl (Nat.le_of_ble_eq_true rfl) dX9_colour_34 (fun r34 M34 hc34 => ?_)
        obtain ⟨hr34, hm34⟩ := hc34
        subst r34
        subst M34
        refine g_if_ne (tgt := 43) X dX9_colour_37 (by decide) (b2i_i32 _) (fun q37 => ?_) (fun q37 => ?_)
        · have q37 := b2i_t q37
          refine g_iload_n X dX9_colour_43 rfl rfl ?_
          refine g_iconst X dX9_colour_44 ?_
          refine g_imul X dX9_colour_45 ?_
          refine g_iload_n X dX9_colour_46 rfl rfl ?_
          refine g_iadd X dX9_colour_47 ?_
          refine g_istore_5 X dX9_colour_48 rfl (fun v5_48 ev5_48 => ?_)
          subst v5_48
          refine g_aload_n X dX9_colour_50 rfl rfl ?_
          refine g_getr (r := 24) X kd_0 fc8 (k := 9) (by decide) rfl wd_312 rfl (by decide) dX9_colour_51 ?_
          refine g_getr (r := 42) X kd_24 fc7 (k := 1) (by decide) rfl wd_220 rfl (by decide) dX9_colour_54 ?_
          refine g_iload_n X dX9_colour_57 rfl rfl ?_
          have b0_58_32 : 0 ≤ q := by omega
          have b1_58_32 : q < 16 := by omega
          refine g_aald X kd_42 (bz := 43) rfl b0_58_32 b1_58_32 dX9_colour_58 ?_
          have kr_58_32 := kr_43 b0_58_32 b1_58_32
          refine g_iload X dX9_colour_59 rfl ?_
          refine g_iald X kr_58_32 (by omega) (by omega) dX9_colour_61 ?_
          refine g_teq (b := M 125 (12 * q + 3 * pt + cl)) (by rw [hV.se (by omega) (by omega) (by omega) (by omega)]; congr 1; omega) ?_
          refine g_istore_6 X dX9_colour_62 rfl (fun v6_62 ev6_62 => ?_)
          subst v6_62
          refine g_aload_n X dX9_colour_64 rfl rfl ?_
          refine g_getr (r := 24) X kd_0 fc8 (k := 9) (by decide) rfl wd_312 rfl (by decide) dX9_colour_65 ?_
          refine g_getr (r := 42) X kd_24 fc7 (k := 1) (by decide) rfl wd_220 rfl (by decide) dX9_colour_68 ?_
          refine g_iload_n X dX9_colour_71 rfl rfl ?_
          have b0_72_40 : 0 ≤ q := by omega
          have b1_72_40 : q < 16 := by omega
          refine g_aald X kd_42 (bz := 43) rfl b0_72_40 b1_72_40 dX9_colour_72 ?_
          have kr_72_40 := kr_43 b0_72_40 b1_72_40
          refine g_iload X dX9_colour_73 rfl ?_
          refine g_iload X dX9_colour_75 rfl ?_
          refine g_iast X kr_72_40 (by omega) (by omega) dX9_colour_77 ?_
          refine g_iload X dX9_colour_78 rfl ?_
          rw [hQ]
          refine g_iret X hr hlk dX9_colour_80 ?_
          first | exact ⟨by rw [if_neg (by omega)], by rw [if_neg (by omega)]⟩ | exact ⟨by rw [if_pos (by omega), if_neg (by omega)], by rw [if_neg (by omega)]⟩ | exact ⟨by rw [if_pos (by omega), if_pos (by omega)], by rw [if_pos (by omega)]⟩
        · have q37 := b2i_f q37
          refine g_bipush X dX9_colour_40 (by decide +kernel) ?_
          rw [hQ]
          refine g_iret X hr hlk dX9_colour_42 ?_
          first | exact ⟨by rw [if_neg (by omega)], by rw [if_neg (by omega)]⟩ | exact ⟨by rw [if_pos (by omega), if_neg (by omega)], by rw [if_neg (by omega)]⟩ | exact ⟨by rw [if_pos (by omega), if_pos (by omega)], by rw [if_pos (by omega)]⟩
  · have q8 := b2i_f q8
    refine g_bipush X dX9_colour_11 (by decide +kernel) ?_
    rw [hQ]
    refine g_iret X hr hlk dX9_colour_13 ?_
    first | exact ⟨by rw [if_neg (by omega)], by rw [if_neg (by omega)]⟩ | exact ⟨by rw [if_pos (by omega), if_neg (by omega)], by rw [if_neg (by omega)]⟩ | exact ⟨by rw [if_pos (by omega), if_pos (by omega)], by rw [if_pos (by omega)]⟩
set_option maxRecDepth 100000 in
set_option maxHeartbeats 4000000 in
theorem c_X9_as (lL : Launch) (tT : TT) (dD : va_G) (al : Int → Nat) (M : Mem) (q k : Int) (hV : IV M) (iq : i32 q) (ik : i32 k) : CI lL yX9_as cX9_as 3 FieldType.int 1 21 tT dD al [.ref (al 0), .int (iN q), .int (iN k)] M (fun r M' => r = (if 0 ≤ q ∧ q < M 114 23 then (if 0 ≤ k ∧ k ≤ 4 then (if k = 0 ∨ k = M 124 (6 * q) ∨ (k = 1 ∧ M 124 (6 * q) = 2) then q else -1) else -102) else -101) ∧ M' = M) := by
  refine CI.of (own := "RedSkies") (ls0 := [some (.ref (al 0)), some (.int (iN q)), some (.int (iN k))]) (by decide +kernel) rfl (Nat.le_of_ble_eq_true rfl) rfl ?_
  intro pP eE sS mI aA bB mM cC X hr hlk
  obtain ⟨Q, hQ⟩ : ∃ Q : State → Prop, Q = MQ bB (QI tT dD al (fun r M' => r = (if 0 ≤ q ∧ q < M 114 23 then (if 0 ≤ k ∧ k ≤ 4 then (if k = 0 ∨ k = M 124 (6 * q) ∨ (k = 1 ∧ M 124 (6 * q) = 2) then q else -1) else -102) else -101) ∧ M' = M)) aA sS 0 0 (fA al) := ⟨_, rfl⟩
  rw [← hQ]
  have hW := hV.w
  have w2 := hW.n
  have n1 := hV.hn
  have w3 := hW.mea
  have w4 := hW.pig
  have w5 := hW.lam
  have w6 := hW.law
  have k1 := hV.la
  have k2 := hV.pi
  have k3 := hV.me
  have k4 := hV.lw
  refine g_aload_n X dX9_as_0 rfl rfl ?_
  refine g_getr (r := 24) X kd_0 fc8 (k := 9) (by decide) rfl wd_312 rfl (by decide) dX9_as_1 ?_
  refine g_iload_n X dX9_as_4 rfl rfl ?_
  refine g_callVI X (c_X8_has lL tT dD al _ _ iq ⟨by omega, by omega⟩) kd_24 fc7 lk_RX9_144 rfl rfl ⟨by decide, by decide⟩ rfl (Nat.le_of_ble_eq_true rfl) dX9_as_5 (fun r5 M5 hc5 => ?_)
  obtain ⟨hr5, hm5⟩ := hc5
  subst r5
  subst M5
  refine g_if_ne (tgt := 14) X dX9_as_8 (by decide) (b2i_i32 _) (fun q8 => ?_) (fun q8 => ?_)
  · have q8 := b2i_t q8
    refine g_iload_n X dX9_as_14 rfl rfl ?_
    refine g_iconst X dX9_as_15 ?_
    refine g_callSI X (c_X9_isWithin lL tT dD al _ _ _ ⟨by omega, by omega⟩ (by decide)) lk_RX9_126 rfl rfl ⟨by decide, by decide⟩ rfl (Nat.le_of_ble_eq_true rfl) dX9_as_16 (fun r16 M16 hc16 => ?_)
    obtain ⟨hr16, hm16⟩ := hc16
    subst r16
    subst M16
    refine g_if_ne (tgt := 25) X dX9_as_19 (by decide) (b2i_i32 _) (fun q19 => ?_) (fun q19 => ?_)
    · have q19 := b2i_t q19
      refine g_aload_n X dX9_as_25 rfl rfl ?_
      refine g_getr (r := 24) X kd_0 fc8 (k := 9) (by decide) rfl wd_312 rfl (by decide) dX9_as_26 ?_
      refine g_getr (r := 25) X kd_24 fc7 (k := 0) (by decide) rfl wd_217 rfl (by decide) dX9_as_29 ?_
      refine g_iload_n X dX9_as_32 rfl rfl ?_
      have b0_33_14 : 0 ≤ q := by omega
      have b1_33_14 : q < 16 := by omega
      refine g_aald X kd_25 (bz := 26) rfl b0_33_14 b1_33_14 dX9_as_33 ?_
      have kr_33_14 := kr_26 b0_33_14 b1_33_14
      refine g_iconst X dX9_as_34 ?_
      refine g_iald X kr_33_14 (by decide) (by decide) dX9_as_35 ?_
      have w1 := hW.row (p := q) (by omega) (by omega)
      refine g_teq (b := M 124 (6 * q)) (by exact hV.f0 (by omega) (by omega)) ?_
      refine g_iload_n X dX9_as_36 rfl rfl ?_
      refine g_callSI X (c_X9_isOfKind lL tT dD al _ _ _ ⟨by omega, by omega⟩ ik) lk_RX9_153 rfl rfl ⟨by decide, by decide⟩ rfl (Nat.le_of_ble_eq_true rfl) dX9_as_37 (fun r37 M37 hc37 => ?_)
      obtain ⟨hr37, hm37⟩ := hc37
      subst r37
      subst M37
      refine g_if_eq (tgt := 47) X dX9_as_40 (by decide) (b2i_i32 _) (fun q40 => ?_) (fun q40 => ?_)
      · have q40 := b2i_f q40
        refine g_iconst X dX9_as_47 ?_
        rw [hQ]
        refine g_iret X hr hlk dX9_as_48 ?_
        first | exact ⟨by rw [if_neg (by omega)], rfl⟩ | exact ⟨by rw [if_pos (by omega), if_neg (by omega)], rfl⟩ | exact ⟨by rw [if_pos (by omega), if_pos (by omega), if_pos q40], rfl⟩ | exact ⟨by rw [if_pos (by omega), if_pos (by omega), if_neg q40], rfl⟩
      · have q40 := b2i_t q40
        refine g_iload_n X dX9_as_43 rfl rfl ?_
        refine g_goto (tgt := 48) X dX9_as_44 (by decide) ?_
        rw [hQ]
        refine g_iret X hr hlk dX9_as_48 ?_
        first | exact ⟨by rw [if_neg (by omega)], rfl⟩ | exact ⟨by rw [if_pos (by omega), if_neg (by omega)], rfl⟩ | exact ⟨by rw [if_pos (by omega), if_pos (by omega), if_pos q40], rfl⟩ | exact ⟨by rw [if_pos (by omega), if_pos (by omega), if_neg q40], rfl⟩
    · have q19 := b2i_f q19
      refine g_bipush X dX9_as_22 (by decide +kernel) ?_
      rw [hQ]
      refine g_iret X hr hlk dX9_as_24 ?_
      first | exact ⟨by rw [if_neg (by omega)], rfl⟩ | exact ⟨by rw [if_pos (by omega), if_neg (by omega)], rfl⟩ | exact ⟨by rw [if_pos (by omega), if_pos (by omega), if_pos q40], rfl⟩ | exact ⟨by rw [if_pos (by omega), if_pos (by omega), if_neg q40], rfl⟩
  · have q8 := b2i_f q8
    refine g_bipush X dX9_as_11 (by decide +kernel) ?_
    rw [hQ]
    refine g_iret X hr hlk dX9_as_13 ?_
    first | exact ⟨by rw [if_neg (by omega)], rfl⟩ | exact ⟨by rw [if_pos (by omega), if_neg (by omega)], rfl⟩ | exact ⟨by rw [if_pos (by omega), if_pos (by omega), if_pos q40], rfl⟩ | exact ⟨by rw [if_pos (by omega), if_pos (by omega), if_neg q40], rfl⟩
set_option maxRecDepth 100000 in
set_option maxHeartbeats 4000000 in
theorem c_X9_about (lL : Launch) (tT : TT) (dD : va_G) (al : Int → Nat) (M : Mem) (q k : Int) (hV : IV M) (iq : i32 q) (ik : i32 k) : CI lL yX9_about cX9_about 3 FieldType.int 2 48 tT dD al [.ref (al 0), .int (iN q), .int (iN k)] M (fun r M' => r = (if 0 ≤ q ∧ q < M 114 23 then (if 0 ≤ k ∧ k ≤ 5 then M 124 (6 * q + k) else if 10 ≤ k ∧ k ≤ 21 then rgt M q (k - 10) else -102) else -101) ∧ M' = M) := by
  refine CI.of (own := "RedSkies") (ls0 := [some (.ref (al 0)), some (.int (iN q)), some (.int (iN k))]) (by decide +kernel) rfl (Nat.le_of_ble_eq_true rfl) rfl ?_
  intro pP eE sS mI aA bB mM cC X hr hlk
  obtain ⟨Q, hQ⟩ : ∃ Q : State → Prop, Q = MQ bB (QI tT dD al (fun r M' => r = (if 0 ≤ q ∧ q < M 114 23 then (if 0 ≤ k ∧ k ≤ 5 then M 124 (6 * q + k) else if 10 ≤ k ∧ k ≤ 21 then rgt M q (k - 10) else -102) else -101) ∧ M' = M)) aA sS 0 0 (fA al) := ⟨_, rfl⟩
  rw [← hQ]
  have hW := hV.w
  have w2 := hW.n
  have n1 := hV.hn
  have w3 := hW.mea
  have w4 := hW.pig
  have w5 := hW.lam
  have w6 := hW.law
  have k1 := hV.la
  have k2 := hV.pi
  have k3 := hV.me
  have k4 := hV.lw
  refine g_aload_n X dX9_about_0 rfl rfl ?_
  refine g_getr (r := 24) X kd_0 fc8 (k := 9) (by decide) rfl wd_312 rfl (by decide) dX9_about_1 ?_
  refine g_iload_n X dX9_about_4 rfl rfl ?_
  refine g_callVI X (c_X8_has lL tT dD al _ _ iq ⟨by omega, by omega⟩) kd_24 fc7 lk_RX9_144 rfl rfl ⟨by decide, by decide⟩ rfl (Nat.le_of_ble_eq_true rfl) dX9_about_5 (fun r5 M5 hc5 => ?_)
  obtain ⟨hr5, hm5⟩ := hc5
  subst r5
  subst M5
  refine g_if_ne (tgt := 14) X dX9_about_8 (by decide) (b2i_i32 _) (fun q8 => ?_) (fun q8 => ?_)
  · have q8 := b2i_t q8
    refine g_iload_n X dX9_about_14 rfl rfl ?_
    refine g_iconst X dX9_about_15 ?_
    refine g_callSI X (c_X9_isWithin lL tT dD al _ _ _ ⟨by omega, by omega⟩ (by decide)) lk_RX9_126 rfl rfl ⟨by decide, by decide⟩ rfl (Nat.le_of_ble_eq_true rfl) dX9_about_16 (fun r16 M16 hc16 => ?_)
    obtain ⟨hr16, hm16⟩ := hc16
    subst r16
    subst M16
    refine g_if_eq (tgt := 34) X dX9_about_19 (by decide) (b2i_i32 _) (fun q19 => ?_) (fun q19 => ?_)
    · have q19 := b2i_f q19
      refine g_iload_n X dX9_about_34 rfl rfl ?_
      refine g_bipush X dX9_about_35 (by decide +kernel) ?_
      refine g_icmp_lt (tgt := 46) X dX9_about_37 (by decide) ⟨by omega, by omega⟩ (by decide) (fun q37 => ?_) (fun q37 => ?_)
      · refine g_bipush X dX9_about_46 (by decide +kernel) ?_
        rw [hQ]
        refine g_iret X hr hlk dX9_about_48 ?_
        first | exact ⟨by rw [if_neg (by omega)], rfl⟩ | exact ⟨by rw [if_pos (by omega), if_pos (by omega)], rfl⟩ | exact ⟨by rw [if_pos (by omega), if_neg (by omega), if_pos (by omega)], rfl⟩ | exact ⟨by rw [if_pos (by omega), if_neg (by omega), if_neg (by omega)], rfl⟩
      · refine g_iload_n X dX9_about_40 rfl rfl ?_
        refine g_bipush X dX9_about_41 (by decide +kernel) ?_
        refine g_icmp_lt (tgt := 49) X dX9_about_43 (by decide) ⟨by omega, by omega⟩ (by decide) (fun q43 => ?_) (fun q43 => ?_)
        · refine g_aload_n X dX9_about_49 rfl rfl ?_
          refine g_iload_n X dX9_about_50 rfl rfl ?_
          refine g_iload_n X dX9_about_51 rfl rfl ?_
          refine g_bipush X dX9_about_52 (by decide +kernel) ?_
          refine g_isub X dX9_about_54 ?_
          refine g_callVI X (c_X9_putRight lL tT dD al _ _ _ hV (by omega) (by omega) (by omega) (by omega)) kd_0 fc8 lk_RX9_156 rfl rfl ⟨by decide, by decide⟩ rfl (Nat.le_of_ble_eq_true rfl) dX9_about_55 (fun r55 M55 hc55 => ?_)
          obtain ⟨hr55, hm55⟩ := hc55
          subst r55
          subst M55
          rw [hQ]
          refine g_iret X hr hlk dX9_about_58 ?_
          first | exact ⟨by rw [if_neg (by omega)], rfl⟩ | exact ⟨by rw [if_pos (by omega), if_pos (by omega)], rfl⟩ | exact ⟨by rw [if_pos (by omega), if_neg (by omega), if_pos (by omega)], rfl⟩ | exact ⟨by rw [if_pos (by omega), if_neg (by omega), if_neg (by omega)], rfl⟩
        · refine g_bipush X dX9_about_46 (by decide +kernel) ?_
          rw [hQ]
          refine g_iret X hr hlk dX9_about_48 ?_
          first | exact ⟨by rw [if_neg (by omega)], rfl⟩ | exact ⟨by rw [if_pos (by omega), if_pos (by omega)], rfl⟩ | exact ⟨by rw [if_pos (by omega), if_neg (by omega), if_pos (by omega)], rfl⟩ | exact ⟨by rw [if_pos (by omega), if_neg (by omega), if_neg (by omega)], rfl⟩
    · have q19 := b2i_t q19
      refine g_aload_n X dX9_about_22 rfl rfl ?_
      refine g_getr (r := 24) X kd_0 fc8 (k := 9) (by decide) rfl wd_312 rfl (by decide) dX9_about_23 ?_
      refine g_getr (r := 25) X kd_24 fc7 (k := 0) (by decide) rfl wd_217 rfl (by decide) dX9_about_26 ?_
      refine g_iload_n X dX9_about_29 rfl rfl ?_
      have b0_30_31 : 0 ≤ q := by omega
      have b1_30_31 : q < 16 := by omega
      refine g_aald X kd_25 (bz := 26) rfl b0_30_31 b1_30_31 dX9_about_30 ?_
      have kr_30_31 := kr_26 b0_30_31 b1_30_31
      refine g_iload_n X dX9_about_31 rfl rfl ?_
      refine g_iald X kr_30_31 (by omega) (by omega) dX9_about_32 ?_
      refine g_teq (b := M 124 (6 * q + k)) (by exact hV.fa (by omega) (by omega) (by omega) (by omega)) ?_
      rw [hQ]
      refine g_iret X hr hlk dX9_about_33 ?_
      first | exact ⟨by rw [if_neg (by omega)], rfl⟩ | exact ⟨by rw [if_pos (by omega), if_pos (by omega)], rfl⟩ | exact ⟨by rw [if_pos (by omega), if_neg (by omega), if_pos (by omega)], rfl⟩ | exact ⟨by rw [if_pos (by omega), if_neg (by omega), if_neg (by omega)], rfl⟩
  · have q8 := b2i_f q8
    refine g_bipush X dX9_about_11 (by decide +kernel) ?_
    rw [hQ]
    refine g_iret X hr hlk dX9_about_13 ?_
    first | exact ⟨by rw [if_neg (by omega)], rfl⟩ | exact ⟨by rw [if_pos (by omega), if_pos (by omega)], rfl⟩ | exact ⟨by rw [if_pos (by omega), if_neg (by omega), if_pos (by omega)], rfl⟩ | exact ⟨by rw [if_pos (by omega), if_neg (by omega), if_neg (by omega)], rfl⟩
set_option maxRecDepth 100000 in
set_option maxHeartbeats 4000000 in
theorem c_X9_value (lL : Launch) (tT : TT) (dD : va_G) (al : Int → Nat) (M : Mem) (m q : Int) (hV : IV M) (im : i32 m) (iq : i32 q) : CI lL yX9_value cX9_value 3 FieldType.int 3 75 tT dD al [.ref (al 0), .int (iN m), .int (iN q)] M (fun r M' => r = (if (0 ≤ m ∧ m < M 114 15) ∧ (0 ≤ q ∧ q < M 114 23) then vlu M m q else -101) ∧ M' = M) := by
  refine CI.of (own := "RedSkies") (ls0 := [some (.ref (al 0)), some (.int (iN m)), some (.int (iN q))]) (by decide +kernel) rfl (Nat.le_of_ble_eq_true rfl) rfl ?_
  intro pP eE sS mI aA bB mM cC X hr hlk
  obtain ⟨Q, hQ⟩ : ∃ Q : State → Prop, Q = MQ bB (QI tT dD al (fun r M' => r = (if (0 ≤ m ∧ m < M 114 15) ∧ (0 ≤ q ∧ q < M 114 23) then vlu M m q else -101) ∧ M' = M)) aA sS 0 0 (fA al) := ⟨_, rfl⟩
  rw [← hQ]
  have hW := hV.w
  have w2 := hW.n
  have n1 := hV.hn
  have w3 := hW.mea
  have w4 := hW.pig
  have w5 := hW.lam
  have w6 := hW.law
  have k1 := hV.la
  have k2 := hV.pi
  have k3 := hV.me
  have k4 := hV.lw
  refine g_aload_n X dX9_value_0 rfl rfl ?_
  refine g_iload_n X dX9_value_1 rfl rfl ?_
  refine g_callVI X (c_X9_isMeasure lL tT dD al _ _ ⟨by omega, by omega⟩ ⟨by omega, by omega⟩) kd_0 fc8 lk_RX9_160 rfl rfl ⟨by decide, by decide⟩ rfl (Nat.le_of_ble_eq_true rfl) dX9_value_2 (fun r2 M2 hc2 => ?_)
  obtain ⟨hr2, hm2⟩ := hc2
  subst r2
  subst M2
  refine g_if_eq (tgt := 19) X dX9_value_5 (by decide) (b2i_i32 _) (fun q5 => ?_) (fun q5 => ?_)
  · have q5 := b2i_f q5
    refine g_bipush X dX9_value_19 (by decide +kernel) ?_
    rw [hQ]
    refine g_iret X hr hlk dX9_value_21 ?_
    first | exact ⟨by rw [if_neg (by omega)], rfl⟩ | exact ⟨by rw [if_pos (by omega)], rfl⟩
  · have q5 := b2i_t q5
    refine g_aload_n X dX9_value_8 rfl rfl ?_
    refine g_getr (r := 24) X kd_0 fc8 (k := 9) (by decide) rfl wd_312 rfl (by decide) dX9_value_9 ?_
    refine g_iload_n X dX9_value_12 rfl rfl ?_
    refine g_callVI X (c_X8_has lL tT dD al _ _ ⟨by omega, by omega⟩ ⟨by omega, by omega⟩) kd_24 fc7 lk_RX9_144 rfl rfl ⟨by decide, by decide⟩ rfl (Nat.le_of_ble_eq_true rfl) dX9_value_13 (fun r13 M13 hc13 => ?_)
    obtain ⟨hr13, hm13⟩ := hc13
    subst r13
    subst M13
    refine g_if_ne (tgt := 22) X dX9_value_16 (by decide) (b2i_i32 _) (fun q16 => ?_) (fun q16 => ?_)
    · have q16 := b2i_t q16
      refine g_aload_n X dX9_value_22 rfl rfl ?_
      refine g_iload_n X dX9_value_23 rfl rfl ?_
      refine g_iload_n X dX9_value_24 rfl rfl ?_
      refine g_callVI X (c_X9_valueOf lL tT dD al _ _ _ hV (by omega) (by omega) (by omega) (by omega)) kd_0 fc8 lk_RX9_163 rfl rfl ⟨by decide, by decide⟩ rfl (Nat.le_of_ble_eq_true rfl) dX9_value_25 (fun r25 M25 hc25 => ?_)
      obtain ⟨hr25, hm25⟩ := hc25
      subst r25
      subst M25
      rw [hQ]
      refine g_iret X hr hlk dX9_value_28 ?_
      first | exact ⟨by rw [if_neg (by omega)], rfl⟩ | exact ⟨by rw [if_pos (by omega)], rfl⟩
    · have q16 := b2i_f q16
      refine g_bipush X dX9_value_19 (by decide +kernel) ?_
      rw [hQ]
      refine g_iret X hr hlk dX9_value_21 ?_
      first | exact ⟨by rw [if_neg (by omega)], rfl⟩ | exact ⟨by rw [if_pos (by omega)], rfl⟩
set_option maxRecDepth 100000 in
set_option maxHeartbeats 4000000 in
theorem c_X9_near (lL : Launch) (tT : TT) (dD : va_G) (al : Int → Nat) (M : Mem) (q w : Int) (hV : IV M) (iq : i32 q) (iw : i32 w) : CI lL yX9_near cX9_near 3 FieldType.int 2 47 tT dD al [.ref (al 0), .int (iN q), .int (iN w)] M (fun r M' => r = (if 0 ≤ q ∧ q < M 114 23 then (if 0 ≤ w ∧ w ≤ 9 then nrO M q w else -102) else -101) ∧ M' = M) := by
  refine CI.of (own := "RedSkies") (ls0 := [some (.ref (al 0)), some (.int (iN q)), some (.int (iN w))]) (by decide +kernel) rfl (Nat.le_of_ble_eq_true rfl) rfl ?_
  intro pP eE sS mI aA bB mM cC X hr hlk
  obtain ⟨Q, hQ⟩ : ∃ Q : State → Prop, Q = MQ bB (QI tT dD al (fun r M' => r = (if 0 ≤ q ∧ q < M 114 23 then (if 0 ≤ w ∧ w ≤ 9 then nrO M q w else -102) else -101) ∧ M' = M)) aA sS 0 0 (fA al) := ⟨_, rfl⟩
  rw [← hQ]
  have hW := hV.w
  have w2 := hW.n
  have n1 := hV.hn
  have w3 := hW.mea
  have w4 := hW.pig
  have w5 := hW.lam
  have w6 := hW.law
  have k1 := hV.la
  have k2 := hV.pi
  have k3 := hV.me
  have k4 := hV.lw
  refine g_aload_n X dX9_near_0 rfl rfl ?_
  refine g_getr (r := 24) X kd_0 fc8 (k := 9) (by decide) rfl wd_312 rfl (by decide) dX9_near_1 ?_
  refine g_iload_n X dX9_near_4 rfl rfl ?_
  refine g_callVI X (c_X8_has lL tT dD al _ _ ⟨by omega, by omega⟩ ⟨by omega, by omega⟩) kd_24 fc7 lk_RX9_144 rfl rfl ⟨by decide, by decide⟩ rfl (Nat.le_of_ble_eq_true rfl) dX9_near_5 (fun r5 M5 hc5 => ?_)
  obtain ⟨hr5, hm5⟩ := hc5
  subst r5
  subst M5
  refine g_if_ne (tgt := 14) X dX9_near_8 (by decide) (b2i_i32 _) (fun q8 => ?_) (fun q8 => ?_)
  · have q8 := b2i_t q8
    refine g_iload_n X dX9_near_14 rfl rfl ?_
    refine g_bipush X dX9_near_15 (by decide +kernel) ?_
    refine g_callSI X (c_X9_isWithin lL tT dD al _ _ _ ⟨by omega, by omega⟩ (by decide)) lk_RX9_126 rfl rfl ⟨by decide, by decide⟩ rfl (Nat.le_of_ble_eq_true rfl) dX9_near_17 (fun r17 M17 hc17 => ?_)
    obtain ⟨hr17, hm17⟩ := hc17
    subst r17
    subst M17
    refine g_if_ne (tgt := 26) X dX9_near_20 (by decide) (b2i_i32 _) (fun q20 => ?_) (fun q20 => ?_)
    · have q20 := b2i_t q20
      refine g_aload_n X dX9_near_26 rfl rfl ?_
      refine g_iload_n X dX9_near_27 rfl rfl ?_
      refine g_iload_n X dX9_near_28 rfl rfl ?_
      refine g_callVI X (c_X9_nearness lL tT dD al _ _ _ hV (by omega) (by omega) (by omega)) kd_0 fc8 lk_RX9_172 rfl rfl ⟨by decide, by decide⟩ rfl (Nat.le_of_ble_eq_true rfl) dX9_near_29 (fun r29 M29 hc29 => ?_)
      obtain ⟨hr29, hm29⟩ := hc29
      subst r29
      subst M29
      rw [hQ]
      refine g_iret X hr hlk dX9_near_32 ?_
      first | exact ⟨by rw [if_neg (by omega)], rfl⟩ | exact ⟨by rw [if_pos (by omega), if_neg (by omega)], rfl⟩ | exact ⟨by rw [if_pos (by omega), if_pos (by omega)], rfl⟩
    · have q20 := b2i_f q20
      refine g_bipush X dX9_near_23 (by decide +kernel) ?_
      rw [hQ]
      refine g_iret X hr hlk dX9_near_25 ?_
      first | exact ⟨by rw [if_neg (by omega)], rfl⟩ | exact ⟨by rw [if_pos (by omega), if_neg (by omega)], rfl⟩ | exact ⟨by rw [if_pos (by omega), if_pos (by omega)], rfl⟩
  · have q8 := b2i_f q8
    refine g_bipush X dX9_near_11 (by decide +kernel) ?_
    rw [hQ]
    refine g_iret X hr hlk dX9_near_13 ?_
    first | exact ⟨by rw [if_neg (by omega)], rfl⟩ | exact ⟨by rw [if_pos (by omega), if_neg (by omega)], rfl⟩ | exact ⟨by rw [if_pos (by omega), if_pos (by omega)], rfl⟩
set_option maxRecDepth 100000 in
set_option maxHeartbeats 4000000 in
theorem c_X9_ice (lL : Launch) (tT : TT) (dD : va_G) (al : Int → Nat) (M : Mem) (y a b : Int) (hV : IV M) (iy : i32 y) (ia : i32 a) (ib : i32 b) : CI lL yX9_ice cX9_ice 4 FieldType.int 1 23 tT dD al [.ref (al 0), .int (iN y), .int (iN a), .int (iN b)] M (fun r M' => r = (if b2i (iceOut y a b) = 1 then -102 else if b2i (iceFul M y a) = 1 then -104 else M 114 40 + ((if a = -1 then 0 else 1) - (if M 134 y = -1 then 0 else 1))) ∧ M' = (if b2i (iceOut y a b) = 1 then M else if b2i (iceFul M y a) = 1 then M else icX M y a b)) := by
  refine CI.of (own := "RedSkies") (ls0 := [some (.ref (al 0)), some (.int (iN y)), some (.int (iN a)), some (.int (iN b))]) (by decide +kernel) rfl (Nat.le_of_ble_eq_true rfl) rfl ?_
  intro pP eE sS mI aA bB mM cC X hr hlk
  obtain ⟨Q, hQ⟩ : ∃ Q : State → Prop, Q = MQ bB (QI tT dD al (fun r M' => r = (if b2i (iceOut y a b) = 1 then -102 else if b2i (iceFul M y a) = 1 then -104 else M 114 40 + ((if a = -1 then 0 else 1) - (if M 134 y = -1 then 0 else 1))) ∧ M' = (if b2i (iceOut y a b) = 1 then M else if b2i (iceFul M y a) = 1 then M else icX M y a b))) aA sS 0 0 (fA al) := ⟨_, rfl⟩
  rw [← hQ]
  have hW := hV.w
  have w2 := hW.n
  have n1 := hV.hn
  have w3 := hW.mea
  have w4 := hW.pig
  have w5 := hW.lam
  have w6 := hW.law
  have k1 := hV.la
  have k2 := hV.pi
  have k3 := hV.me
  have k4 := hV.lw
  refine g_iload_n X dX9_ice_0 rfl rfl ?_
  refine g_sipush X dX9_ice_1 (by decide +kernel) ?_
  refine g_callSI X (c_X9_isWithin lL tT dD al _ _ _ ⟨by omega, by omega⟩ (by decide)) lk_RX9_126 rfl rfl ⟨by decide, by decide⟩ rfl (Nat.le_of_ble_eq_true rfl) dX9_ice_4 (fun r4 M4 hc4 => ?_)
  obtain ⟨hr4, hm4⟩ := hc4
  subst r4
  subst M4
  refine g_if_ne (tgt := 13) X dX9_ice_7 (by decide) (b2i_i32 _) (fun q7 => ?_) (fun q7 => ?_)
  · have q7 := b2i_t q7
    refine g_iload_n X dX9_ice_13 rfl rfl ?_
    refine g_iconst X dX9_ice_14 ?_
    refine g_icmp_ne (tgt := 34) X dX9_ice_15 (by decide) ⟨by omega, by omega⟩ (by decide) (fun q15 => ?_) (fun q15 => ?_)
    · refine g_iload_n X dX9_ice_34 rfl rfl ?_
      refine g_iconst X dX9_ice_35 ?_
      refine g_callSI X (c_X9_isWithin lL tT dD al _ _ _ ⟨by omega, by omega⟩ (by decide)) lk_RX9_126 rfl rfl ⟨by decide, by decide⟩ rfl (Nat.le_of_ble_eq_true rfl) dX9_ice_36 (fun r36 M36 hc36 => ?_)
      obtain ⟨hr36, hm36⟩ := hc36
      subst r36
      subst M36
      refine g_if_eq (tgt := 55) X dX9_ice_39 (by decide) (b2i_i32 _) (fun q39 => ?_) (fun q39 => ?_)
      · have q39 := b2i_f q39
        refine g_bipush X dX9_ice_55 (by decide +kernel) ?_
        rw [hQ]
        refine g_iret X hr hlk dX9_ice_57 ?_
        have pR : iceOut y a b ↔ (¬ (0 ≤ y ∧ y ≤ 400) ∨ ¬ (-1 ≤ a ∧ a ≤ 5) ∨ (a ≠ -1 ∧ ¬ (a ≤ b ∧ b ≤ 5))) := Iff.rfl
        have pU : iceFul M y a ↔ (a ≠ -1 ∧ M 134 y = -1 ∧ M 114 40 = 40) := Iff.rfl
        first | (have yR : iceOut y a b := (by rw [pR]; omega); exact ⟨by rw [ify yR], by rw [ify yR]⟩) | (have nR : ¬ iceOut y a b := (by rw [pR]; omega); have yU : iceFul M y a := (by rw [pU]; omega); exact ⟨by rw [ifn nR, ify yU], by rw [ifn nR, ify yU]⟩) | (have nR : ¬ iceOut y a b := (by rw [pR]; omega); have nU : ¬ iceFul M y a := (by rw [pU]; omega); refine ⟨by rw [ifn nR, ifn nU, t7]; by_cases z : M 134 y = -1 <;> simp [z, q15] <;> omega, by rw [ifn nR, ifn nU]; unfold icX; simp [q15]⟩)
      · have q39 := b2i_t q39
        refine g_iload_n X dX9_ice_42 rfl rfl ?_
        refine g_iconst X dX9_ice_43 ?_
        refine g_callSI X (c_X9_isWithin lL tT dD al _ _ _ ⟨by omega, by omega⟩ (by decide)) lk_RX9_126 rfl rfl ⟨by decide, by decide⟩ rfl (Nat.le_of_ble_eq_true rfl) dX9_ice_44 (fun r44 M44 hc44 => ?_)
        obtain ⟨hr44, hm44⟩ := hc44
        subst r44
        subst M44
        refine g_if_eq (tgt := 55) X dX9_ice_47 (by decide) (b2i_i32 _) (fun q47 => ?_) (fun q47 => ?_)
        · have q47 := b2i_f q47
          refine g_bipush X dX9_ice_55 (by decide +kernel) ?_
          rw [hQ]
          refine g_iret X hr hlk dX9_ice_57 ?_
          have pR : iceOut y a b ↔ (¬ (0 ≤ y ∧ y ≤ 400) ∨ ¬ (-1 ≤ a ∧ a ≤ 5) ∨ (a ≠ -1 ∧ ¬ (a ≤ b ∧ b ≤ 5))) := Iff.rfl
          have pU : iceFul M y a ↔ (a ≠ -1 ∧ M 134 y = -1 ∧ M 114 40 = 40) := Iff.rfl
          first | (have yR : iceOut y a b := (by rw [pR]; omega); exact ⟨by rw [ify yR], by rw [ify yR]⟩) | (have nR : ¬ iceOut y a b := (by rw [pR]; omega); have yU : iceFul M y a := (by rw [pU]; omega); exact ⟨by rw [ifn nR, ify yU], by rw [ifn nR, ify yU]⟩) | (have nR : ¬ iceOut y a b := (by rw [pR]; omega); have nU : ¬ iceFul M y a := (by rw [pU]; omega); refine ⟨by rw [ifn nR, ifn nU, t7]; by_cases z : M 134 y = -1 <;> simp [z, q15] <;> omega, by rw [ifn nR, ifn nU]; unfold icX; simp [q15]⟩)
        · have q47 := b2i_t q47
          refine g_iload_n X dX9_ice_50 rfl rfl ?_
          refine g_iload_n X dX9_ice_51 rfl rfl ?_
          refine g_icmp_ge (tgt := 58) X dX9_ice_52 (by decide) ⟨by omega, by omega⟩ ⟨by omega, by omega⟩ (fun q52 => ?_) (fun q52 => ?_)
          · have e60 := hV.ic (y := y) (by omega) (by omega)
            have w8 := hW.ice (y := y) (by omega) (by omega)
            refine g_aload_n X dX9_ice_58 rfl rfl ?_
            refine g_getr (r := 24) X kd_0 fc8 (k := 9) (by decide) rfl wd_312 rfl (by decide) dX9_ice_59 ?_
            refine g_getr (r := 60) X kd_24 fc7 (k := 3) (by decide) rfl wd_224 rfl (by decide) dX9_ice_62 ?_
            refine g_iload_n X dX9_ice_65 rfl rfl ?_
            refine g_iald X kd_60 (by omega) (by omega) dX9_ice_66 ?_
            refine g_iconst X dX9_ice_67 ?_
            refine g_icmp_ne (tgt := 86) X dX9_ice_68 (by decide) ⟨by omega, by omega⟩ (by decide) (fun q68 => ?_) (fun q68 => ?_)
            · refine g_aload_n X dX9_ice_86 rfl rfl ?_
              refine g_getr (r := 24) X kd_0 fc8 (k := 9) (by decide) rfl wd_312 rfl (by decide) dX9_ice_87 ?_
              refine g_iload_n X dX9_ice_90 rfl rfl ?_
              refine g_iload_n X dX9_ice_91 rfl rfl ?_
              refine g_iload_n X dX9_ice_92 rfl rfl ?_
              refine g_callVV X (c_X8_tellIce lL tT dD al _ _ _ _ (by omega) (by rw [e60.1]; exact ⟨by omega, by omega⟩)) kd_24 fc7 lk_RX9_254 rfl rfl ⟨by decide, by decide⟩ rfl (Nat.le_of_ble_eq_true rfl) dX9_ice_93 (fun M93 hc93 => ?_)
              subst M93
              have t7 : tlX M y a b 24 7 = if M 134 y = -1 then M 114 40 + 1 else M 114 40 := by unfold tlX; rw [e60.1]; by_cases z : M 134 y = -1; (rw [if_pos z, if_pos z]; simp [mu]; omega); (rw [if_neg z, if_neg z]; simp [mu]; omega)
              refine g_aload_n X dX9_ice_96 rfl rfl ?_
              refine g_getr (r := 24) X kd_0 fc8 (k := 9) (by decide) rfl wd_312 rfl (by decide) dX9_ice_97 ?_
              refine g_geti (kz := 7) X kd_24 fc7 (k := 7) (by decide) rfl wd_232 rfl dX9_ice_100 ?_
              rw [hQ]
              refine g_iret X hr hlk dX9_ice_103 ?_
              have pR : iceOut y a b ↔ (¬ (0 ≤ y ∧ y ≤ 400) ∨ ¬ (-1 ≤ a ∧ a ≤ 5) ∨ (a ≠ -1 ∧ ¬ (a ≤ b ∧ b ≤ 5))) := Iff.rfl
              have pU : iceFul M y a ↔ (a ≠ -1 ∧ M 134 y = -1 ∧ M 114 40 = 40) := Iff.rfl
              first | (have yR : iceOut y a b := (by rw [pR]; omega); exact ⟨by rw [ify yR], by rw [ify yR]⟩) | (have nR : ¬ iceOut y a b := (by rw [pR]; omega); have yU : iceFul M y a := (by rw [pU]; omega); exact ⟨by rw [ifn nR, ify yU], by rw [ifn nR, ify yU]⟩) | (have nR : ¬ iceOut y a b := (by rw [pR]; omega); have nU : ¬ iceFul M y a := (by rw [pU]; omega); refine ⟨by rw [ifn nR, ifn nU, t7]; by_cases z : M 134 y = -1 <;> simp [z, q15] <;> omega, by rw [ifn nR, ifn nU]; unfold icX; simp [q15]⟩)
            · refine g_aload_n X dX9_ice_71 rfl rfl ?_
              refine g_getr (r := 24) X kd_0 fc8 (k := 9) (by decide) rfl wd_312 rfl (by decide) dX9_ice_72 ?_
              refine g_geti (kz := 7) X kd_24 fc7 (k := 7) (by decide) rfl wd_232 rfl dX9_ice_75 ?_
              refine g_bipush X dX9_ice_78 (by decide +kernel) ?_
              refine g_icmp_lt (tgt := 86) X dX9_ice_80 (by decide) ⟨by omega, by omega⟩ (by decide) (fun q80 => ?_) (fun q80 => ?_)
              · refine g_aload_n X dX9_ice_86 rfl rfl ?_
                refine g_getr (r := 24) X kd_0 fc8 (k := 9) (by decide) rfl wd_312 rfl (by decide) dX9_ice_87 ?_
                refine g_iload_n X dX9_ice_90 rfl rfl ?_
                refine g_iload_n X dX9_ice_91 rfl rfl ?_
                refine g_iload_n X dX9_ice_92 rfl rfl ?_
                refine g_callVV X (c_X8_tellIce lL tT dD al _ _ _ _ (by omega) (by rw [e60.1]; exact ⟨by omega, by omega⟩)) kd_24 fc7 lk_RX9_254 rfl rfl ⟨by decide, by decide⟩ rfl (Nat.le_of_ble_eq_true rfl) dX9_ice_93 (fun M93 hc93 => ?_)
                subst M93
                have t7 : tlX M y a b 24 7 = if M 134 y = -1 then M 114 40 + 1 else M 114 40 := by unfold tlX; rw [e60.1]; by_cases z : M 134 y = -1; (rw [if_pos z, if_pos z]; simp [mu]; omega); (rw [if_neg z, if_neg z]; simp [mu]; omega)
                refine g_aload_n X dX9_ice_96 rfl rfl ?_
                refine g_getr (r := 24) X kd_0 fc8 (k := 9) (by decide) rfl wd_312 rfl (by decide) dX9_ice_97 ?_
                refine g_geti (kz := 7) X kd_24 fc7 (k := 7) (by decide) rfl wd_232 rfl dX9_ice_100 ?_
                rw [hQ]
                refine g_iret X hr hlk dX9_ice_103 ?_
                have pR : iceOut y a b ↔ (¬ (0 ≤ y ∧ y ≤ 400) ∨ ¬ (-1 ≤ a ∧ a ≤ 5) ∨ (a ≠ -1 ∧ ¬ (a ≤ b ∧ b ≤ 5))) := Iff.rfl
                have pU : iceFul M y a ↔ (a ≠ -1 ∧ M 134 y = -1 ∧ M 114 40 = 40) := Iff.rfl
                first | (have yR : iceOut y a b := (by rw [pR]; omega); exact ⟨by rw [ify yR], by rw [ify yR]⟩) | (have nR : ¬ iceOut y a b := (by rw [pR]; omega); have yU : iceFul M y a := (by rw [pU]; omega); exact ⟨by rw [ifn nR, ify yU], by rw [ifn nR, ify yU]⟩) | (have nR : ¬ iceOut y a b := (by rw [pR]; omega); have nU : ¬ iceFul M y a := (by rw [pU]; omega); refine ⟨by rw [ifn nR, ifn nU, t7]; by_cases z : M 134 y = -1 <;> simp [z, q15] <;> omega, by rw [ifn nR, ifn nU]; unfold icX; simp [q15]⟩)
              · refine g_bipush X dX9_ice_83 (by decide +kernel) ?_
                rw [hQ]
                refine g_iret X hr hlk dX9_ice_85 ?_
                have pR : iceOut y a b ↔ (¬ (0 ≤ y ∧ y ≤ 400) ∨ ¬ (-1 ≤ a ∧ a ≤ 5) ∨ (a ≠ -1 ∧ ¬ (a ≤ b ∧ b ≤ 5))) := Iff.rfl
                have pU : iceFul M y a ↔ (a ≠ -1 ∧ M 134 y = -1 ∧ M 114 40 = 40) := Iff.rfl
                first | (have yR : iceOut y a b := (by rw [pR]; omega); exact ⟨by rw [ify yR], by rw [ify yR]⟩) | (have nR : ¬ iceOut y a b := (by rw [pR]; omega); have yU : iceFul M y a := (by rw [pU]; omega); exact ⟨by rw [ifn nR, ify yU], by rw [ifn nR, ify yU]⟩) | (have nR : ¬ iceOut y a b := (by rw [pR]; omega); have nU : ¬ iceFul M y a := (by rw [pU]; omega); refine ⟨by rw [ifn nR, ifn nU, t7]; by_cases z : M 134 y = -1 <;> simp [z, q15] <;> omega, by rw [ifn nR, ifn nU]; unfold icX; simp [q15]⟩)
          · refine g_bipush X dX9_ice_55 (by decide +kernel) ?_
            rw [hQ]
            refine g_iret X hr hlk dX9_ice_57 ?_
            have pR : iceOut y a b ↔ (¬ (0 ≤ y ∧ y ≤ 400) ∨ ¬ (-1 ≤ a ∧ a ≤ 5) ∨ (a ≠ -1 ∧ ¬ (a ≤ b ∧ b ≤ 5))) := Iff.rfl
            have pU : iceFul M y a ↔ (a ≠ -1 ∧ M 134 y = -1 ∧ M 114 40 = 40) := Iff.rfl
            first | (have yR : iceOut y a b := (by rw [pR]; omega); exact ⟨by rw [ify yR], by rw [ify yR]⟩) | (have nR : ¬ iceOut y a b := (by rw [pR]; omega); have yU : iceFul M y a := (by rw [pU]; omega); exact ⟨by rw [ifn nR, ify yU], by rw [ifn nR, ify yU]⟩) | (have nR : ¬ iceOut y a b := (by rw [pR]; omega); have nU : ¬ iceFul M y a := (by rw [pU]; omega); refine ⟨by rw [ifn nR, ifn nU, t7]; by_cases z : M 134 y = -1 <;> simp [z, q15] <;> omega, by rw [ifn nR, ifn nU]; unfold icX; simp [q15]⟩)
    · have e60 := hV.ic (y := y) (by omega) (by omega)
      have w8 := hW.ice (y := y) (by omega) (by omega)
      refine g_aload_n X dX9_ice_18 rfl rfl ?_
      refine g_getr (r := 24) X kd_0 fc8 (k := 9) (by decide) rfl wd_312 rfl (by decide) dX9_ice_19 ?_
      refine g_iload_n X dX9_ice_22 rfl rfl ?_
      refine g_callVV X (c_X8_forgetIce lL tT dD al _ _ (by omega) (by rw [e60.1]; exact ⟨by omega, by omega⟩)) kd_24 fc7 lk_RX9_245 rfl rfl ⟨by decide, by decide⟩ rfl (Nat.le_of_ble_eq_true rfl) dX9_ice_23 (fun M23 hc23 => ?_)
      subst M23
      have t7 : fgX M y 24 7 = if M 134 y = -1 then M 114 40 else M 114 40 - 1 := by unfold fgX; rw [e60.1]; by_cases z : M 134 y = -1; (rw [if_pos z, if_pos z]; simp [mu]; omega); (rw [if_neg z, if_neg z]; simp [mu]; omega)
      refine g_aload_n X dX9_ice_26 rfl rfl ?_
      refine g_getr (r := 24) X kd_0 fc8 (k := 9) (by decide) rfl wd_312 rfl (by decide) dX9_ice_27 ?_
      refine g_geti (kz := 7) X kd_24 fc7 (k := 7) (by decide) rfl wd_232 rfl dX9_ice_30 ?_
      rw [hQ]
      refine g_iret X hr hlk dX9_ice_33 ?_
      have pR : iceOut y a b ↔ (¬ (0 ≤ y ∧ y ≤ 400) ∨ ¬ (-1 ≤ a ∧ a ≤ 5) ∨ (a ≠ -1 ∧ ¬ (a ≤ b ∧ b ≤ 5))) := Iff.rfl
      have pU : iceFul M y a ↔ (a ≠ -1 ∧ M 134 y = -1 ∧ M 114 40 = 40) := Iff.rfl
      first | (have yR : iceOut y a b := (by rw [pR]; omega); exact ⟨by rw [ify yR], by rw [ify yR]⟩) | (have nR : ¬ iceOut y a b := (by rw [pR]; omega); have yU : iceFul M y a := (by rw [pU]; omega); exact ⟨by rw [ifn nR, ify yU], by rw [ifn nR, ify yU]⟩) | (have nR : ¬ iceOut y a b := (by rw [pR]; omega); have nU : ¬ iceFul M y a := (by rw [pU]; omega); refine ⟨by rw [ifn nR, ifn nU, t7]; by_cases z : M 134 y = -1 <;> simp [z, q15] <;> omega, by rw [ifn nR, ifn nU]; unfold icX; simp [q15]⟩)
  · have q7 := b2i_f q7
    refine g_bipush X dX9_ice_10 (by decide +kernel) ?_
    rw [hQ]
    refine g_iret X hr hlk dX9_ice_12 ?_
    have pR : iceOut y a b ↔ (¬ (0 ≤ y ∧ y ≤ 400) ∨ ¬ (-1 ≤ a ∧ a ≤ 5) ∨ (a ≠ -1 ∧ ¬ (a ≤ b ∧ b ≤ 5))) := Iff.rfl
    have pU : iceFul M y a ↔ (a ≠ -1 ∧ M 134 y = -1 ∧ M 114 40 = 40) := Iff.rfl
    first | (have yR : iceOut y a b := (by rw [pR]; omega); exact ⟨by rw [ify yR], by rw [ify yR]⟩) | (have nR : ¬ iceOut y a b := (by rw [pR]; omega); have yU : iceFul M y a := (by rw [pU]; omega); exact ⟨by rw [ifn nR, ify yU], by rw [ifn nR, ify yU]⟩) | (have nR : ¬ iceOut y a b := (by rw [pR]; omega); have nU : ¬ iceFul M y a := (by rw [pU]; omega); refine ⟨by rw [ifn nR, ifn nU, t7]; by_cases z : M 134 y = -1 <;> simp [z, q15] <;> omega, by rw [ifn nR, ifn nU]; unfold icX; simp [q15]⟩)
