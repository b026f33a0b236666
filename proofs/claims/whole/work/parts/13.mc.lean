set_option maxRecDepth 100000 in
set_option maxHeartbeats 4000000 in
theorem c_X10_isDate (lL : Launch) (tT : TT) (dD : va_G) (al : Int → Nat) (M : Mem) (m q y : Int) (hW : WV M) (hm0 : 0 ≤ m) (hm1 : m < M 114 15) (h0 : 0 ≤ q) (h1 : q < M 114 23) (h2 : 0 ≤ y ∧ y ≤ 400) : CI lL yX10_isDate cX10_isDate 6 FieldType.boolean 5 115 tT dD al [.ref (al 114), .int (iN m), .int (iN q), .int (iN y)] M (fun r M' => r = b2i (dtP M m q y) ∧ M' = M) := by
  refine CI.of (own := "RedSkiesModel") (ls0 := [some (.ref (al 114)), some (.int (iN m)), some (.int (iN q)), some (.int (iN y)), none, none]) (by decide +kernel) rfl (Nat.le_of_ble_eq_true rfl) rfl ?_
  intro pP eE sS mI aA bB mM cC X hr hlk
  obtain ⟨Q, hQ⟩ : ∃ Q : State → Prop, Q = MQ bB (QI tT dD al (fun r M' => r = b2i (dtP M m q y) ∧ M' = M)) aA sS 0 0 (fA al) := ⟨_, rfl⟩
  rw [← hQ]
  have w1 := hW.row h0 h1
  have w2 := hW.n
  have w3 := hW.pig
  have w4 := hW.ice (y := y) (by omega) (by omega)
  have w5 := hW.law
  have w6 := clsS_rng M (vlu M m q - M 114 19) (by omega)
  have w7 := clsS_rng M (vlu M m q + M 114 19) (by omega)
  have w8 : lowS M m q = clsS M (vlu M m q - M 114 19) := rfl
  have w9 : highS M m q = clsS M (vlu M m q + M 114 19) := rfl
  refine g_aload_n X dX10_isDate_0 rfl rfl ?_
  refine g_getr (r := 124) X kd_114 fc9 (k := 24) (by decide) rfl wd_851 rfl (by decide) dX10_isDate_1 ?_
  refine g_bipush X dX10_isDate_4 (by decide +kernel) ?_
  refine g_iload_n X dX10_isDate_6 rfl rfl ?_
  refine g_imul X dX10_isDate_7 ?_
  refine g_iconst X dX10_isDate_8 ?_
  refine g_iadd X dX10_isDate_9 ?_
  refine g_iald X kd_124 (by omega) (by omega) dX10_isDate_10 ?_
  refine g_istore_4 X dX10_isDate_11 rfl (fun v4_11 ev4_11 => ?_)
  subst v4_11
  refine g_iload X dX10_isDate_13 rfl ?_
  refine g_iconst X dX10_isDate_15 ?_
  refine g_icmp_eq (tgt := 30) X dX10_isDate_16 (by decide) ⟨by omega, by omega⟩ (by decide) (fun q16 => ?_) (fun q16 => ?_)
  · refine g_iconst X dX10_isDate_30 ?_
    refine g_goto (tgt := 35) X dX10_isDate_31 (by decide) ?_
    refine g_istore_5 X dX10_isDate_35 rfl (fun v5_35 ev5_35 => ?_)
    subst v5_35
    refine g_iload X dX10_isDate_37 rfl ?_
    refine g_if_eq (tgt := 86) X dX10_isDate_39 (by decide) (by decide) (fun q => absurd q (by decide)) (fun _ => ?_)
    refine g_aload_n X dX10_isDate_42 rfl rfl ?_
    refine g_getr (r := 134) X kd_114 fc9 (k := 41) (by decide) rfl wd_868 rfl (by decide) dX10_isDate_43 ?_
    refine g_iload_n X dX10_isDate_46 rfl rfl ?_
    refine g_iald X kd_134 (by omega) (by omega) dX10_isDate_47 ?_
    refine g_iconst X dX10_isDate_48 ?_
    refine g_icmp_eq (tgt := 82) X dX10_isDate_49 (by decide) ⟨by omega, by omega⟩ (by decide) (fun q49 => ?_) (fun q49 => ?_)
    · refine g_iconst X dX10_isDate_82 ?_
      refine g_goto (tgt := 87) X dX10_isDate_83 (by decide) ?_
      rw [hQ]
      refine g_zret X hr hlk (by decide) dX10_isDate_87 ?_
      first | exact ⟨b2i_1 (by unfold dtP; omega), rfl⟩ | exact ⟨b2i_0 (by unfold dtP; omega), rfl⟩
    · refine g_aload_n X dX10_isDate_52 rfl rfl ?_
      refine g_getr (r := 134) X kd_114 fc9 (k := 41) (by decide) rfl wd_868 rfl (by decide) dX10_isDate_53 ?_
      refine g_iload_n X dX10_isDate_56 rfl rfl ?_
      refine g_iald X kd_134 (by omega) (by omega) dX10_isDate_57 ?_
      refine g_aload_n X dX10_isDate_58 rfl rfl ?_
      refine g_iload_n X dX10_isDate_59 rfl rfl ?_
      refine g_iload_n X dX10_isDate_60 rfl rfl ?_
      refine g_callVI X (c_X10_highClass lL tT dD al _ _ _ hW hm0 hm1 h0 h1) kd_114 fc9 lk_RX10_315 rfl rfl ⟨by decide, by decide⟩ rfl (Nat.le_of_ble_eq_true rfl) dX10_isDate_61 (fun r61 M61 hc61 => ?_)
      obtain ⟨hr61, hm61⟩ := hc61
      subst r61
      subst M61
      refine g_icmp_gt (tgt := 86) X dX10_isDate_64 (by decide) ⟨by omega, by omega⟩ ⟨by omega, by omega⟩ (fun q64 => ?_) (fun q64 => ?_)
      · refine g_iconst X dX10_isDate_86 ?_
        rw [hQ]
        refine g_zret X hr hlk (by decide) dX10_isDate_87 ?_
        first | exact ⟨b2i_1 (by unfold dtP; omega), rfl⟩ | exact ⟨b2i_0 (by unfold dtP; omega), rfl⟩
      · refine g_aload_n X dX10_isDate_67 rfl rfl ?_
        refine g_getr (r := 135) X kd_114 fc9 (k := 42) (by decide) rfl wd_869 rfl (by decide) dX10_isDate_68 ?_
        refine g_iload_n X dX10_isDate_71 rfl rfl ?_
        refine g_iald X kd_135 (by omega) (by omega) dX10_isDate_72 ?_
        refine g_aload_n X dX10_isDate_73 rfl rfl ?_
        refine g_iload_n X dX10_isDate_74 rfl rfl ?_
        refine g_iload_n X dX10_isDate_75 rfl rfl ?_
        refine g_callVI X (c_X10_lowClass lL tT dD al _ _ _ hW hm0 hm1 h0 h1) kd_114 fc9 lk_RX10_312 rfl rfl ⟨by decide, by decide⟩ rfl (Nat.le_of_ble_eq_true rfl) dX10_isDate_76 (fun r76 M76 hc76 => ?_)
        obtain ⟨hr76, hm76⟩ := hc76
        subst r76
        subst M76
        refine g_icmp_lt (tgt := 86) X dX10_isDate_79 (by decide) ⟨by omega, by omega⟩ ⟨by omega, by omega⟩ (fun q79 => ?_) (fun q79 => ?_)
        · refine g_iconst X dX10_isDate_86 ?_
          rw [hQ]
          refine g_zret X hr hlk (by decide) dX10_isDate_87 ?_
          first | exact ⟨b2i_1 (by unfold dtP; omega), rfl⟩ | exact ⟨b2i_0 (by unfold dtP; omega), rfl⟩
        · refine g_iconst X dX10_isDate_82 ?_
          refine g_goto (tgt := 87) X dX10_isDate_83 (by decide) ?_
          rw [hQ]
          refine g_zret X hr hlk (by decide) dX10_isDate_87 ?_
          first | exact ⟨b2i_1 (by unfold dtP; omega), rfl⟩ | exact ⟨b2i_0 (by unfold dtP; omega), rfl⟩
  · refine g_iload_n X dX10_isDate_19 rfl rfl ?_
    refine g_aload_n X dX10_isDate_20 rfl rfl ?_
    refine g_getr (r := 122) X kd_114 fc9 (k := 21) (by decide) rfl wd_848 rfl (by decide) dX10_isDate_21 ?_
    have w10 := w3.2 (M 124 (6 * q + 5)) (by omega) (by omega)
    refine g_iload X dX10_isDate_24 rfl ?_
    refine g_iald X kd_122 (by omega) (by omega) dX10_isDate_26 ?_
    refine g_icmp_lt (tgt := 34) X dX10_isDate_27 (by decide) ⟨by omega, by omega⟩ ⟨by omega, by omega⟩ (fun q27 => ?_) (fun q27 => ?_)
    · refine g_iconst X dX10_isDate_34 ?_
      refine g_istore_5 X dX10_isDate_35 rfl (fun v5_35 ev5_35 => ?_)
      subst v5_35
      refine g_iload X dX10_isDate_37 rfl ?_
      refine g_if_eq (tgt := 86) X dX10_isDate_39 (by decide) (by decide) (fun _ => ?_) (fun q => absurd q (by decide))
      refine g_iconst X dX10_isDate_86 ?_
      rw [hQ]
      refine g_zret X hr hlk (by decide) dX10_isDate_87 ?_
      first | exact ⟨b2i_1 (by unfold dtP; omega), rfl⟩ | exact ⟨b2i_0 (by unfold dtP; omega), rfl⟩
    · refine g_iconst X dX10_isDate_30 ?_
      refine g_goto (tgt := 35) X dX10_isDate_31 (by decide) ?_
      refine g_istore_5 X dX10_isDate_35 rfl (fun v5_35 ev5_35 => ?_)
      subst v5_35
      refine g_iload X dX10_isDate_37 rfl ?_
      refine g_if_eq (tgt := 86) X dX10_isDate_39 (by decide) (by decide) (fun q => absurd q (by decide)) (fun _ => ?_)
      refine g_aload_n X dX10_isDate_42 rfl rfl ?_
      refine g_getr (r := 134) X kd_114 fc9 (k := 41) (by decide) rfl wd_868 rfl (by decide) dX10_isDate_43 ?_
      refine g_iload_n X dX10_isDate_46 rfl rfl ?_
      refine g_iald X kd_134 (by omega) (by omega) dX10_isDate_47 ?_
      refine g_iconst X dX10_isDate_48 ?_
      refine g_icmp_eq (tgt := 82) X dX10_isDate_49 (by decide) ⟨by omega, by omega⟩ (by decide) (fun q49 => ?_) (fun q49 => ?_)
      · refine g_iconst X dX10_isDate_82 ?_
        refine g_goto (tgt := 87) X dX10_isDate_83 (by decide) ?_
        rw [hQ]
        refine g_zret X hr hlk (by decide) dX10_isDate_87 ?_
        first | exact ⟨b2i_1 (by unfold dtP; omega), rfl⟩ | exact ⟨b2i_0 (by unfold dtP; omega), rfl⟩
      · refine g_aload_n X dX10_isDate_52 rfl rfl ?_
        refine g_getr (r := 134) X kd_114 fc9 (k := 41) (by decide) rfl wd_868 rfl (by decide) dX10_isDate_53 ?_
        refine g_iload_n X dX10_isDate_56 rfl rfl ?_
        refine g_iald X kd_134 (by omega) (by omega) dX10_isDate_57 ?_
        refine g_aload_n X dX10_isDate_58 rfl rfl ?_
        refine g_iload_n X dX10_isDate_59 rfl rfl ?_
        refine g_iload_n X dX10_isDate_60 rfl rfl ?_
        refine g_callVI X (c_X10_highClass lL tT dD al _ _ _ hW hm0 hm1 h0 h1) kd_114 fc9 lk_RX10_315 rfl rfl ⟨by decide, by decide⟩ rfl (Nat.le_of_ble_eq_true rfl) dX10_isDate_61 (fun r61 M61 hc61 => ?_)
        obtain ⟨hr61, hm61⟩ := hc61
        subst r61
        subst M61
        refine g_icmp_gt (tgt := 86) X dX10_isDate_64 (by decide) ⟨by omega, by omega⟩ ⟨by omega, by omega⟩ (fun q64 => ?_) (fun q64 => ?_)
        · refine g_iconst X dX10_isDate_86 ?_
          rw [hQ]
          refine g_zret X hr hlk (by decide) dX10_isDate_87 ?_
          first | exact ⟨b2i_1 (by unfold dtP; omega), rfl⟩ | exact ⟨b2i_0 (by unfold dtP; omega), rfl⟩
        · refine g_aload_n X dX10_isDate_67 rfl rfl ?_
          refine g_getr (r := 135) X kd_114 fc9 (k := 42) (by decide) rfl wd_869 rfl (by decide) dX10_isDate_68 ?_
          refine g_iload_n X dX10_isDate_71 rfl rfl ?_
          refine g_iald X kd_135 (by omega) (by omega) dX10_isDate_72 ?_
          refine g_aload_n X dX10_isDate_73 rfl rfl ?_
          refine g_iload_n X dX10_isDate_74 rfl rfl ?_
          refine g_iload_n X dX10_isDate_75 rfl rfl ?_
          refine g_callVI X (c_X10_lowClass lL tT dD al _ _ _ hW hm0 hm1 h0 h1) kd_114 fc9 lk_RX10_312 rfl rfl ⟨by decide, by decide⟩ rfl (Nat.le_of_ble_eq_true rfl) dX10_isDate_76 (fun r76 M76 hc76 => ?_)
          obtain ⟨hr76, hm76⟩ := hc76
          subst r76
          subst M76
          refine g_icmp_lt (tgt := 86) X dX10_isDate_79 (by decide) ⟨by omega, by omega⟩ ⟨by omega, by omega⟩ (fun q79 => ?_) (fun q79 => ?_)
          · refine g_iconst X dX10_isDate_86 ?_
            rw [hQ]
            refine g_zret X hr hlk (by decide) dX10_isDate_87 ?_
            first | exact ⟨b2i_1 (by unfold dtP; omega), rfl⟩ | exact ⟨b2i_0 (by unfold dtP; omega), rfl⟩
          · refine g_iconst X dX10_isDate_82 ?_
            refine g_goto (tgt := 87) X dX10_isDate_83 (by decide) ?_
            rw [hQ]
            refine g_zret X hr hlk (by decide) dX10_isDate_87 ?_
            first | exact ⟨b2i_1 (by unfold dtP; omega), rfl⟩ | exact ⟨b2i_0 (by unfold dtP; omega), rfl⟩
set_option maxRecDepth 100000 in
set_option maxHeartbeats 4000000 in
theorem c_X10_layDates (lL : Launch) (tT : TT) (dD : va_G) (al : Int → Nat) (M : Mem) (m q : Int) (hW : WV M) (hm0 : 0 ≤ m) (hm1 : m < M 114 15) (h0 : 0 ≤ q) (h1 : q < M 114 23) : CV lL yX10_layDates cX10_layDates 4 6 140 tT dD al [.ref (al 114), .int (iN m), .int (iN q)] M (fun M' => SM M M' ∧ M' 114 43 = dN M m q (nY M q) ∧ M' 114 44 = dF M m q (nY M q) ∧ M' 114 45 = dL M m q (nY M q)) := by
  refine CV.of (own := "RedSkiesModel") (ls0 := [some (.ref (al 114)), some (.int (iN m)), some (.int (iN q)), none]) (by decide +kernel) rfl (Nat.le_of_ble_eq_true rfl) rfl ?_
  intro pP eE sS mI aA bB mM cC X hr hlk
  obtain ⟨Q, hQ⟩ : ∃ Q : State → Prop, Q = MQ bB (QV tT dD al (fun M' => SM M M' ∧ M' 114 43 = dN M m q (nY M q) ∧ M' 114 44 = dF M m q (nY M q) ∧ M' 114 45 = dL M m q (nY M q))) aA sS 0 0 (fA al) := ⟨_, rfl⟩
  rw [← hQ]
  have w1 := hW.row h0 h1
  have w2 := hW.n
  have w3 : yr0 M q = M 124 (6 * q + 2) - M 124 (6 * q + 3) := rfl
  have s43 : scrM 114 43 := by unfold scrM; omega
  have s44 : scrM 114 44 := by unfold scrM; omega
  have s45 : scrM 114 45 := by unfold scrM; omega
  refine g_aload_n X dX10_layDates_0 rfl rfl ?_
  refine g_iconst X dX10_layDates_1 ?_
  refine g_puti (kz := 43) X kd_114 fc9 (k := 43) (by decide) rfl wd_870 rfl rfl rfl dX10_layDates_2 ?_
  refine g_aload_n X dX10_layDates_5 rfl rfl ?_
  refine g_iconst X dX10_layDates_6 ?_
  refine g_puti (kz := 44) X kd_114 fc9 (k := 44) (by decide) rfl wd_871 rfl rfl rfl dX10_layDates_7 ?_
  refine g_aload_n X dX10_layDates_10 rfl rfl ?_
  refine g_iconst X dX10_layDates_11 ?_
  refine g_puti (kz := 45) X kd_114 fc9 (k := 45) (by decide) rfl wd_872 rfl rfl rfl dX10_layDates_12 ?_
  refine g_aload_n X dX10_layDates_15 rfl rfl ?_
  refine g_getr (r := 124) X kd_114 fc9 (k := 24) (by decide) rfl wd_851 rfl (by decide) dX10_layDates_16 ?_
  refine g_bipush X dX10_layDates_19 (by decide +kernel) ?_
  refine g_iload_n X dX10_layDates_21 rfl rfl ?_
  refine g_imul X dX10_layDates_22 ?_
  refine g_iconst X dX10_layDates_23 ?_
  refine g_iadd X dX10_layDates_24 ?_
  refine g_iald X kd_124 (by omega) (by omega) dX10_layDates_25 ?_
  refine g_teq (b := (M 124 ((6 * q) + 2))) (by first | (simp [mu]; done) | (simp only [mu]; repeat (first | rw [if_pos (⟨rfl, rfl⟩)] | rw [if_neg (by omega)]))) ?_
  refine g_aload_n X dX10_layDates_26 rfl rfl ?_
  refine g_getr (r := 124) X kd_114 fc9 (k := 24) (by decide) rfl wd_851 rfl (by decide) dX10_layDates_27 ?_
  refine g_bipush X dX10_layDates_30 (by decide +kernel) ?_
  refine g_iload_n X dX10_layDates_32 rfl rfl ?_
  refine g_imul X dX10_layDates_33 ?_
  refine g_iconst X dX10_layDates_34 ?_
  refine g_iadd X dX10_layDates_35 ?_
  refine g_iald X kd_124 (by omega) (by omega) dX10_layDates_36 ?_
  refine g_teq (b := (M 124 ((6 * q) + 3))) (by first | (simp [mu]; done) | (simp only [mu]; repeat (first | rw [if_pos (⟨rfl, rfl⟩)] | rw [if_neg (by omega)]))) ?_
  refine g_isub X dX10_layDates_37 ?_
  refine g_istore_n_3 X dX10_layDates_38 rfl rfl (fun v3_38 ev3_38 => ?_)
  subst v3_38
  have L_39 : ∀ (n : Nat) (y : Int) (M1 : Mem), (yr0 M q ≤ y) → (y ≤ yr0 M q + 2 * M 124 (6 * q + 3) + 1) → (SM M M1) → (M1 114 43 = dN M m q (y - yr0 M q).toNat) → (M1 114 44 = dF M m q (y - yr0 M q).toNat) → (M1 114 45 = dL M m q (y - yr0 M q).toNat) → (yr0 M q + 2 * M 124 (6 * q + 3) + 1 - y).toNat < n → Gd pP lL eE (rmN 6 140) sS mI aA bB mM cC 0 0 Q tT dD al (fA al) 39 [some (.ref (al 114)), some (.int (iN m)), some (.int (iN q)), some (.int (iN y))] [] M1 := by
    intro n
    induction n with
    | zero => intro y M1 hy hy2 hS e1 e2 e3 hm; exact absurd hm (Nat.not_lt_zero _)
    | succ n ih =>
      intro y M1 hy hy2 hS e1 e2 e3 hm
      have r1 : M1 124 = M 124 := hS.row (by omega)
      have r2 := hS.fld (k := 23) (by omega)
      have r3 := hS.fld (k := 15) (by omega)
      have r4 := dN_rng M m q (y - yr0 M q).toNat
      have r5 := d_step M m q hy
      have r6 : okD M m q y ↔ (0 ≤ y ∧ y ≤ 400) ∧ dtP M m q y := Iff.rfl
      have r7 : M1 124 (6 * q + 3) = M 124 (6 * q + 3) := by rw [r1]
      have r8 : M1 124 (6 * q + 2) = M 124 (6 * q + 2) := by rw [r1]
      have ih_39 := ih
      clear ih
      refine g_iload_n X dX10_layDates_39 rfl rfl ?_
      refine g_aload_n X dX10_layDates_40 rfl rfl ?_
      refine g_getr (r := 124) X kd_114 fc9 (k := 24) (by decide) rfl wd_851 rfl (by decide) dX10_layDates_41 ?_
      refine g_bipush X dX10_layDates_44 (by decide +kernel) ?_
      refine g_iload_n X dX10_layDates_46 rfl rfl ?_
      refine g_imul X dX10_layDates_47 ?_
      refine g_iconst X dX10_layDates_48 ?_
      refine g_iadd X dX10_layDates_49 ?_
      refine g_iald X kd_124 (by omega) (by omega) dX10_layDates_50 ?_
      refine g_aload_n X dX10_layDates_51 rfl rfl ?_
      refine g_getr (r := 124) X kd_114 fc9 (k := 24) (by decide) rfl wd_851 rfl (by decide) dX10_layDates_52 ?_
      refine g_bipush X dX10_layDates_55 (by decide +kernel) ?_
      refine g_iload_n X dX10_layDates_57 rfl rfl ?_
      refine g_imul X dX10_layDates_58 ?_
      refine g_iconst X dX10_layDates_59 ?_
      refine g_iadd X dX10_layDates_60 ?_
      refine g_iald X kd_124 (by omega) (by omega) dX10_layDates_61 ?_
      refine g_iadd X dX10_layDates_62 ?_
      refine g_icmp_gt (tgt := 128) X dX10_layDates_63 (by decide) ⟨by omega, by omega⟩ ⟨by omega, by omega⟩ (fun q63 => ?_) (fun q63 => ?_)
      · rw [hQ]
        refine g_vret X hr hlk dX10_layDates_128 ?_
        have e : (y - yr0 M q).toNat = nY M q := by unfold nY; omega
        rw [e] at e1 e2 e3
        exact ⟨hS, e1, e2, e3⟩
      · refine g_iload_n X dX10_layDates_66 rfl rfl ?_
        refine g_i2l X dX10_layDates_67 ⟨by omega, by omega⟩ ?_
        refine g_lconst X (v := 0) dX10_layDates_68 (by decide +kernel) ?_
        refine g_ldc2 X (n := 400) wd_1056 (by decide +kernel) dX10_layDates_69 ?_
        refine g_callSI X (c_X10_in lL tT dD al _ _ _ _ ⟨by omega, by omega⟩ (by decide) (by decide)) lk_RX10_98 rfl rfl ⟨by decide, by decide⟩ rfl (Nat.le_of_ble_eq_true rfl) dX10_layDates_72 (fun r72 M72 hc72 => ?_)
        obtain ⟨hr72, hm72⟩ := hc72
        subst r72
        subst M72
        refine g_if_eq (tgt := 122) X dX10_layDates_75 (by decide) (b2i_i32 _) (fun q75 => ?_) (fun q75 => ?_)
        · have q75 := b2i_f q75
          refine g_iinc_3 X dX10_layDates_122 rfl (fun v3_122 ev3_122 => ?_)
          subst v3_122
          refine g_goto (tgt := 39) X dX10_layDates_125 (by decide) ?_
          exact g_sub (ih_39 _ _ (by omega) (by omega) (by first | exact hS | exact ((hS.mu _ s44).mu _ s45).mu _ s43) (by clear X hr hlk hQ ih_39; rw [r5.1]; first | (rw [← b2i_0 (by grind)]; omega) | (rw [← b2i_1 (by grind)]; simp [mu]; omega)) (by clear X hr hlk hQ ih_39; rw [r5.2.1]; first | (rw [← b2i_0 (by grind)]; simp; omega) | (rw [← b2i_1 (by grind)]; simp [mu]; grind)) (by clear X hr hlk hQ ih_39; rw [r5.2.2]; first | (rw [← b2i_0 (by grind)]; simp; omega) | (rw [← b2i_1 (by grind)]; simp [mu])) (by omega)) ⟨rfl, rfl, rfl, rfl, trivial⟩
        · have q75 := b2i_t q75
          refine g_aload_n X dX10_layDates_78 rfl rfl ?_
          refine g_iload_n X dX10_layDates_79 rfl rfl ?_
          refine g_iload_n X dX10_layDates_80 rfl rfl ?_
          refine g_iload_n X dX10_layDates_81 rfl rfl ?_
          refine g_callVI X (c_X10_isDate lL tT dD al _ _ _ _ (hS.WV hW) hm0 (by omega) h0 (by omega) (by omega)) kd_114 fc9 lk_RX10_327 rfl rfl ⟨by decide, by decide⟩ rfl (Nat.le_of_ble_eq_true rfl) dX10_layDates_82 (fun r82 M82 hc82 => ?_)
          obtain ⟨hr82, hm82⟩ := hc82
          subst r82
          subst M82
          refine g_if_eq (tgt := 122) X dX10_layDates_85 (by decide) (b2i_i32 _) (fun q85 => ?_) (fun q85 => ?_)
          · have q85 := b2i_f q85
            rw [hS.e_dtP] at q85
            refine g_iinc_3 X dX10_layDates_122 rfl (fun v3_122 ev3_122 => ?_)
            subst v3_122
            refine g_goto (tgt := 39) X dX10_layDates_125 (by decide) ?_
            exact g_sub (ih_39 _ _ (by omega) (by omega) (by first | exact hS | exact ((hS.mu _ s44).mu _ s45).mu _ s43) (by clear X hr hlk hQ ih_39; rw [r5.1]; first | (rw [← b2i_0 (by grind)]; omega) | (rw [← b2i_1 (by grind)]; simp [mu]; omega)) (by clear X hr hlk hQ ih_39; rw [r5.2.1]; first | (rw [← b2i_0 (by grind)]; simp; omega) | (rw [← b2i_1 (by grind)]; simp [mu]; grind)) (by clear X hr hlk hQ ih_39; rw [r5.2.2]; first | (rw [← b2i_0 (by grind)]; simp; omega) | (rw [← b2i_1 (by grind)]; simp [mu])) (by omega)) ⟨rfl, rfl, rfl, rfl, trivial⟩
          · have q85 := b2i_t q85
            rw [hS.e_dtP] at q85
            refine g_aload_n X dX10_layDates_88 rfl rfl ?_
            refine g_aload_n X dX10_layDates_89 rfl rfl ?_
            refine g_geti (kz := 43) X kd_114 fc9 (k := 43) (by decide) rfl wd_870 rfl dX10_layDates_90 ?_
            refine g_if_ne (tgt := 100) X dX10_layDates_93 (by decide) ⟨by omega, by omega⟩ (fun q93 => ?_) (fun q93 => ?_)
            · refine g_aload_n X dX10_layDates_100 rfl rfl ?_
              refine g_geti (kz := 44) X kd_114 fc9 (k := 44) (by decide) rfl wd_871 rfl dX10_layDates_101 ?_
              refine g_puti (kz := 44) X kd_114 fc9 (k := 44) (by decide) rfl wd_871 rfl rfl rfl dX10_layDates_104 ?_
              refine g_aload_n X dX10_layDates_107 rfl rfl ?_
              refine g_iload_n X dX10_layDates_108 rfl rfl ?_
              refine g_puti (kz := 45) X kd_114 fc9 (k := 45) (by decide) rfl wd_872 rfl rfl rfl dX10_layDates_109 ?_
              refine g_aload_n X dX10_layDates_112 rfl rfl ?_
              refine g_dup X dX10_layDates_113 rfl ?_
              refine g_geti (kz := 43) X kd_114 fc9 (k := 43) (by decide) rfl wd_870 rfl dX10_layDates_114 ?_
              refine g_teq (b := (M1 114 43)) (by first | (simp [mu]; done) | (simp only [mu]; repeat (first | rw [if_pos (⟨rfl, rfl⟩)] | rw [if_neg (by omega)]))) ?_
              refine g_iconst X dX10_layDates_117 ?_
              refine g_iadd X dX10_layDates_118 ?_
              refine g_puti (kz := 43) X kd_114 fc9 (k := 43) (by decide) rfl wd_870 rfl rfl rfl dX10_layDates_119 ?_
              refine g_iinc_3 X dX10_layDates_122 rfl (fun v3_122 ev3_122 => ?_)
              subst v3_122
              refine g_goto (tgt := 39) X dX10_layDates_125 (by decide) ?_
              exact g_sub (ih_39 _ _ (by omega) (by omega) (by first | exact hS | exact ((hS.mu _ s44).mu _ s45).mu _ s43) (by clear X hr hlk hQ ih_39; rw [r5.1]; first | (rw [← b2i_0 (by grind)]; omega) | (rw [← b2i_1 (by grind)]; simp [mu]; omega)) (by clear X hr hlk hQ ih_39; rw [r5.2.1]; first | (rw [← b2i_0 (by grind)]; simp; omega) | (rw [← b2i_1 (by grind)]; simp [mu]; grind)) (by clear X hr hlk hQ ih_39; rw [r5.2.2]; first | (rw [← b2i_0 (by grind)]; simp; omega) | (rw [← b2i_1 (by grind)]; simp [mu])) (by omega)) ⟨rfl, rfl, rfl, rfl, trivial⟩
            · refine g_iload_n X dX10_layDates_96 rfl rfl ?_
              refine g_goto (tgt := 104) X dX10_layDates_97 (by decide) ?_
              refine g_puti (kz := 44) X kd_114 fc9 (k := 44) (by decide) rfl wd_871 rfl rfl rfl dX10_layDates_104 ?_
              refine g_aload_n X dX10_layDates_107 rfl rfl ?_
              refine g_iload_n X dX10_layDates_108 rfl rfl ?_
              refine g_puti (kz := 45) X kd_114 fc9 (k := 45) (by decide) rfl wd_872 rfl rfl rfl dX10_layDates_109 ?_
              refine g_aload_n X dX10_layDates_112 rfl rfl ?_
              refine g_dup X dX10_layDates_113 rfl ?_
              refine g_geti (kz := 43) X kd_114 fc9 (k := 43) (by decide) rfl wd_870 rfl dX10_layDates_114 ?_
              refine g_teq (b := (M1 114 43)) (by first | (simp [mu]; done) | (simp only [mu]; repeat (first | rw [if_pos (⟨rfl, rfl⟩)] | rw [if_neg (by omega)]))) ?_
              refine g_iconst X dX10_layDates_117 ?_
              refine g_iadd X dX10_layDates_118 ?_
              refine g_puti (kz := 43) X kd_114 fc9 (k := 43) (by decide) rfl wd_870 rfl rfl rfl dX10_layDates_119 ?_
              refine g_iinc_3 X dX10_layDates_122 rfl (fun v3_122 ev3_122 => ?_)
              subst v3_122
              refine g_goto (tgt := 39) X dX10_layDates_125 (by decide) ?_
              exact g_sub (ih_39 _ _ (by omega) (by omega) (by first | exact hS | exact ((hS.mu _ s44).mu _ s45).mu _ s43) (by clear X hr hlk hQ ih_39; rw [r5.1]; first | (rw [← b2i_0 (by grind)]; omega) | (rw [← b2i_1 (by grind)]; simp [mu]; omega)) (by clear X hr hlk hQ ih_39; rw [r5.2.1]; first | (rw [← b2i_0 (by grind)]; simp; omega) | (rw [← b2i_1 (by grind)]; simp [mu]; grind)) (by clear X hr hlk hQ ih_39; rw [r5.2.2]; first | (rw [← b2i_0 (by grind)]; simp; omega) | (rw [← b2i_1 (by grind)]; simp [mu])) (by omega)) ⟨rfl, rfl, rfl, rfl, trivial⟩
  exact g_sub (L_39 _ _ _ (by omega) (by omega) (((SM.rfl' M).mu _ s43).mu _ s44 |>.mu _ s45) (by rw [show (M 124 (6 * q + 2) - M 124 (6 * q + 3) - yr0 M q).toNat = 0 by omega]; simp [mu, dN]) (by rw [show (M 124 (6 * q + 2) - M 124 (6 * q + 3) - yr0 M q).toNat = 0 by omega]; simp [mu, dF]) (by rw [show (M 124 (6 * q + 2) - M 124 (6 * q + 3) - yr0 M q).toNat = 0 by omega]; simp [mu, dL]) (Nat.lt_succ_self _)) ⟨rfl, rfl, rfl, rfl, trivial⟩
