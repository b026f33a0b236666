set_option maxRecDepth 100000 in
set_option maxHeartbeats 4000000 in
theorem c_X10_lamp (lL : Launch) (tT : TT) (dD : va_G) (al : Int → Nat) (M : Mem)  (hW : WTab M) (hP : WPage M) (hB : B118 M) : CI lL yX10_lamp cX10_lamp 2 FieldType.int 4 91 tT dD al [.ref (al 114)] M (fun r M' => ∃ f Mf, FR 0 M f Mf ∧ lampP M f Mf r M') := by
  refine CI.of (own := "RedSkiesModel") (ls0 := [some (.ref (al 114)), none]) (by decide +kernel) rfl (Nat.le_of_ble_eq_true rfl) rfl ?_
  intro pP eE sS mI aA bB mM cC X hr hlk
  obtain ⟨Q, hQ⟩ : ∃ Q : State → Prop, Q = MQ bB (QI tT dD al (fun r M' => ∃ f Mf, FR 0 M f Mf ∧ lampP M f Mf r M')) aA sS 0 0 (fA al) := ⟨_, rfl⟩
  rw [← hQ]
  have hp0 := hP.1
  have wl := hW.1
  have wm := hW.2.2.1
  refine g_aload_n X dX10_lamp_0 rfl rfl ?_
  refine g_iconst X dX10_lamp_1 ?_
  refine g_callVI X (c_X10_faultOf lL tT dD al _ _ (by decide) hP hB) kd_114 fc9 lk_RX10_156 rfl rfl ⟨by decide, by decide⟩ rfl (Nat.le_of_ble_eq_true rfl) dX10_lamp_2 (fun r2 M2 hc2 => ?_)
  have hR : RD M M2 := hc2.rd
  have r1 : M2 114 1 = M 114 1 := hR.fld (by omega)
  have hf := hc2.1
  refine g_aload_n X dX10_lamp_5 rfl rfl ?_
  refine g_geti (kz := 1) X kd_114 fc9 (k := 1) (by decide) rfl wd_828 rfl dX10_lamp_6 ?_
  refine g_icmp_lt (tgt := 20) X dX10_lamp_9 (by decide) ⟨by omega, by omega⟩ ⟨by omega, by omega⟩ (fun q9 => ?_) (fun q9 => ?_)
  · refine g_bipush X dX10_lamp_20 (by decide +kernel) ?_
    rw [hQ]
    refine g_iret X hr hlk dX10_lamp_22 ?_
    exact ⟨r2, M2, hc2, by unfold lampP; rw [if_pos (by omega)]; exact ⟨rfl, rfl⟩⟩
  · have hG := (hc2.in (by omega)).1 rfl
    have hg := hG.1
    refine g_aload_n X dX10_lamp_12 rfl rfl ?_
    refine g_geti (kz := 2) X kd_114 fc9 (k := 2) (by decide) rfl wd_829 rfl dX10_lamp_13 ?_
    refine g_iconst X dX10_lamp_16 ?_
    refine g_icmp_ge (tgt := 23) X dX10_lamp_17 (by decide) ⟨by omega, by omega⟩ (by decide) (fun q17 => ?_) (fun q17 => ?_)
    · have r13 : M2 114 13 = M 114 13 := hR.fld (by omega)
      refine g_aload_n X dX10_lamp_23 rfl rfl ?_
      refine g_geti (kz := 13) X kd_114 fc9 (k := 13) (by decide) rfl wd_840 rfl dX10_lamp_24 ?_
      refine g_iconst X dX10_lamp_27 ?_
      refine g_icmp_ne (tgt := 34) X dX10_lamp_28 (by decide) ⟨by omega, by omega⟩ (by decide) (fun q28 => ?_) (fun q28 => ?_)
      · refine g_iconst X dX10_lamp_34 ?_
        refine g_istore_n_1 X dX10_lamp_35 rfl rfl (fun v1_35 ev1_35 => ?_)
        subst v1_35
        have L_36 : ∀ (n : Nat) (i : Int) (M9 : Mem), (0 ≤ i) → (i ≤ 3) → (M9 = cpR M2 119 116 (3 * M 114 13) i) → (3 - i).toNat < n → Gd pP lL eE (rmN 4 91) sS mI aA bB mM cC 0 0 Q tT dD al (fA al) 36 [some (.ref (al 114)), some (.int (iN i))] [] M9 := by
          intro n
          induction n with
          | zero => intro i M9 hi hi2 hM9 hm; exact absurd hm (Nat.not_lt_zero _)
          | succ n ih =>
            intro i M9 hi hi2 hM9 hm
            have e13 : M9 114 13 = M 114 13 := by rw [hM9, cpR_o (by decide), r13]
            have ih_36 := ih
            clear ih
            refine g_iload_n X dX10_lamp_36 rfl rfl ?_
            refine g_iconst X dX10_lamp_37 ?_
            refine g_icmp_ge (tgt := 66) X dX10_lamp_38 (by decide) ⟨by omega, by omega⟩ (by decide) (fun q38 => ?_) (fun q38 => ?_)
            · refine g_aload_n X dX10_lamp_66 rfl rfl ?_
              refine g_dup X dX10_lamp_67 rfl ?_
              refine g_geti (kz := 13) X kd_114 fc9 (k := 13) (by decide) rfl wd_840 rfl dX10_lamp_68 ?_
              refine g_iconst X dX10_lamp_71 ?_
              refine g_iadd X dX10_lamp_72 ?_
              refine g_puti (kz := 13) X kd_114 fc9 (k := 13) (by decide) rfl wd_840 rfl rfl rfl dX10_lamp_73 ?_
              refine g_aload_n X dX10_lamp_76 rfl rfl ?_
              refine g_iconst X dX10_lamp_77 ?_
              refine g_puti (kz := 1) X kd_114 fc9 (k := 1) (by decide) rfl wd_828 rfl rfl rfl dX10_lamp_78 ?_
              refine g_aload_n X dX10_lamp_81 rfl rfl ?_
              refine g_geti (kz := 13) X kd_114 fc9 (k := 13) (by decide) rfl wd_840 rfl dX10_lamp_82 ?_
              refine g_teq (b := ((M9 114 13) + 1)) (by first | (simp [mu]; done) | (simp only [mu]; repeat (first | rw [if_pos (⟨rfl, rfl⟩)] | rw [if_neg (by omega)]))) ?_
              refine g_iconst X dX10_lamp_85 ?_
              refine g_isub X dX10_lamp_86 ?_
              rw [hQ]
              refine g_iret X hr hlk dX10_lamp_87 ?_
              obtain rfl : i = 3 := by omega
              exact ⟨r2, M2, hc2, by unfold lampP; rw [if_neg (by omega), if_neg (by omega), e13, hM9]; exact ⟨by omega, rfl⟩⟩
            · refine g_aload_n X dX10_lamp_41 rfl rfl ?_
              refine g_getr (r := 119) X kd_114 fc9 (k := 14) (by decide) rfl wd_841 rfl (by decide) dX10_lamp_42 ?_
              refine g_iconst X dX10_lamp_45 ?_
              refine g_aload_n X dX10_lamp_46 rfl rfl ?_
              refine g_geti (kz := 13) X kd_114 fc9 (k := 13) (by decide) rfl wd_840 rfl dX10_lamp_47 ?_
              refine g_imul X dX10_lamp_50 ?_
              refine g_iload_n X dX10_lamp_51 rfl rfl ?_
              refine g_iadd X dX10_lamp_52 ?_
              refine g_aload_n X dX10_lamp_53 rfl rfl ?_
              refine g_getr (r := 116) X kd_114 fc9 (k := 9) (by decide) rfl wd_836 rfl (by decide) dX10_lamp_54 ?_
              refine g_iload_n X dX10_lamp_57 rfl rfl ?_
              refine g_iald X kd_116 (by omega) (by omega) dX10_lamp_58 ?_
              refine g_iast X kd_119 (by omega) (by omega) dX10_lamp_59 ?_
              refine g_iinc_1 X dX10_lamp_60 rfl (fun v1_60 ev1_60 => ?_)
              subst v1_60
              refine g_goto (tgt := 36) X dX10_lamp_63 (by decide) ?_
              exact g_sub (ih_36 _ _ (by omega) (by omega) (cpR_s hi (by decide) hM9 (by omega)) (by omega)) ⟨rfl, rfl, trivial⟩
        exact g_sub (L_36 _ _ _ (by omega) (by omega) ((cpR_0 _ _ _ _).symm) (Nat.lt_succ_self _)) ⟨rfl, rfl, trivial⟩
      · refine g_bipush X dX10_lamp_31 (by decide +kernel) ?_
        rw [hQ]
        refine g_iret X hr hlk dX10_lamp_33 ?_
        exact ⟨r2, M2, hc2, by unfold lampP; rw [if_neg (by omega), if_pos (by omega)]; exact ⟨rfl, rfl⟩⟩
    · refine g_bipush X dX10_lamp_20 (by decide +kernel) ?_
      rw [hQ]
      refine g_iret X hr hlk dX10_lamp_22 ?_
      exact ⟨r2, M2, hc2, by unfold lampP; rw [if_pos (by omega)]; exact ⟨rfl, rfl⟩⟩
set_option maxRecDepth 100000 in
set_option maxHeartbeats 4000000 in
theorem c_X10_measure (lL : Launch) (tT : TT) (dD : va_G) (al : Int → Nat) (M : Mem)  (hW : WTab M) (hP : WPage M) (hB : B118 M) : CI lL yX10_measure cX10_measure 2 FieldType.int 4 91 tT dD al [.ref (al 114)] M (fun r M' => ∃ f Mf, FR 1 M f Mf ∧ measP M f Mf r M') := by
  refine CI.of (own := "RedSkiesModel") (ls0 := [some (.ref (al 114)), none]) (by decide +kernel) rfl (Nat.le_of_ble_eq_true rfl) rfl ?_
  intro pP eE sS mI aA bB mM cC X hr hlk
  obtain ⟨Q, hQ⟩ : ∃ Q : State → Prop, Q = MQ bB (QI tT dD al (fun r M' => ∃ f Mf, FR 1 M f Mf ∧ measP M f Mf r M')) aA sS 0 0 (fA al) := ⟨_, rfl⟩
  rw [← hQ]
  have hp0 := hP.1
  have wl := hW.1
  have wm := hW.2.2.1
  refine g_aload_n X dX10_measure_0 rfl rfl ?_
  refine g_iconst X dX10_measure_1 ?_
  refine g_callVI X (c_X10_faultOf lL tT dD al _ _ (by decide) hP hB) kd_114 fc9 lk_RX10_156 rfl rfl ⟨by decide, by decide⟩ rfl (Nat.le_of_ble_eq_true rfl) dX10_measure_2 (fun r2 M2 hc2 => ?_)
  have hR : RD M M2 := hc2.rd
  have r1 : M2 114 1 = M 114 1 := hR.fld (by omega)
  have hf := hc2.1
  refine g_aload_n X dX10_measure_5 rfl rfl ?_
  refine g_geti (kz := 1) X kd_114 fc9 (k := 1) (by decide) rfl wd_828 rfl dX10_measure_6 ?_
  refine g_icmp_lt (tgt := 28) X dX10_measure_9 (by decide) ⟨by omega, by omega⟩ ⟨by omega, by omega⟩ (fun q9 => ?_) (fun q9 => ?_)
  · refine g_bipush X dX10_measure_28 (by decide +kernel) ?_
    rw [hQ]
    refine g_iret X hr hlk dX10_measure_30 ?_
    exact ⟨r2, M2, hc2, by unfold measP; rw [if_pos (by omega)]; exact ⟨rfl, rfl⟩⟩
  · have hG := ((hc2.in (by omega)).2.1 rfl).1
    have hg := hG.1
    have hg2 := hG.2.1
    refine g_aload_n X dX10_measure_12 rfl rfl ?_
    refine g_geti (kz := 2) X kd_114 fc9 (k := 2) (by decide) rfl wd_829 rfl dX10_measure_13 ?_
    refine g_iconst X dX10_measure_16 ?_
    refine g_icmp_ne (tgt := 28) X dX10_measure_17 (by decide) ⟨by omega, by omega⟩ (by decide) (fun q17 => ?_) (fun q17 => ?_)
    · refine g_bipush X dX10_measure_28 (by decide +kernel) ?_
      rw [hQ]
      refine g_iret X hr hlk dX10_measure_30 ?_
      exact ⟨r2, M2, hc2, by unfold measP; rw [if_pos (by omega)]; exact ⟨rfl, rfl⟩⟩
    · refine g_aload_n X dX10_measure_20 rfl rfl ?_
      refine g_geti (kz := 6) X kd_114 fc9 (k := 6) (by decide) rfl wd_833 rfl dX10_measure_21 ?_
      refine g_iconst X dX10_measure_24 ?_
      refine g_icmp_eq (tgt := 31) X dX10_measure_25 (by decide) ⟨by omega, by omega⟩ (by decide) (fun q25 => ?_) (fun q25 => ?_)
      · have r15 : M2 114 15 = M 114 15 := hR.fld (by omega)
        refine g_aload_n X dX10_measure_31 rfl rfl ?_
        refine g_geti (kz := 15) X kd_114 fc9 (k := 15) (by decide) rfl wd_842 rfl dX10_measure_32 ?_
        refine g_iconst X dX10_measure_35 ?_
        refine g_icmp_ne (tgt := 42) X dX10_measure_36 (by decide) ⟨by omega, by omega⟩ (by decide) (fun q36 => ?_) (fun q36 => ?_)
        · refine g_iconst X dX10_measure_42 ?_
          refine g_istore_n_1 X dX10_measure_43 rfl rfl (fun v1_43 ev1_43 => ?_)
          subst v1_43
          have L_44 : ∀ (n : Nat) (i : Int) (M9 : Mem), (0 ≤ i) → (i ≤ 24) → (M9 = cpR M2 120 117 (24 * M 114 15) i) → (24 - i).toNat < n → Gd pP lL eE (rmN 4 91) sS mI aA bB mM cC 0 0 Q tT dD al (fA al) 44 [some (.ref (al 114)), some (.int (iN i))] [] M9 := by
            intro n
            induction n with
            | zero => intro i M9 hi hi2 hM9 hm; exact absurd hm (Nat.not_lt_zero _)
            | succ n ih =>
              intro i M9 hi hi2 hM9 hm
              have e15 : M9 114 15 = M 114 15 := by rw [hM9, cpR_o (by decide), r15]
              have ih_44 := ih
              clear ih
              refine g_iload_n X dX10_measure_44 rfl rfl ?_
              refine g_bipush X dX10_measure_45 (by decide +kernel) ?_
              refine g_icmp_ge (tgt := 76) X dX10_measure_47 (by decide) ⟨by omega, by omega⟩ (by decide) (fun q47 => ?_) (fun q47 => ?_)
              · refine g_aload_n X dX10_measure_76 rfl rfl ?_
                refine g_dup X dX10_measure_77 rfl ?_
                refine g_geti (kz := 15) X kd_114 fc9 (k := 15) (by decide) rfl wd_842 rfl dX10_measure_78 ?_
                refine g_iconst X dX10_measure_81 ?_
                refine g_iadd X dX10_measure_82 ?_
                refine g_puti (kz := 15) X kd_114 fc9 (k := 15) (by decide) rfl wd_842 rfl rfl rfl dX10_measure_83 ?_
                refine g_aload_n X dX10_measure_86 rfl rfl ?_
                refine g_iconst X dX10_measure_87 ?_
                refine g_puti (kz := 1) X kd_114 fc9 (k := 1) (by decide) rfl wd_828 rfl rfl rfl dX10_measure_88 ?_
                refine g_aload_n X dX10_measure_91 rfl rfl ?_
                refine g_geti (kz := 15) X kd_114 fc9 (k := 15) (by decide) rfl wd_842 rfl dX10_measure_92 ?_
                refine g_teq (b := ((M9 114 15) + 1)) (by first | (simp [mu]; done) | (simp only [mu]; repeat (first | rw [if_pos (⟨rfl, rfl⟩)] | rw [if_neg (by omega)]))) ?_
                refine g_iconst X dX10_measure_95 ?_
                refine g_isub X dX10_measure_96 ?_
                rw [hQ]
                refine g_iret X hr hlk dX10_measure_97 ?_
                obtain rfl : i = 24 := by omega
                exact ⟨r2, M2, hc2, by unfold measP; rw [if_neg (by omega), if_neg (by omega), e15, hM9]; exact ⟨by omega, rfl⟩⟩
              · refine g_aload_n X dX10_measure_50 rfl rfl ?_
                refine g_getr (r := 120) X kd_114 fc9 (k := 16) (by decide) rfl wd_843 rfl (by decide) dX10_measure_51 ?_
                refine g_bipush X dX10_measure_54 (by decide +kernel) ?_
                refine g_aload_n X dX10_measure_56 rfl rfl ?_
                refine g_geti (kz := 15) X kd_114 fc9 (k := 15) (by decide) rfl wd_842 rfl dX10_measure_57 ?_
                refine g_imul X dX10_measure_60 ?_
                refine g_iload_n X dX10_measure_61 rfl rfl ?_
                refine g_iadd X dX10_measure_62 ?_
                refine g_aload_n X dX10_measure_63 rfl rfl ?_
                refine g_getr (r := 117) X kd_114 fc9 (k := 11) (by decide) rfl wd_838 rfl (by decide) dX10_measure_64 ?_
                refine g_iload_n X dX10_measure_67 rfl rfl ?_
                refine g_iald X kd_117 (by omega) (by omega) dX10_measure_68 ?_
                refine g_iast X kd_120 (by omega) (by omega) dX10_measure_69 ?_
                refine g_iinc_1 X dX10_measure_70 rfl (fun v1_70 ev1_70 => ?_)
                subst v1_70
                refine g_goto (tgt := 44) X dX10_measure_73 (by decide) ?_
                exact g_sub (ih_44 _ _ (by omega) (by omega) (cpR_s hi (by decide) hM9 (by omega)) (by omega)) ⟨rfl, rfl, trivial⟩
          exact g_sub (L_44 _ _ _ (by omega) (by omega) ((cpR_0 _ _ _ _).symm) (Nat.lt_succ_self _)) ⟨rfl, rfl, trivial⟩
        · refine g_bipush X dX10_measure_39 (by decide +kernel) ?_
          rw [hQ]
          refine g_iret X hr hlk dX10_measure_41 ?_
          exact ⟨r2, M2, hc2, by unfold measP; rw [if_neg (by omega), if_pos (by omega)]; exact ⟨rfl, rfl⟩⟩
      · refine g_bipush X dX10_measure_28 (by decide +kernel) ?_
        rw [hQ]
        refine g_iret X hr hlk dX10_measure_30 ?_
        exact ⟨r2, M2, hc2, by unfold measP; rw [if_pos (by omega)]; exact ⟨rfl, rfl⟩⟩
set_option maxRecDepth 100000 in
set_option maxHeartbeats 4000000 in
theorem c_X10_law (lL : Launch) (tT : TT) (dD : va_G) (al : Int → Nat) (M : Mem)  (hW : WTab M) (hP : WPage M) (hB : B118 M) : CI lL yX10_law cX10_law 2 FieldType.int 4 91 tT dD al [.ref (al 114)] M (fun r M' => ∃ f Mf, FR 2 M f Mf ∧ lawP M f Mf r M') := by
  refine CI.of (own := "RedSkiesModel") (ls0 := [some (.ref (al 114)), none]) (by decide +kernel) rfl (Nat.le_of_ble_eq_true rfl) rfl ?_
  intro pP eE sS mI aA bB mM cC X hr hlk
  obtain ⟨Q, hQ⟩ : ∃ Q : State → Prop, Q = MQ bB (QI tT dD al (fun r M' => ∃ f Mf, FR 2 M f Mf ∧ lawP M f Mf r M')) aA sS 0 0 (fA al) := ⟨_, rfl⟩
  rw [← hQ]
  have hp0 := hP.1
  have wl := hW.1
  have wm := hW.2.2.1
  refine g_aload_n X dX10_law_0 rfl rfl ?_
  refine g_iconst X dX10_law_1 ?_
  refine g_callVI X (c_X10_faultOf lL tT dD al _ _ (by decide) hP hB) kd_114 fc9 lk_RX10_156 rfl rfl ⟨by decide, by decide⟩ rfl (Nat.le_of_ble_eq_true rfl) dX10_law_2 (fun r2 M2 hc2 => ?_)
  have hR : RD M M2 := hc2.rd
  have r1 : M2 114 1 = M 114 1 := hR.fld (by omega)
  have hf := hc2.1
  refine g_aload_n X dX10_law_5 rfl rfl ?_
  refine g_geti (kz := 1) X kd_114 fc9 (k := 1) (by decide) rfl wd_828 rfl dX10_law_6 ?_
  refine g_icmp_lt (tgt := 20) X dX10_law_9 (by decide) ⟨by omega, by omega⟩ ⟨by omega, by omega⟩ (fun q9 => ?_) (fun q9 => ?_)
  · refine g_bipush X dX10_law_20 (by decide +kernel) ?_
    rw [hQ]
    refine g_iret X hr hlk dX10_law_22 ?_
    exact ⟨r2, M2, hc2, by unfold lawP; rw [if_pos (by omega)]; exact ⟨rfl, rfl⟩⟩
  · have hG := (hc2.in (by omega)).2.2 rfl
    have hg := hG.1
    refine g_aload_n X dX10_law_12 rfl rfl ?_
    refine g_geti (kz := 2) X kd_114 fc9 (k := 2) (by decide) rfl wd_829 rfl dX10_law_13 ?_
    refine g_iconst X dX10_law_16 ?_
    refine g_icmp_ge (tgt := 23) X dX10_law_17 (by decide) ⟨by omega, by omega⟩ (by decide) (fun q17 => ?_) (fun q17 => ?_)
    · refine g_aload_n X dX10_law_23 rfl rfl ?_
      refine g_aload_n X dX10_law_24 rfl rfl ?_
      refine g_geti (kz := 7) X kd_114 fc9 (k := 7) (by decide) rfl wd_834 rfl dX10_law_25 ?_
      refine g_puti (kz := 17) X kd_114 fc9 (k := 17) (by decide) rfl wd_844 rfl rfl rfl dX10_law_28 ?_
      refine g_iconst X dX10_law_31 ?_
      refine g_istore_n_1 X dX10_law_32 rfl rfl (fun v1_32 ev1_32 => ?_)
      subst v1_32
      have L_33 : ∀ (n : Nat) (i : Int) (M9 : Mem), (0 ≤ i) → (i ≤ 5) → (M9 = cpR (mu M2 114 17 (M2 114 7)) 121 118 0 i) → (5 - i).toNat < n → Gd pP lL eE (rmN 4 91) sS mI aA bB mM cC 0 0 Q tT dD al (fA al) 33 [some (.ref (al 114)), some (.int (iN i))] [] M9 := by
        intro n
        induction n with
        | zero => intro i M9 hi hi2 hM9 hm; exact absurd hm (Nat.not_lt_zero _)
        | succ n ih =>
          intro i M9 hi hi2 hM9 hm
          have e17 : M9 114 17 = M2 114 7 := by rw [hM9, cpR_o (by decide)]; simp [mu]
          have e3 : M9 114 3 = M2 114 3 := by rw [hM9, cpR_o (by decide)]; simp [mu]
          have ih_33 := ih
          clear ih
          refine g_iload_n X dX10_law_33 rfl rfl ?_
          refine g_iconst X dX10_law_34 ?_
          refine g_icmp_ge (tgt := 56) X dX10_law_35 (by decide) ⟨by omega, by omega⟩ (by decide) (fun q35 => ?_) (fun q35 => ?_)
          · refine g_aload_n X dX10_law_56 rfl rfl ?_
            refine g_aload_n X dX10_law_57 rfl rfl ?_
            refine g_geti (kz := 3) X kd_114 fc9 (k := 3) (by decide) rfl wd_830 rfl dX10_law_58 ?_
            refine g_puti (kz := 19) X kd_114 fc9 (k := 19) (by decide) rfl wd_846 rfl rfl rfl dX10_law_61 ?_
            refine g_aload_n X dX10_law_64 rfl rfl ?_
            refine g_iconst X dX10_law_65 ?_
            refine g_puti (kz := 1) X kd_114 fc9 (k := 1) (by decide) rfl wd_828 rfl rfl rfl dX10_law_66 ?_
            refine g_aload_n X dX10_law_69 rfl rfl ?_
            refine g_geti (kz := 17) X kd_114 fc9 (k := 17) (by decide) rfl wd_844 rfl dX10_law_70 ?_
            refine g_teq (b := (M9 114 17)) (by first | (simp [mu]; done) | (simp only [mu]; repeat (first | rw [if_pos (⟨rfl, rfl⟩)] | rw [if_neg (by omega)]))) ?_
            rw [hQ]
            refine g_iret X hr hlk dX10_law_73 ?_
            obtain rfl : i = 5 := by omega
            exact ⟨r2, M2, hc2, by unfold lawP; rw [if_neg (by omega), e3]; exact ⟨e17, by rw [hM9]⟩⟩
          · refine g_aload_n X dX10_law_38 rfl rfl ?_
            refine g_getr (r := 121) X kd_114 fc9 (k := 18) (by decide) rfl wd_845 rfl (by decide) dX10_law_39 ?_
            refine g_iload_n X dX10_law_42 rfl rfl ?_
            refine g_aload_n X dX10_law_43 rfl rfl ?_
            refine g_getr (r := 118) X kd_114 fc9 (k := 12) (by decide) rfl wd_839 rfl (by decide) dX10_law_44 ?_
            refine g_iload_n X dX10_law_47 rfl rfl ?_
            refine g_iald X kd_118 (by omega) (by omega) dX10_law_48 ?_
            refine g_iast X kd_121 (by omega) (by omega) dX10_law_49 ?_
            refine g_iinc_1 X dX10_law_50 rfl (fun v1_50 ev1_50 => ?_)
            subst v1_50
            refine g_goto (tgt := 33) X dX10_law_53 (by decide) ?_
            exact g_sub (ih_33 _ _ (by omega) (by omega) (cpR_s hi (by decide) hM9 (by omega)) (by omega)) ⟨rfl, rfl, trivial⟩
      exact g_sub (L_33 _ _ _ (by omega) (by omega) ((cpR_0 _ _ _ _).symm) (Nat.lt_succ_self _)) ⟨rfl, rfl, trivial⟩
    · refine g_bipush X dX10_law_20 (by decide +kernel) ?_
      rw [hQ]
      refine g_iret X hr hlk dX10_law_22 ?_
      exact ⟨r2, M2, hc2, by unfold lawP; rw [if_pos (by omega)]; exact ⟨rfl, rfl⟩⟩
