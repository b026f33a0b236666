set_option maxRecDepth 100000 in
set_option maxHeartbeats 4000000 in
theorem c_X10_layHand (lL : Launch) (tT : TT) (dD : va_G) (al : Int → Nat) (M : Mem) (g : Int) (hL : LK M) (hg : 0 ≤ g ∧ g ≤ 4) : CI lL yX10_layHand cX10_layHand 8 FieldType.int 1 24 tT dD al [.ref (al 114), .int (iN g)] M (fun r M' => r = kP one1 (M 127) (M 129) g (M 114 29).toNat ∧ OW M M' ∧ tabW M M' g (M 114 29).toNat) := by
  refine CI.of (own := "RedSkiesModel") (ls0 := [some (.ref (al 114)), some (.int (iN g)), none, none, none, none, none, none]) (by decide +kernel) rfl (Nat.le_of_ble_eq_true rfl) rfl ?_
  intro pP eE sS mI aA bB mM cC X hr hlk
  obtain ⟨Q, hQ⟩ : ∃ Q : State → Prop, Q = MQ bB (QI tT dD al (fun r M' => r = kP one1 (M 127) (M 129) g (M 114 29).toNat ∧ OW M M' ∧ tabW M M' g (M 114 29).toNat)) aA sS 0 0 (fA al) := ⟨_, rfl⟩
  rw [← hQ]
  have w0 := hL.1
  refine g_iconst X dX10_layHand_0 ?_
  refine g_istore_n_2 X dX10_layHand_1 rfl rfl (fun v2_1 ev2_1 => ?_)
  subst v2_1
  refine g_iconst X dX10_layHand_2 ?_
  refine g_istore_n_3 X dX10_layHand_3 rfl rfl (fun v3_3 ev3_3 => ?_)
  subst v3_3
  refine g_iconst X dX10_layHand_4 ?_
  refine g_istore_4 X dX10_layHand_5 rfl (fun v4_5 ev4_5 => ?_)
  subst v4_5
  have L_7 : ∀ (n : Nat) (z : Int) (M1 : Mem), (0 ≤ z) → (z ≤ 8721) → (M1 = zf M z) → (8721 - z).toNat < n → Gd pP lL eE (rmN 1 24) sS mI aA bB mM cC 0 0 Q tT dD al (fA al) 7 [some (.ref (al 114)), some (.int (iN g)), some (.int (iN 0)), some (.int (iN 0)), some (.int (iN z)), none, none, none] [] M1 := by
    intro n
    induction n with
    | zero => intro z M1 hz hz2 hM1 hm; exact absurd hm (Nat.not_lt_zero _)
    | succ n ih =>
      intro z M1 hz hz2 hM1 hm
      have ih_7 := ih
      clear ih
      refine g_iload X dX10_layHand_7 rfl ?_
      refine g_sipush X dX10_layHand_9 (by decide +kernel) ?_
      refine g_icmp_ge (tgt := 29) X dX10_layHand_12 (by decide) ⟨by omega, by omega⟩ (by decide) (fun q12 => ?_) (fun q12 => ?_)
      · refine g_aload_n X dX10_layHand_29 rfl rfl ?_
        refine g_getr (r := 131) X kd_114 fc9 (k := 34) (by decide) rfl wd_861 rfl (by decide) dX10_layHand_30 ?_
        refine g_sipush X dX10_layHand_33 (by decide +kernel) ?_
        refine g_lconst X (v := 1) dX10_layHand_36 (by decide +kernel) ?_
        refine g_last X kd_131 (by decide) (by decide) dX10_layHand_37 ?_
        refine g_iconst X dX10_layHand_38 ?_
        refine g_istore_4 X dX10_layHand_39 rfl (fun v4_39 ev4_39 => ?_)
        subst v4_39
        have L_41 : ∀ (n : Nat) (near : Int) (so : Int) (i : Int) (M2 : Mem), (0 ≤ i) → (i ≤ M 114 29) → (near = kP one1 (M 127) (M 129) g i.toNat) → (so = cP one1 (M 127) g i.toNat) → (OW M M2) → (tabW M M2 g i.toNat) → (16 - i).toNat < n → Gd pP lL eE (rmN 1 24) sS mI aA bB mM cC 0 0 Q tT dD al (fA al) 41 [some (.ref (al 114)), some (.int (iN g)), some (.int (iN near)), some (.int (iN so)), some (.int (iN i)), none, none, none] [] M2 := by
          intro n
          induction n with
          | zero => intro near so i M2 hi hi2 hn hso hO hT hm; exact absurd hm (Nat.not_lt_zero _)
          | succ n ih =>
            intro near so i M2 hi hi2 hn hso hO hT hm
            have r114 := hO 114 (by omega)
            have r127 := hO 127 (by omega)
            have r129 := hO 129 (by omega)
            have f29 : M2 114 29 = M 114 29 := by rw [r114]
            have f127 : M2 127 i = M 127 i := by rw [r127]
            have f129 : M2 129 i = M 129 i := by rw [r129]
            have hcr := cP_rng one1 (M 127) g i.toNat
            have hkr := kP_rng one1 (M 127) (M 129) g i.toNat
            have ei : (i + 1).toNat = i.toNat + 1 := by omega
            have ei2 : ((i.toNat : Nat) : Int) = i := by omega
            have eh2 := hO.mu 0 0
            have ot2 : OT M M2 := (OT.rf M).ow hO
            have ih_41 := ih
            clear ih
            refine g_iload X dX10_layHand_41 rfl ?_
            refine g_aload_n X dX10_layHand_43 rfl rfl ?_
            refine g_geti (kz := 29) X kd_114 fc9 (k := 29) (by decide) rfl wd_856 rfl dX10_layHand_44 ?_
            refine g_icmp_ge (tgt := 164) X dX10_layHand_47 (by decide) ⟨by omega, by omega⟩ ⟨by omega, by omega⟩ (fun q47 => ?_) (fun q47 => ?_)
            · refine g_iload_n X dX10_layHand_164 rfl rfl ?_
              rw [hQ]
              refine g_iret X hr hlk dX10_layHand_165 ?_
              obtain rfl : i = M 114 29 := by omega
              exact ⟨hn, hO, hT⟩
            · have w2 := hL.2 i hi (by omega)
              refine g_aload_n X dX10_layHand_50 rfl rfl ?_
              refine g_getr (r := 127) X kd_114 fc9 (k := 30) (by decide) rfl wd_857 rfl (by decide) dX10_layHand_51 ?_
              refine g_iload X dX10_layHand_54 rfl ?_
              refine g_iald X kd_127 (by omega) (by omega) dX10_layHand_56 ?_
              refine g_iload_n X dX10_layHand_57 rfl rfl ?_
              refine g_icmp_ne (tgt := 158) X dX10_layHand_58 (by decide) ⟨by omega, by omega⟩ ⟨by omega, by omega⟩ (fun q58 => ?_) (fun q58 => ?_)
              · refine g_iinc_4 X dX10_layHand_158 rfl (fun v4_158 ev4_158 => ?_)
                subst v4_158
                refine g_goto (tgt := 41) X dX10_layHand_161 (by decide) ?_
                exact g_sub (ih_41 _ _ _ _ (by omega) (by omega) (by clear X hr hlk hQ ih_7 ih_41; rw [ei, kP_s, ei2]; have := hL.2 i hi (by omega); unfold one1 at *; grind) (by clear X hr hlk hQ ih_7 ih_41; rw [ei, cP_s, ei2]; unfold one1 at *; grind) (by first | exact hO | exact hO3) (by rw [ei]; first | exact tab_non (by rw [ei2]; omega) hT | (obtain rfl : k = 0 := (by omega); exact tab_out (by rw [ei2]; omega) hX)) (by omega)) ⟨rfl, rfl, rfl, rfl, rfl, trivial⟩
              · refine g_aload_n X dX10_layHand_61 rfl rfl ?_
                refine g_iload X dX10_layHand_62 rfl ?_
                refine g_callVI X (c_X10_standing lL tT dD al _ _ (ot2.e_LK hL) hi (by omega)) kd_114 fc9 lk_RX10_259 rfl rfl ⟨by decide, by decide⟩ rfl (Nat.le_of_ble_eq_true rfl) dX10_layHand_64 (fun r64 M64 hc64 => ?_)
                obtain ⟨hr64, hm64⟩ := hc64
                subst r64
                subst M64
                refine g_teq (b := agM M i) (by rw [ot2.e_agM]) ?_
                refine g_istore_5 X dX10_layHand_67 rfl (fun v5_67 ev5_67 => ?_)
                subst v5_67
                have hag := agM_rng hL hi (by omega)
                refine g_iinc_3 X dX10_layHand_69 rfl (fun v3_69 ev3_69 => ?_)
                subst v3_69
                refine g_iload_n X dX10_layHand_72 rfl rfl ?_
                refine g_aload_n X dX10_layHand_73 rfl rfl ?_
                refine g_getr (r := 129) X kd_114 fc9 (k := 32) (by decide) rfl wd_859 rfl (by decide) dX10_layHand_74 ?_
                refine g_iload X dX10_layHand_77 rfl ?_
                refine g_zald X kd_129 (by omega) (by omega) dX10_layHand_79 ?_
                refine g_if_eq (tgt := 87) X dX10_layHand_80 (by decide) ⟨by omega, by omega⟩ (fun q80 => ?_) (fun q80 => ?_)
                · refine g_iconst X dX10_layHand_87 ?_
                  refine g_iadd X dX10_layHand_88 ?_
                  refine g_istore_n_2 X dX10_layHand_89 rfl rfl (fun v2_89 ev2_89 => ?_)
                  subst v2_89
                  refine g_iload_n X dX10_layHand_90 rfl rfl ?_
                  refine g_istore_6 X dX10_layHand_91 rfl (fun v6_91 ev6_91 => ?_)
                  subst v6_91
                  have L_93 : ∀ (n : Nat) (k : Int) (M3 : Mem), (0 ≤ k) → (k ≤ so + 1) → (OW M M3) → (tabX M M3 g i.toNat k 0) → k.toNat < n → Gd pP lL eE (rmN 1 24) sS mI aA bB mM cC 0 0 Q tT dD al (fA al) 93 [some (.ref (al 114)), some (.int (iN g)), some (.int (iN (near + 0))), some (.int (iN (so + 1))), some (.int (iN i)), some (.int (iN (agM M i))), some (.int (iN k)), none] [] M3 := by
                    intro n
                    induction n with
                    | zero => intro k M3 hk hk2 hO3 hX hm; exact absurd hm (Nat.not_lt_zero _)
                    | succ n ih =>
                      intro k M3 hk hk2 hO3 hX hm
                      have r114b := hO3 114 (by omega)
                      have ih_93 := ih
                      clear ih
                      refine g_iload X dX10_layHand_93 rfl ?_
                      refine g_if_le (tgt := 158) X dX10_layHand_95 (by decide) ⟨by omega, by omega⟩ (fun q95 => ?_) (fun q95 => ?_)
                      · refine g_iinc_4 X dX10_layHand_158 rfl (fun v4_158 ev4_158 => ?_)
                        subst v4_158
                        refine g_goto (tgt := 41) X dX10_layHand_161 (by decide) ?_
                        exact g_sub (ih_41 _ _ _ _ (by omega) (by omega) (by clear X hr hlk hQ ih_7 ih_41 ih_93; rw [ei, kP_s, ei2]; have := hL.2 i hi (by omega); unfold one1 at *; grind) (by clear X hr hlk hQ ih_7 ih_41 ih_93; rw [ei, cP_s, ei2]; unfold one1 at *; grind) (by first | exact hO | exact hO3) (by rw [ei]; first | exact tab_non (by rw [ei2]; omega) hT | (obtain rfl : k = 0 := (by omega); exact tab_out (by rw [ei2]; omega) hX)) (by omega)) ⟨rfl, rfl, rfl, rfl, rfl, trivial⟩
                      · refine g_bipush X dX10_layHand_98 (by decide +kernel) ?_
                        refine g_istore_7 X dX10_layHand_100 rfl (fun v7_100 ev7_100 => ?_)
                        subst v7_100
                        have L_102 : ∀ (n : Nat) (s : Int) (M4 : Mem), (16 ≤ s) → (s ≤ 497) → (OW M M4) → (tabX M M4 g i.toNat k s) → (497 - s).toNat < n → Gd pP lL eE (rmN 1 24) sS mI aA bB mM cC 0 0 Q tT dD al (fA al) 102 [some (.ref (al 114)), some (.int (iN g)), some (.int (iN (near + 0))), some (.int (iN (so + 1))), some (.int (iN i)), some (.int (iN (agM M i))), some (.int (iN k)), some (.int (iN s))] [] M4 := by
                          intro n
                          induction n with
                          | zero => intro s M4 hs hs2 hO4 hX4 hm; exact absurd hm (Nat.not_lt_zero _)
                          | succ n ih =>
                            intro s M4 hs hs2 hO4 hX4 hm
                            have ih_102 := ih
                            clear ih
                            refine g_iload X dX10_layHand_102 rfl ?_
                            refine g_sipush X dX10_layHand_104 (by decide +kernel) ?_
                            refine g_icmp_ge (tgt := 152) X dX10_layHand_107 (by decide) ⟨by omega, by omega⟩ (by decide) (fun q107 => ?_) (fun q107 => ?_)
                            · refine g_iinc_6 X dX10_layHand_152 rfl (fun v6_152 ev6_152 => ?_)
                              subst v6_152
                              refine g_goto (tgt := 93) X dX10_layHand_155 (by decide) ?_
                              exact g_sub (ih_93 _ _ (by omega) (by omega) (hO4) (tab_497 hL (by omega) (by rw [ei2]; omega) (by omega) (by omega) (by obtain rfl : s = 497 := (by omega); exact hX4)) (by omega)) ⟨rfl, rfl, rfl, rfl, rfl, rfl, rfl, trivial⟩
                            · refine g_aload_n X dX10_layHand_110 rfl rfl ?_
                              refine g_getr (r := 131) X kd_114 fc9 (k := 34) (by decide) rfl wd_861 rfl (by decide) dX10_layHand_111 ?_
                              refine g_sipush X dX10_layHand_114 (by decide +kernel) ?_
                              refine g_iload X dX10_layHand_117 rfl ?_
                              refine g_imul X dX10_layHand_119 ?_
                              refine g_iload X dX10_layHand_120 rfl ?_
                              refine g_iadd X dX10_layHand_122 ?_
                              refine g_dup2 X dX10_layHand_123 rfl rfl ?_
                              refine g_lald X kd_131 (by omega) (by omega) dX10_layHand_124 ?_
                              refine g_aload_n X dX10_layHand_125 rfl rfl ?_
                              refine g_getr (r := 131) X kd_114 fc9 (k := 34) (by decide) rfl wd_861 rfl (by decide) dX10_layHand_126 ?_
                              refine g_sipush X dX10_layHand_129 (by decide +kernel) ?_
                              refine g_iload X dX10_layHand_132 rfl ?_
                              refine g_iconst X dX10_layHand_134 ?_
                              refine g_isub X dX10_layHand_135 ?_
                              refine g_imul X dX10_layHand_136 ?_
                              refine g_iload X dX10_layHand_137 rfl ?_
                              refine g_iadd X dX10_layHand_139 ?_
                              refine g_iload X dX10_layHand_140 rfl ?_
                              refine g_isub X dX10_layHand_142 ?_
                              refine g_lald X kd_131 (by omega) (by omega) dX10_layHand_143 ?_
                              refine g_ladd X dX10_layHand_144 ?_
                              refine g_last X kd_131 (by omega) (by omega) dX10_layHand_145 ?_
                              refine g_iinc_7 X dX10_layHand_146 rfl (fun v7_146 ev7_146 => ?_)
                              subst v7_146
                              refine g_goto (tgt := 102) X dX10_layHand_149 (by decide) ?_
                              exact g_sub (ih_102 _ _ (by omega) (by omega) (hO4.mu _ _) (tab_s (by rw [ei2]; omega) (by rw [ei2]) hag (by omega) (by omega) hs (by omega) hX4) (by omega)) ⟨rfl, rfl, rfl, rfl, rfl, rfl, rfl, rfl, trivial⟩
                        exact g_sub (L_102 _ _ _ (by omega) (by omega) (hO3) (tab_16 hL (by omega) (by rw [ei2]; omega) (by omega) (by omega) hX) (Nat.lt_succ_self _)) ⟨rfl, rfl, rfl, rfl, rfl, rfl, rfl, rfl, trivial⟩
                  exact g_sub (L_93 _ _ _ (by omega) (by omega) (hO) (tab_in hT (by rw [ei2]; omega) (by omega)) (Nat.lt_succ_self _)) ⟨rfl, rfl, rfl, rfl, rfl, rfl, rfl, trivial⟩
                · refine g_iconst X dX10_layHand_83 ?_
                  refine g_goto (tgt := 88) X dX10_layHand_84 (by decide) ?_
                  refine g_iadd X dX10_layHand_88 ?_
                  refine g_istore_n_2 X dX10_layHand_89 rfl rfl (fun v2_89 ev2_89 => ?_)
                  subst v2_89
                  refine g_iload_n X dX10_layHand_90 rfl rfl ?_
                  refine g_istore_6 X dX10_layHand_91 rfl (fun v6_91 ev6_91 => ?_)
                  subst v6_91
                  have L_93 : ∀ (n : Nat) (k : Int) (M3 : Mem), (0 ≤ k) → (k ≤ so + 1) → (OW M M3) → (tabX M M3 g i.toNat k 0) → k.toNat < n → Gd pP lL eE (rmN 1 24) sS mI aA bB mM cC 0 0 Q tT dD al (fA al) 93 [some (.ref (al 114)), some (.int (iN g)), some (.int (iN (near + 1))), some (.int (iN (so + 1))), some (.int (iN i)), some (.int (iN (agM M i))), some (.int (iN k)), none] [] M3 := by
                    intro n
                    induction n with
                    | zero => intro k M3 hk hk2 hO3 hX hm; exact absurd hm (Nat.not_lt_zero _)
                    | succ n ih =>
                      intro k M3 hk hk2 hO3 hX hm
                      have r114b := hO3 114 (by omega)
                      have ih_93 := ih
                      clear ih
                      refine g_iload X dX10_layHand_93 rfl ?_
                      refine g_if_le (tgt := 158) X dX10_layHand_95 (by decide) ⟨by omega, by omega⟩ (fun q95 => ?_) (fun q95 => ?_)
                      · refine g_iinc_4 X dX10_layHand_158 rfl (fun v4_158 ev4_158 => ?_)
                        subst v4_158
                        refine g_goto (tgt := 41) X dX10_layHand_161 (by decide) ?_
                        exact g_sub (ih_41 _ _ _ _ (by omega) (by omega) (by clear X hr hlk hQ ih_7 ih_41 ih_93; rw [ei, kP_s, ei2]; have := hL.2 i hi (by omega); unfold one1 at *; grind) (by clear X hr hlk hQ ih_7 ih_41 ih_93; rw [ei, cP_s, ei2]; unfold one1 at *; grind) (by first | exact hO | exact hO3) (by rw [ei]; first | exact tab_non (by rw [ei2]; omega) hT | (obtain rfl : k = 0 := (by omega); exact tab_out (by rw [ei2]; omega) hX)) (by omega)) ⟨rfl, rfl, rfl, rfl, rfl, trivial⟩
                      · refine g_bipush X dX10_layHand_98 (by decide +kernel) ?_
                        refine g_istore_7 X dX10_layHand_100 rfl (fun v7_100 ev7_100 => ?_)
                        subst v7_100
                        have L_102 : ∀ (n : Nat) (s : Int) (M4 : Mem), (16 ≤ s) → (s ≤ 497) → (OW M M4) → (tabX M M4 g i.toNat k s) → (497 - s).toNat < n → Gd pP lL eE (rmN 1 24) sS mI aA bB mM cC 0 0 Q tT dD al (fA al) 102 [some (.ref (al 114)), some (.int (iN g)), some (.int (iN (near + 1))), some (.int (iN (so + 1))), some (.int (iN i)), some (.int (iN (agM M i))), some (.int (iN k)), some (.int (iN s))] [] M4 := by
                          intro n
                          induction n with
                          | zero => intro s M4 hs hs2 hO4 hX4 hm; exact absurd hm (Nat.not_lt_zero _)
                          | succ n ih =>
                            intro s M4 hs hs2 hO4 hX4 hm
                            have ih_102 := ih
                            clear ih
                            refine g_iload X dX10_layHand_102 rfl ?_
                            refine g_sipush X dX10_layHand_104 (by decide +kernel) ?_
                            refine g_icmp_ge (tgt := 152) X dX10_layHand_107 (by decide) ⟨by omega, by omega⟩ (by decide) (fun q107 => ?_) (fun q107 => ?_)
                            · refine g_iinc_6 X dX10_layHand_152 rfl (fun v6_152 ev6_152 => ?_)
                              subst v6_152
                              refine g_goto (tgt := 93) X dX10_layHand_155 (by decide) ?_
                              exact g_sub (ih_93 _ _ (by omega) (by omega) (hO4) (tab_497 hL (by omega) (by rw [ei2]; omega) (by omega) (by omega) (by obtain rfl : s = 497 := (by omega); exact hX4)) (by omega)) ⟨rfl, rfl, rfl, rfl, rfl, rfl, rfl, trivial⟩
                            · refine g_aload_n X dX10_layHand_110 rfl rfl ?_
                              refine g_getr (r := 131) X kd_114 fc9 (k := 34) (by decide) rfl wd_861 rfl (by decide) dX10_layHand_111 ?_
                              refine g_sipush X dX10_layHand_114 (by decide +kernel) ?_
                              refine g_iload X dX10_layHand_117 rfl ?_
                              refine g_imul X dX10_layHand_119 ?_
                              refine g_iload X dX10_layHand_120 rfl ?_
                              refine g_iadd X dX10_layHand_122 ?_
                              refine g_dup2 X dX10_layHand_123 rfl rfl ?_
                              refine g_lald X kd_131 (by omega) (by omega) dX10_layHand_124 ?_
                              refine g_aload_n X dX10_layHand_125 rfl rfl ?_
                              refine g_getr (r := 131) X kd_114 fc9 (k := 34) (by decide) rfl wd_861 rfl (by decide) dX10_layHand_126 ?_
                              refine g_sipush X dX10_layHand_129 (by decide +kernel) ?_
                              refine g_iload X dX10_layHand_132 rfl ?_
                              refine g_iconst X dX10_layHand_134 ?_
                              refine g_isub X dX10_layHand_135 ?_
                              refine g_imul X dX10_layHand_136 ?_
                              refine g_iload X dX10_layHand_137 rfl ?_
                              refine g_iadd X dX10_layHand_139 ?_
                              refine g_iload X dX10_layHand_140 rfl ?_
                              refine g_isub X dX10_layHand_142 ?_
                              refine g_lald X kd_131 (by omega) (by omega) dX10_layHand_143 ?_
                              refine g_ladd X dX10_layHand_144 ?_
                              refine g_last X kd_131 (by omega) (by omega) dX10_layHand_145 ?_
                              refine g_iinc_7 X dX10_layHand_146 rfl (fun v7_146 ev7_146 => ?_)
                              subst v7_146
                              refine g_goto (tgt := 102) X dX10_layHand_149 (by decide) ?_
                              exact g_sub (ih_102 _ _ (by omega) (by omega) (hO4.mu _ _) (tab_s (by rw [ei2]; omega) (by rw [ei2]) hag (by omega) (by omega) hs (by omega) hX4) (by omega)) ⟨rfl, rfl, rfl, rfl, rfl, rfl, rfl, rfl, trivial⟩
                        exact g_sub (L_102 _ _ _ (by omega) (by omega) (hO3) (tab_16 hL (by omega) (by rw [ei2]; omega) (by omega) (by omega) hX) (Nat.lt_succ_self _)) ⟨rfl, rfl, rfl, rfl, rfl, rfl, rfl, rfl, trivial⟩
                  exact g_sub (L_93 _ _ _ (by omega) (by omega) (hO) (tab_in hT (by rw [ei2]; omega) (by omega)) (Nat.lt_succ_self _)) ⟨rfl, rfl, rfl, rfl, rfl, rfl, rfl, trivial⟩
        exact g_sub (L_41 _ _ _ _ _ (by omega) (by omega) (rfl) (rfl) (by rw [hM1]; exact OW.mu (fun o ho => by funext j; simp only [zf]; rw [if_neg (by omega)]) _ _) (by obtain rfl : z = 8721 := (by omega); rw [hM1]; exact tab_0 g) (Nat.lt_succ_self _)) ⟨rfl, rfl, rfl, rfl, rfl, trivial⟩
      · refine g_aload_n X dX10_layHand_15 rfl rfl ?_
        refine g_getr (r := 131) X kd_114 fc9 (k := 34) (by decide) rfl wd_861 rfl (by decide) dX10_layHand_16 ?_
        refine g_iload X dX10_layHand_19 rfl ?_
        refine g_lconst X (v := 0) dX10_layHand_21 (by decide +kernel) ?_
        refine g_last X kd_131 (by omega) (by omega) dX10_layHand_22 ?_
        refine g_iinc_4 X dX10_layHand_23 rfl (fun v4_23 ev4_23 => ?_)
        subst v4_23
        refine g_goto (tgt := 7) X dX10_layHand_26 (by decide) ?_
        exact g_sub (ih_7 _ _ (by omega) (by omega) (by rw [hM1]; exact zf_s hz) (by omega)) ⟨rfl, rfl, rfl, rfl, rfl, trivial⟩
  exact g_sub (L_7 _ _ _ (by omega) (by omega) (by funext o j; simp only [zf]; rw [if_neg (by omega)]) (Nat.lt_succ_self _)) ⟨rfl, rfl, rfl, rfl, rfl, trivial⟩
