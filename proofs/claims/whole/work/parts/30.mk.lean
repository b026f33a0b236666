set_option maxRecDepth 100000 in
set_option maxHeartbeats 4000000 in
theorem c_X10_layTotal (lL : Launch) (tT : TT) (dD : va_G) (al : Int → Nat) (M : Mem)  (hL : LK M) : CV lL yX10_layTotal cX10_layTotal 7 2 51 tT dD al [.ref (al 114)] M (fun M' => OT M M' ∧ RT (fun j => DM M 5 (j - 256)) M' 132 0 513) := by
  refine CV.of (own := "RedSkiesModel") (ls0 := [some (.ref (al 114)), none, none, none, none, none, none]) (by decide +kernel) rfl (Nat.le_of_ble_eq_true rfl) rfl ?_
  intro pP eE sS mI aA bB mM cC X hr hlk
  obtain ⟨Q, hQ⟩ : ∃ Q : State → Prop, Q = MQ bB (QV tT dD al (fun M' => OT M M' ∧ RT (fun j => DM M 5 (j - 256)) M' 132 0 513)) aA sS 0 0 (fA al) := ⟨_, rfl⟩
  rw [← hQ]
  have w0 := hL.1
  refine g_iconst X dX10_layTotal_0 ?_
  refine g_istore_n_1 X dX10_layTotal_1 rfl rfl (fun v1_1 ev1_1 => ?_)
  subst v1_1
  have L_2 : ∀ (n : Nat) (s : Int) (M1 : Mem), (0 ≤ s) → (s ≤ 513) → (OT M M1) → (RT (fun j => DM M 0 (j - 256)) M1 132 0 s) → (513 - s).toNat < n → Gd pP lL eE (rmN 2 51) sS mI aA bB mM cC 0 0 Q tT dD al (fA al) 2 [some (.ref (al 114)), some (.int (iN s)), none, none, none, none, none] [] M1 := by
    intro n
    induction n with
    | zero => intro s M1 hs hs2 hO hD hm; exact absurd hm (Nat.not_lt_zero _)
    | succ n ih =>
      intro s M1 hs hs2 hO hD hm
      have ih_2 := ih
      clear ih
      refine g_iload_n X dX10_layTotal_2 rfl rfl ?_
      refine g_sipush X dX10_layTotal_3 (by decide +kernel) ?_
      refine g_icmp_ge (tgt := 33) X dX10_layTotal_6 (by decide) ⟨by omega, by omega⟩ (by decide) (fun q6 => ?_) (fun q6 => ?_)
      · refine g_iconst X dX10_layTotal_33 ?_
        refine g_istore_n_1 X dX10_layTotal_34 rfl rfl (fun v1_34 ev1_34 => ?_)
        subst v1_34
        have L_35 : ∀ (n : Nat) (g : Int) (M2 : Mem), (0 ≤ g) → (g ≤ 5) → (OT M M2) → (RT (fun j => DM M g.toNat (j - 256)) M2 132 0 513) → (5 - g).toNat < n → Gd pP lL eE (rmN 2 51) sS mI aA bB mM cC 0 0 Q tT dD al (fA al) 35 [some (.ref (al 114)), some (.int (iN g)), none, none, none, none, none] [] M2 := by
          intro n
          induction n with
          | zero => intro g M2 hg hg2 hO2 hD2 hm; exact absurd hm (Nat.not_lt_zero _)
          | succ n ih =>
            intro g M2 hg hg2 hO2 hD2 hm
            have ih_35 := ih
            clear ih
            refine g_iload_n X dX10_layTotal_35 rfl rfl ?_
            refine g_iconst X dX10_layTotal_36 ?_
            refine g_icmp_ge (tgt := 176) X dX10_layTotal_37 (by decide) ⟨by omega, by omega⟩ (by decide) (fun q37 => ?_) (fun q37 => ?_)
            · rw [hQ]
              refine g_vret X hr hlk dX10_layTotal_176 ?_
              obtain rfl : g = 5 := by omega
              exact ⟨hO2, hD2⟩
            · refine g_aload_n X dX10_layTotal_40 rfl rfl ?_
              refine g_iload_n X dX10_layTotal_41 rfl rfl ?_
              refine g_callVI X (c_X10_layHand lL tT dD al _ _ (hO2.e_LK hL) (by omega)) kd_114 fc9 lk_RX10_269 rfl rfl ⟨by decide, by decide⟩ rfl (Nat.le_of_ble_eq_true rfl) dX10_layTotal_42 (fun r42 M42 hc42 => ?_)
              obtain ⟨hr42, hc42⟩ := hc42
              subst r42
              obtain ⟨hw42, ht42⟩ := hc42
              refine g_teq (b := kG M g) (by show kG M2 g = _; rw [hO2.e_kG]) ?_
              refine g_istore_n_2 X dX10_layTotal_45 rfl rfl (fun v2_45 ev2_45 => ?_)
              subst v2_45
              refine g_iconst X dX10_layTotal_46 ?_
              refine g_istore_n_3 X dX10_layTotal_47 rfl rfl (fun v3_47 ev3_47 => ?_)
              subst v3_47
              have L_48 : ∀ (n : Nat) (s : Int) (M4 : Mem), (0 ≤ s) → (s ≤ 513) → (OT M M4) → (tabW M M4 g (M 114 29).toNat) → (RT (fun j => DM M g.toNat (j - 256)) M4 133 0 s) → (RT (fun j => 0) M4 132 0 s) → (RT (fun j => DM M g.toNat (j - 256)) M4 132 s 513) → (513 - s).toNat < n → Gd pP lL eE (rmN 2 51) sS mI aA bB mM cC 0 0 Q tT dD al (fA al) 48 [some (.ref (al 114)), some (.int (iN g)), some (.int (iN (kG M g))), some (.int (iN s)), none, none, none] [] M4 := by
                intro n
                induction n with
                | zero => intro s M4 hs hs2 hO4 hW4 hB4 hZ4 hR4 hm; exact absurd hm (Nat.not_lt_zero _)
                | succ n ih =>
                  intro s M4 hs hs2 hO4 hW4 hB4 hZ4 hR4 hm
                  have ih_48 := ih
                  clear ih
                  refine g_iload_n X dX10_layTotal_48 rfl rfl ?_
                  refine g_sipush X dX10_layTotal_49 (by decide +kernel) ?_
                  refine g_icmp_ge (tgt := 80) X dX10_layTotal_52 (by decide) ⟨by omega, by omega⟩ (by decide) (fun q52 => ?_) (fun q52 => ?_)
                  · refine g_iconst X dX10_layTotal_80 ?_
                    refine g_istore_n_3 X dX10_layTotal_81 rfl rfl (fun v3_81 ev3_81 => ?_)
                    subst v3_81
                    have L_82 : ∀ (n : Nat) (s : Int) (M5 : Mem), (0 ≤ s) → (s ≤ 513) → (OT M M5) → (tabW M M5 g (M 114 29).toNat) → (RT (fun j => DM M g.toNat (j - 256)) M5 133 0 513) → (RT (pcM M g s.toNat) M5 132 0 513) → (513 - s).toNat < n → Gd pP lL eE (rmN 2 51) sS mI aA bB mM cC 0 0 Q tT dD al (fA al) 82 [some (.ref (al 114)), some (.int (iN g)), some (.int (iN (kG M g))), some (.int (iN s)), none, none, none] [] M5 := by
                      intro n
                      induction n with
                      | zero => intro s M5 hs hs2 hO5 hW5 hB5 hT5 hm; exact absurd hm (Nat.not_lt_zero _)
                      | succ n ih =>
                        intro s M5 hs hs2 hO5 hW5 hB5 hT5 hm
                        have ih_82 := ih
                        clear ih
                        refine g_iload_n X dX10_layTotal_82 rfl rfl ?_
                        refine g_sipush X dX10_layTotal_83 (by decide +kernel) ?_
                        refine g_icmp_ge (tgt := 170) X dX10_layTotal_86 (by decide) ⟨by omega, by omega⟩ (by decide) (fun q86 => ?_) (fun q86 => ?_)
                        · refine g_iinc_1 X dX10_layTotal_170 rfl (fun v1_170 ev1_170 => ?_)
                          subst v1_170
                          refine g_goto (tgt := 35) X dX10_layTotal_173 (by decide) ?_
                          exact g_sub (ih_35 _ _ (by omega) (by omega) (hO5) (by obtain rfl : s = 513 := (by omega); exact hT5.eq (fun j a b => (DM_s hL hg j).symm)) (by omega)) ⟨rfl, rfl, trivial⟩
                        · refine g_iconst X dX10_layTotal_89 ?_
                          refine g_istore_4 X dX10_layTotal_90 rfl (fun v4_90 ev4_90 => ?_)
                          subst v4_90
                          have L_92 : ∀ (n : Nat) (t : Int) (M6 : Mem), (0 ≤ t) → (t ≤ 513) → (OT M M6) → (tabW M M6 g (M 114 29).toNat) → (RT (fun j => DM M g.toNat (j - 256)) M6 133 0 513) → (RT (pcT M g s t) M6 132 0 513) → (513 - t).toNat < n → Gd pP lL eE (rmN 2 51) sS mI aA bB mM cC 0 0 Q tT dD al (fA al) 92 [some (.ref (al 114)), some (.int (iN g)), some (.int (iN (kG M g))), some (.int (iN s)), some (.int (iN t)), none, none] [] M6 := by
                            intro n
                            induction n with
                            | zero => intro t M6 ht ht2 hO6 hW6 hB6 hT6 hm; exact absurd hm (Nat.not_lt_zero _)
                            | succ n ih =>
                              intro t M6 ht ht2 hO6 hW6 hB6 hT6 hm
                              have rk := kG_rng hL g
                              have rD := DM_rng hL g.toNat (s - 256)
                              have rW := WG_rng hL g (t - 256)
                              have ih_92 := ih
                              clear ih
                              refine g_iload X dX10_layTotal_92 rfl ?_
                              refine g_sipush X dX10_layTotal_94 (by decide +kernel) ?_
                              refine g_icmp_ge (tgt := 164) X dX10_layTotal_97 (by decide) ⟨by omega, by omega⟩ (by decide) (fun q97 => ?_) (fun q97 => ?_)
                              · have hT7 : RT (pcM M g (s + 1).toNat) M6 132 0 513 := by obtain rfl : t = 513 := (by omega); exact hT6.eq (fun j _ _ => pcT_end hL hs)
                                refine g_iinc_3 X dX10_layTotal_164 rfl (fun v3_164 ev3_164 => ?_)
                                subst v3_164
                                refine g_goto (tgt := 82) X dX10_layTotal_167 (by decide) ?_
                                exact g_sub (ih_82 _ _ (by omega) (by omega) (hO6) (hW6) (hB6) (hT7) (by omega)) ⟨rfl, rfl, rfl, rfl, trivial⟩
                              · have e6b : M6 133 s = DM M g.toNat (s - 256) := hB6 s hs (by omega)
                                refine g_aload_n X dX10_layTotal_100 rfl rfl ?_
                                refine g_getr (r := 133) X kd_114 fc9 (k := 36) (by decide) rfl wd_863 rfl (by decide) dX10_layTotal_101 ?_
                                refine g_iload_n X dX10_layTotal_104 rfl rfl ?_
                                refine g_lald X kd_133 (by omega) (by omega) dX10_layTotal_105 ?_
                                refine g_lconst X (v := 0) dX10_layTotal_106 (by decide +kernel) ?_
                                refine g_lcmp_le (tgt := 164) X dX10_layTotal_107 dX10_layTotal_108 (by decide) ⟨by omega, by omega⟩ (by decide) (fun q107 => ?_) (fun q107 => ?_)
                                · have hz0 : DM M g.toNat (s - 256) = 0 := by omega
                                  have hT7 : RT (pcM M g (s + 1).toNat) M6 132 0 513 := hT6.eq (fun j _ _ => pcT_dead hs hz0)
                                  refine g_iinc_3 X dX10_layTotal_164 rfl (fun v3_164 ev3_164 => ?_)
                                  subst v3_164
                                  refine g_goto (tgt := 82) X dX10_layTotal_167 (by decide) ?_
                                  exact g_sub (ih_82 _ _ (by omega) (by omega) (hO6) (hW6) (hB6) (hT7) (by omega)) ⟨rfl, rfl, rfl, rfl, trivial⟩
                                · have e6w : M6 131 (513 * kG M g + t) = WG M g (t - 256) := hW6 (kG M g) t rk.1 rk.2 ht (by omega)
                                  refine g_aload_n X dX10_layTotal_111 rfl rfl ?_
                                  refine g_getr (r := 131) X kd_114 fc9 (k := 34) (by decide) rfl wd_861 rfl (by decide) dX10_layTotal_112 ?_
                                  refine g_sipush X dX10_layTotal_115 (by decide +kernel) ?_
                                  refine g_iload_n X dX10_layTotal_118 rfl rfl ?_
                                  refine g_imul X dX10_layTotal_119 ?_
                                  refine g_iload X dX10_layTotal_120 rfl ?_
                                  refine g_iadd X dX10_layTotal_122 ?_
                                  refine g_lald X kd_131 (by omega) (by omega) dX10_layTotal_123 ?_
                                  refine g_lstore_5 X dX10_layTotal_124 rfl (fun v5_124 ev5_124 => ?_)
                                  subst v5_124
                                  refine g_lload X dX10_layTotal_126 rfl ?_
                                  refine g_lconst X (v := 0) dX10_layTotal_128 (by decide +kernel) ?_
                                  refine g_lcmp_le (tgt := 158) X dX10_layTotal_129 dX10_layTotal_130 (by decide) ⟨by omega, by omega⟩ (by decide) (fun q129 => ?_) (fun q129 => ?_)
                                  · refine g_iinc_4 X dX10_layTotal_158 rfl (fun v4_158 ev4_158 => ?_)
                                    subst v4_158
                                    refine g_goto (tgt := 92) X dX10_layTotal_161 (by decide) ?_
                                    exact g_sub (ih_92 _ _ (by omega) (by omega) (by first | exact hO6 | exact hO6.mu _ (by omega)) (by first | exact hW6 | exact hW6.mu _ _ (by omega)) (by first | exact hB6 | exact hB6.ot _ _ (by omega)) (by first | exact hT6.eq (fun j _ _ => pcT_skip (by omega)) | exact pcT_add hT6 hin (by rw [e6b, e6w])) (by omega)) ⟨rfl, rfl, rfl, rfl, rfl, trivial⟩
                                  · have hin := tot_in hL (s := s) (t := t) hg (by omega) (by omega)
                                    refine g_aload_n X dX10_layTotal_133 rfl rfl ?_
                                    refine g_getr (r := 132) X kd_114 fc9 (k := 35) (by decide) rfl wd_862 rfl (by decide) dX10_layTotal_134 ?_
                                    refine g_iload_n X dX10_layTotal_137 rfl rfl ?_
                                    refine g_iload X dX10_layTotal_138 rfl ?_
                                    refine g_iadd X dX10_layTotal_140 ?_
                                    refine g_sipush X dX10_layTotal_141 (by decide +kernel) ?_
                                    refine g_isub X dX10_layTotal_144 ?_
                                    refine g_dup2 X dX10_layTotal_145 rfl rfl ?_
                                    refine g_lald X kd_132 (by omega) (by omega) dX10_layTotal_146 ?_
                                    refine g_aload_n X dX10_layTotal_147 rfl rfl ?_
                                    refine g_getr (r := 133) X kd_114 fc9 (k := 36) (by decide) rfl wd_863 rfl (by decide) dX10_layTotal_148 ?_
                                    refine g_iload_n X dX10_layTotal_151 rfl rfl ?_
                                    refine g_lald X kd_133 (by omega) (by omega) dX10_layTotal_152 ?_
                                    refine g_lload X dX10_layTotal_153 rfl ?_
                                    refine g_lmul X dX10_layTotal_155 ?_
                                    refine g_ladd X dX10_layTotal_156 ?_
                                    refine g_last X kd_132 (by omega) (by omega) dX10_layTotal_157 ?_
                                    refine g_iinc_4 X dX10_layTotal_158 rfl (fun v4_158 ev4_158 => ?_)
                                    subst v4_158
                                    refine g_goto (tgt := 92) X dX10_layTotal_161 (by decide) ?_
                                    exact g_sub (ih_92 _ _ (by omega) (by omega) (by first | exact hO6 | exact hO6.mu _ (by omega)) (by first | exact hW6 | exact hW6.mu _ _ (by omega)) (by first | exact hB6 | exact hB6.ot _ _ (by omega)) (by first | exact hT6.eq (fun j _ _ => pcT_skip (by omega)) | exact pcT_add hT6 hin (by rw [e6b, e6w])) (by omega)) ⟨rfl, rfl, rfl, rfl, rfl, trivial⟩
                          exact g_sub (L_92 _ _ _ (by omega) (by omega) (hO5) (hW5) (hB5) (hT5.eq (fun j _ _ => pcT_0 hL)) (Nat.lt_succ_self _)) ⟨rfl, rfl, rfl, rfl, rfl, trivial⟩
                    exact g_sub (L_82 _ _ _ (by omega) (by omega) (hO4) (hW4) (by obtain rfl : s = 513 := (by omega); exact hB4) (by obtain rfl : s = 513 := (by omega); exact hZ4) (Nat.lt_succ_self _)) ⟨rfl, rfl, rfl, rfl, trivial⟩
                  · refine g_aload_n X dX10_layTotal_55 rfl rfl ?_
                    refine g_getr (r := 133) X kd_114 fc9 (k := 36) (by decide) rfl wd_863 rfl (by decide) dX10_layTotal_56 ?_
                    refine g_iload_n X dX10_layTotal_59 rfl rfl ?_
                    refine g_aload_n X dX10_layTotal_60 rfl rfl ?_
                    refine g_getr (r := 132) X kd_114 fc9 (k := 35) (by decide) rfl wd_862 rfl (by decide) dX10_layTotal_61 ?_
                    refine g_iload_n X dX10_layTotal_64 rfl rfl ?_
                    refine g_lald X kd_132 (by omega) (by omega) dX10_layTotal_65 ?_
                    refine g_last X kd_133 (by omega) (by omega) dX10_layTotal_66 ?_
                    refine g_aload_n X dX10_layTotal_67 rfl rfl ?_
                    refine g_getr (r := 132) X kd_114 fc9 (k := 35) (by decide) rfl wd_862 rfl (by decide) dX10_layTotal_68 ?_
                    refine g_iload_n X dX10_layTotal_71 rfl rfl ?_
                    refine g_lconst X (v := 0) dX10_layTotal_72 (by decide +kernel) ?_
                    refine g_last X kd_132 (by omega) (by omega) dX10_layTotal_73 ?_
                    refine g_iinc_3 X dX10_layTotal_74 rfl (fun v3_74 ev3_74 => ?_)
                    subst v3_74
                    refine g_goto (tgt := 48) X dX10_layTotal_77 (by decide) ?_
                    exact g_sub (ih_48 _ _ (by omega) (by omega) ((hO4.mu _ (by omega)).mu _ (by omega)) ((hW4.mu _ _ (by omega)).mu _ _ (by omega)) ((hB4.up (hR4 s (by omega) (by omega))).ot _ _ (by omega)) ((hZ4.ot _ _ (by omega)).up rfl) ((hR4.ot _ _ (by omega)).down _) (by omega)) ⟨rfl, rfl, rfl, rfl, trivial⟩
              exact g_sub (L_48 _ _ _ (by omega) (by omega) (hO2.ow hw42) (hO2.e_tabW (by have e := hO2.fld (k := 29) (by omega); rw [e] at ht42; exact ht42)) (fun j a b => by omega) (fun j a b => by omega) (fun j a b => by rw [hw42 132 (by omega)]; exact hD2 j a b) (Nat.lt_succ_self _)) ⟨rfl, rfl, rfl, rfl, trivial⟩
        exact g_sub (L_35 _ _ _ (by omega) (by omega) (hO) (by obtain rfl : s = 513 := (by omega); exact hD) (Nat.lt_succ_self _)) ⟨rfl, rfl, trivial⟩
      · refine g_aload_n X dX10_layTotal_9 rfl rfl ?_
        refine g_getr (r := 132) X kd_114 fc9 (k := 35) (by decide) rfl wd_862 rfl (by decide) dX10_layTotal_10 ?_
        refine g_iload_n X dX10_layTotal_13 rfl rfl ?_
        refine g_iload_n X dX10_layTotal_14 rfl rfl ?_
        refine g_sipush X dX10_layTotal_15 (by decide +kernel) ?_
        refine g_icmp_ne (tgt := 25) X dX10_layTotal_18 (by decide) ⟨by omega, by omega⟩ (by decide) (fun q18 => ?_) (fun q18 => ?_)
        · refine g_lconst X (v := 0) dX10_layTotal_25 (by decide +kernel) ?_
          refine g_last X kd_132 (by omega) (by omega) dX10_layTotal_26 ?_
          refine g_iinc_1 X dX10_layTotal_27 rfl (fun v1_27 ev1_27 => ?_)
          subst v1_27
          refine g_goto (tgt := 2) X dX10_layTotal_30 (by decide) ?_
          exact g_sub (ih_2 _ _ (by omega) (by omega) (hO.mu _ (by omega)) (hD.up (by show _ = DP _ _ _ _ _ 0 (s - 256); rw [DP, del]; first | rw [if_pos (by omega)] | rw [if_neg (by omega)])) (by omega)) ⟨rfl, rfl, trivial⟩
        · refine g_lconst X (v := 1) dX10_layTotal_21 (by decide +kernel) ?_
          refine g_goto (tgt := 26) X dX10_layTotal_22 (by decide) ?_
          refine g_last X kd_132 (by omega) (by omega) dX10_layTotal_26 ?_
          refine g_iinc_1 X dX10_layTotal_27 rfl (fun v1_27 ev1_27 => ?_)
          subst v1_27
          refine g_goto (tgt := 2) X dX10_layTotal_30 (by decide) ?_
          exact g_sub (ih_2 _ _ (by omega) (by omega) (hO.mu _ (by omega)) (hD.up (by show _ = DP _ _ _ _ _ 0 (s - 256); rw [DP, del]; first | rw [if_pos (by omega)] | rw [if_neg (by omega)])) (by omega)) ⟨rfl, rfl, trivial⟩
  exact g_sub (L_2 _ _ _ (by omega) (by omega) (OT.rf M) (fun j a b => by omega) (Nat.lt_succ_self _)) ⟨rfl, rfl, trivial⟩
set_option maxRecDepth 100000 in
set_option maxHeartbeats 4000000 in
theorem c_X10_layOdds (lL : Launch) (tT : TT) (dD : va_G) (al : Int → Nat) (M : Mem)  (hL : LK M) : CV lL yX10_layOdds cX10_layOdds 3 3 77 tT dD al [.ref (al 114)] M (fun M' => OT M M' ∧ M' 114 38 = lowM M ∧ M' 114 37 = upM M) := by
  refine CV.of (own := "RedSkiesModel") (ls0 := [some (.ref (al 114)), none, none]) (by decide +kernel) rfl (Nat.le_of_ble_eq_true rfl) rfl ?_
  intro pP eE sS mI aA bB mM cC X hr hlk
  obtain ⟨Q, hQ⟩ : ∃ Q : State → Prop, Q = MQ bB (QV tT dD al (fun M' => OT M M' ∧ M' 114 38 = lowM M ∧ M' 114 37 = upM M)) aA sS 0 0 (fA al) := ⟨_, rfl⟩
  rw [← hQ]
  have w0 := hL.1
  have wst := stM_rng hL
  refine g_aload_n X dX10_layOdds_0 rfl rfl ?_
  refine g_callVV X (c_X10_layTotal lL tT dD al _  (by first | assumption | omega)) kd_114 fc9 lk_RX10_272 rfl rfl ⟨by decide, by decide⟩ rfl (Nat.le_of_ble_eq_true rfl) dX10_layOdds_1 (fun M1 hc1 => ?_)
  obtain ⟨hO1, hD1⟩ := hc1
  refine g_aload_n X dX10_layOdds_4 rfl rfl ?_
  refine g_callVI X (c_X10_statNow lL tT dD al _  (hO1.e_LK hL)) kd_114 fc9 lk_RX10_266 rfl rfl ⟨by decide, by decide⟩ rfl (Nat.le_of_ble_eq_true rfl) dX10_layOdds_5 (fun r5 M5 hc5 => ?_)
  obtain ⟨hr5, hm5⟩ := hc5
  subst r5
  subst M5
  refine g_teq (b := stM M) (by rw [hO1.e_stM]) ?_
  refine g_istore_n_1 X dX10_layOdds_8 rfl rfl (fun v1_8 ev1_8 => ?_)
  subst v1_8
  refine g_aload_n X dX10_layOdds_9 rfl rfl ?_
  refine g_lconst X (v := 0) dX10_layOdds_10 (by decide +kernel) ?_
  refine g_putl (kz := 37) X kd_114 fc9 (k := 37) (by decide) rfl wd_864 rfl rfl rfl dX10_layOdds_11 ?_
  refine g_aload_n X dX10_layOdds_14 rfl rfl ?_
  refine g_lconst X (v := 0) dX10_layOdds_15 (by decide +kernel) ?_
  refine g_putl (kz := 38) X kd_114 fc9 (k := 38) (by decide) rfl wd_865 rfl rfl rfl dX10_layOdds_16 ?_
  refine g_iconst X dX10_layOdds_19 ?_
  refine g_istore_n_2 X dX10_layOdds_20 rfl rfl (fun v2_20 ev2_20 => ?_)
  subst v2_20
  have L_21 : ∀ (n : Nat) (j : Int) (M3 : Mem), (0 ≤ j) → (j ≤ 513) → (OT M M3) → (RT (fun j => DM M 5 (j - 256)) M3 132 0 513) → (M3 114 38 = sm (fun j => DM M 5 (j - 256)) j.toNat) → (M3 114 37 = sm (fun j => if stM M ≤ j - 256 then DM M 5 (j - 256) else 0) j.toNat) → (513 - j).toNat < n → Gd pP lL eE (rmN 3 77) sS mI aA bB mM cC 0 0 Q tT dD al (fA al) 21 [some (.ref (al 114)), some (.int (iN (stM M))), some (.int (iN j))] [] M3 := by
    intro n
    induction n with
    | zero => intro j M3 hj hj2 hO3 hD3 hl hu hm; exact absurd hm (Nat.not_lt_zero _)
    | succ n ih =>
      intro j M3 hj hj2 hO3 hD3 hl hu hm
      have ih_21 := ih
      clear ih
      refine g_iload_n X dX10_layOdds_21 rfl rfl ?_
      refine g_sipush X dX10_layOdds_22 (by decide +kernel) ?_
      refine g_icmp_ge (tgt := 77) X dX10_layOdds_25 (by decide) ⟨by omega, by omega⟩ (by decide) (fun q25 => ?_) (fun q25 => ?_)
      · rw [hQ]
        refine g_vret X hr hlk dX10_layOdds_77 ?_
        obtain rfl : j = 513 := by omega
        exact ⟨hO3, hl, hu⟩
      · refine g_aload_n X dX10_layOdds_28 rfl rfl ?_
        refine g_dup X dX10_layOdds_29 rfl ?_
        refine g_getl (kz := 38) X kd_114 fc9 (k := 38) (by decide) rfl wd_865 rfl dX10_layOdds_30 ?_
        refine g_aload_n X dX10_layOdds_33 rfl rfl ?_
        refine g_getr (r := 132) X kd_114 fc9 (k := 35) (by decide) rfl wd_862 rfl (by decide) dX10_layOdds_34 ?_
        refine g_iload_n X dX10_layOdds_37 rfl rfl ?_
        refine g_lald X kd_132 (by omega) (by omega) dX10_layOdds_38 ?_
        refine g_ladd X dX10_layOdds_39 ?_
        refine g_putl (kz := 38) X kd_114 fc9 (k := 38) (by decide) rfl wd_865 rfl rfl rfl dX10_layOdds_40 ?_
        refine g_aload_n X dX10_layOdds_43 rfl rfl ?_
        refine g_dup X dX10_layOdds_44 rfl ?_
        refine g_getl (kz := 37) X kd_114 fc9 (k := 37) (by decide) rfl wd_864 rfl dX10_layOdds_45 ?_
        refine g_teql (b := (M3 114 37)) (by first | (simp [mu]; done) | (simp only [mu]; repeat (first | rw [if_pos (⟨rfl, rfl⟩)] | rw [if_neg (by omega)]))) ?_
        refine g_iload_n X dX10_layOdds_48 rfl rfl ?_
        refine g_sipush X dX10_layOdds_49 (by decide +kernel) ?_
        refine g_isub X dX10_layOdds_52 ?_
        refine g_iload_n X dX10_layOdds_53 rfl rfl ?_
        refine g_icmp_lt (tgt := 66) X dX10_layOdds_54 (by decide) ⟨by omega, by omega⟩ ⟨by omega, by omega⟩ (fun q54 => ?_) (fun q54 => ?_)
        · refine g_lconst X (v := 0) dX10_layOdds_66 (by decide +kernel) ?_
          refine g_ladd X dX10_layOdds_67 ?_
          refine g_putl (kz := 37) X kd_114 fc9 (k := 37) (by decide) rfl wd_864 rfl rfl rfl dX10_layOdds_68 ?_
          refine g_iinc_2 X dX10_layOdds_71 rfl (fun v2_71 ev2_71 => ?_)
          subst v2_71
          refine g_goto (tgt := 21) X dX10_layOdds_74 (by decide) ?_
          exact g_sub (ih_21 _ _ (by omega) (by omega) ((hO3.mu _ (by omega)).mu _ (by omega)) ((hD3.ot _ _ (by omega)).ot _ _ (by omega)) (by rw [sm_s _ hj, ← hl]; have z := hD3 j hj (by omega); simp [mu, z]) (by rw [sm_s _ hj, ← hu]; first | (rw [if_pos (show stM M ≤ j - 256 by omega)]; have z := hD3 j hj (by omega); simp [mu, z]; done) | (rw [if_neg (show ¬ stM M ≤ j - 256 by omega)]; simp [mu]; done)) (by omega)) ⟨rfl, rfl, rfl, trivial⟩
        · refine g_aload_n X dX10_layOdds_57 rfl rfl ?_
          refine g_getr (r := 132) X kd_114 fc9 (k := 35) (by decide) rfl wd_862 rfl (by decide) dX10_layOdds_58 ?_
          refine g_iload_n X dX10_layOdds_61 rfl rfl ?_
          refine g_lald X kd_132 (by omega) (by omega) dX10_layOdds_62 ?_
          refine g_teql (b := (M3 132 j)) (by first | (simp [mu]; done) | (simp only [mu]; repeat (first | rw [if_pos (⟨rfl, rfl⟩)] | rw [if_neg (by omega)]))) ?_
          refine g_goto (tgt := 67) X dX10_layOdds_63 (by decide) ?_
          refine g_ladd X dX10_layOdds_67 ?_
          refine g_putl (kz := 37) X kd_114 fc9 (k := 37) (by decide) rfl wd_864 rfl rfl rfl dX10_layOdds_68 ?_
          refine g_iinc_2 X dX10_layOdds_71 rfl (fun v2_71 ev2_71 => ?_)
          subst v2_71
          refine g_goto (tgt := 21) X dX10_layOdds_74 (by decide) ?_
          exact g_sub (ih_21 _ _ (by omega) (by omega) ((hO3.mu _ (by omega)).mu _ (by omega)) ((hD3.ot _ _ (by omega)).ot _ _ (by omega)) (by rw [sm_s _ hj, ← hl]; have z := hD3 j hj (by omega); simp [mu, z]) (by rw [sm_s _ hj, ← hu]; first | (rw [if_pos (show stM M ≤ j - 256 by omega)]; have z := hD3 j hj (by omega); simp [mu, z]; done) | (rw [if_neg (show ¬ stM M ≤ j - 256 by omega)]; simp [mu]; done)) (by omega)) ⟨rfl, rfl, rfl, trivial⟩
  exact g_sub (L_21 _ _ _ (by omega) (by omega) ((hO1.mu _ (by omega)).mu _ (by omega)) ((hD1.ot _ _ (by omega)).ot _ _ (by omega)) (by simp [mu]; rfl) (by simp [mu]; rfl) (Nat.lt_succ_self _)) ⟨rfl, rfl, rfl, trivial⟩
