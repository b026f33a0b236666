set_option maxRecDepth 100000 in
set_option maxHeartbeats 4000000 in
theorem c_X10_paint (lL : Launch) (tT : TT) (dD : va_G) (al : Int → Nat) (M : Mem) (hand much seed : Int) (hW : WV M) (ihand : i32 hand) (imuch : i32 much) (iseed : i32 seed) : CI lL yX10_paint cX10_paint 10 FieldType.int 2 50 tT dD al [.ref (al 114), .int (iN hand), .int (iN much), .int (iN seed)] M (fun r M' => r = (if (0 ≤ hand ∧ hand ≤ 4) ∧ (1 ≤ much ∧ much ≤ 8) ∧ 0 ≤ seed then (pnt (mu M 114 28 seed) hand much.toNat) 114 23 else -102) ∧ M' = (if (0 ≤ hand ∧ hand ≤ 4) ∧ (1 ≤ much ∧ much ≤ 8) ∧ 0 ≤ seed then pnt (mu M 114 28 seed) hand much.toNat else M)) := by
  refine CI.of (own := "RedSkiesModel") (ls0 := [some (.ref (al 114)), some (.int (iN hand)), some (.int (iN much)), some (.int (iN seed)), none, none, none, none, none, none]) (by decide +kernel) rfl (Nat.le_of_ble_eq_true rfl) rfl ?_
  intro pP eE sS mI aA bB mM cC X hr hlk
  obtain ⟨Q, hQ⟩ : ∃ Q : State → Prop, Q = MQ bB (QI tT dD al (fun r M' => r = (if (0 ≤ hand ∧ hand ≤ 4) ∧ (1 ≤ much ∧ much ≤ 8) ∧ 0 ≤ seed then (pnt (mu M 114 28 seed) hand much.toNat) 114 23 else -102) ∧ M' = (if (0 ≤ hand ∧ hand ≤ 4) ∧ (1 ≤ much ∧ much ≤ 8) ∧ 0 ≤ seed then pnt (mu M 114 28 seed) hand much.toNat else M))) aA sS 0 0 (fA al) := ⟨_, rfl⟩
  rw [← hQ]
  refine g_iload_n X dX10_paint_0 rfl rfl ?_
  refine g_i2l X dX10_paint_1 ⟨by omega, by omega⟩ ?_
  refine g_lconst X (v := 0) dX10_paint_2 (by decide +kernel) ?_
  refine g_ldc2 X (n := 4) wd_1062 (by decide +kernel) dX10_paint_3 ?_
  refine g_callSI X (c_X10_in lL tT dD al _ _ _ _ ⟨by omega, by omega⟩ (by decide) (by decide)) lk_RX10_98 rfl rfl ⟨by decide, by decide⟩ rfl (Nat.le_of_ble_eq_true rfl) dX10_paint_6 (fun r6 M6 hc6 => ?_)
  obtain ⟨hr6, hm6⟩ := hc6
  subst r6
  subst M6
  refine g_if_eq (tgt := 28) X dX10_paint_9 (by decide) (b2i_i32 _) (fun q9 => ?_) (fun q9 => ?_)
  · have q9 := b2i_f q9
    refine g_bipush X dX10_paint_28 (by decide +kernel) ?_
    rw [hQ]
    refine g_iret X hr hlk dX10_paint_30 ?_
    first | (exact ⟨by rw [if_neg (by omega)], by rw [if_neg (by omega)]⟩) | (have e := paint_end hk hk2 hM (by omega); exact ⟨by rw [if_pos (by omega), ← e], by rw [if_pos (by omega), ← e]⟩)
  · have q9 := b2i_t q9
    refine g_iload_n X dX10_paint_12 rfl rfl ?_
    refine g_i2l X dX10_paint_13 ⟨by omega, by omega⟩ ?_
    refine g_lconst X (v := 1) dX10_paint_14 (by decide +kernel) ?_
    refine g_ldc2 X (n := 8) wd_1144 (by decide +kernel) dX10_paint_15 ?_
    refine g_callSI X (c_X10_in lL tT dD al _ _ _ _ ⟨by omega, by omega⟩ (by decide) (by decide)) lk_RX10_98 rfl rfl ⟨by decide, by decide⟩ rfl (Nat.le_of_ble_eq_true rfl) dX10_paint_18 (fun r18 M18 hc18 => ?_)
    obtain ⟨hr18, hm18⟩ := hc18
    subst r18
    subst M18
    refine g_if_eq (tgt := 28) X dX10_paint_21 (by decide) (b2i_i32 _) (fun q21 => ?_) (fun q21 => ?_)
    · have q21 := b2i_f q21
      refine g_bipush X dX10_paint_28 (by decide +kernel) ?_
      rw [hQ]
      refine g_iret X hr hlk dX10_paint_30 ?_
      first | (exact ⟨by rw [if_neg (by omega)], by rw [if_neg (by omega)]⟩) | (have e := paint_end hk hk2 hM (by omega); exact ⟨by rw [if_pos (by omega), ← e], by rw [if_pos (by omega), ← e]⟩)
    · have q21 := b2i_t q21
      refine g_iload_n X dX10_paint_24 rfl rfl ?_
      refine g_if_ge (tgt := 31) X dX10_paint_25 (by decide) ⟨by omega, by omega⟩ (fun q25 => ?_) (fun q25 => ?_)
      · refine g_aload_n X dX10_paint_31 rfl rfl ?_
        refine g_iload_n X dX10_paint_32 rfl rfl ?_
        refine g_puti (kz := 28) X kd_114 fc9 (k := 28) (by decide) rfl wd_855 rfl rfl rfl dX10_paint_33 ?_
        refine g_iconst X dX10_paint_36 ?_
        refine g_istore_4 X dX10_paint_37 rfl (fun v4_37 ev4_37 => ?_)
        subst v4_37
        have L_39 : ∀ (n : Nat) (k : Int) (M1 : Mem), (0 ≤ k) → (k ≤ much) → (M1 = pnt (mu M 114 28 seed) hand k.toNat) → (WV M1) → (0 ≤ M1 114 28 ∧ M1 114 28 < 2147483648) → (8 - k).toNat < n → Gd pP lL eE (rmN 2 50) sS mI aA bB mM cC 0 0 Q tT dD al (fA al) 39 [some (.ref (al 114)), some (.int (iN hand)), some (.int (iN much)), none, some (.int (iN k)), none, none, none, none, none] [] M1 := by
          intro n
          induction n with
          | zero => intro k M1 hk hk2 hM hW1 hs1 hm; exact absurd hm (Nat.not_lt_zero _)
          | succ n ih =>
            intro k M1 hk hk2 hM hW1 hs1 hm
            have w1 := hW1.n
            have s28 : scrM 114 28 := by unfold scrM; omega
            have y1 := drw_rng (s := nxS (M1 114 28)) (d := 401) (by omega)
            have y2 := drw_rng (s := nxS (nxS (M1 114 28))) (d := 4) (by omega)
            have ih_39 := ih
            clear ih
            refine g_iload X dX10_paint_39 rfl ?_
            refine g_iload_n X dX10_paint_41 rfl rfl ?_
            refine g_icmp_ge (tgt := 190) X dX10_paint_42 (by decide) ⟨by omega, by omega⟩ ⟨by omega, by omega⟩ (fun q42 => ?_) (fun q42 => ?_)
            · refine g_aload_n X dX10_paint_190 rfl rfl ?_
              refine g_geti (kz := 23) X kd_114 fc9 (k := 23) (by decide) rfl wd_850 rfl dX10_paint_191 ?_
              rw [hQ]
              refine g_iret X hr hlk dX10_paint_194 ?_
              first | (exact ⟨by rw [if_neg (by omega)], by rw [if_neg (by omega)]⟩) | (have e := paint_end hk hk2 hM (by omega); exact ⟨by rw [if_pos (by omega), ← e], by rw [if_pos (by omega), ← e]⟩)
            · refine g_aload_n X dX10_paint_45 rfl rfl ?_
              refine g_geti (kz := 23) X kd_114 fc9 (k := 23) (by decide) rfl wd_850 rfl dX10_paint_46 ?_
              refine g_bipush X dX10_paint_49 (by decide +kernel) ?_
              refine g_icmp_ge (tgt := 190) X dX10_paint_51 (by decide) ⟨by omega, by omega⟩ (by decide) (fun q51 => ?_) (fun q51 => ?_)
              · refine g_aload_n X dX10_paint_190 rfl rfl ?_
                refine g_geti (kz := 23) X kd_114 fc9 (k := 23) (by decide) rfl wd_850 rfl dX10_paint_191 ?_
                rw [hQ]
                refine g_iret X hr hlk dX10_paint_194 ?_
                first | (exact ⟨by rw [if_neg (by omega)], by rw [if_neg (by omega)]⟩) | (have e := paint_end hk hk2 hM (by omega); exact ⟨by rw [if_pos (by omega), ← e], by rw [if_pos (by omega), ← e]⟩)
              · refine g_aload_n X dX10_paint_54 rfl rfl ?_
                refine g_sipush X dX10_paint_55 (by decide +kernel) ?_
                refine g_callVI X (c_X10_draw lL tT dD al _ _ (by omega) (by decide)) kd_114 fc9 lk_RX10_253 rfl rfl ⟨by decide, by decide⟩ rfl (Nat.le_of_ble_eq_true rfl) dX10_paint_58 (fun r58 M58 hc58 => ?_)
                obtain ⟨hr58, hc58⟩ := hc58
                subst r58
                subst M58
                refine g_istore_5 X dX10_paint_61 rfl (fun v5_61 ev5_61 => ?_)
                subst v5_61
                refine g_aload_n X dX10_paint_63 rfl rfl ?_
                refine g_iconst X dX10_paint_64 ?_
                refine g_callVI X (c_X10_draw lL tT dD al _ _ (by simp [mu]; exact nxS_rng _) (by decide)) kd_114 fc9 lk_RX10_253 rfl rfl ⟨by decide, by decide⟩ rfl (Nat.le_of_ble_eq_true rfl) dX10_paint_65 (fun r65 M65 hc65 => ?_)
                rw [show (mu M1 114 28 (nxS (M1 114 28))) 114 28 = (nxS (M1 114 28)) from by first | (simp [mu]; done) | (simp only [mu]; repeat (first | rw [if_pos (⟨rfl, rfl⟩)] | rw [if_neg (by omega)]))] at hc65
                obtain ⟨hr65, hc65⟩ := hc65
                subst r65
                subst M65
                refine g_istore_6 X dX10_paint_68 rfl (fun v6_68 ev6_68 => ?_)
                subst v6_68
                refine g_aload_n X dX10_paint_70 rfl rfl ?_
                have hS2 : SM M1 (mu (mu M1 114 28 (nxS (M1 114 28))) 114 28 (nxS (nxS (M1 114 28)))) := ((SM.rfl' M1).mu _ s28).mu _ s28
                refine g_iconst X dX10_paint_71 ?_
                refine g_iload X dX10_paint_72 rfl ?_
                refine g_iconst X dX10_paint_74 ?_
                refine g_callVI X (c_X10_isNear lL tT dD al _ _ _ _ (hS2.WV hW1) (by decide) (by omega) (by decide)) kd_114 fc9 lk_RX10_224 rfl rfl ⟨by decide, by decide⟩ rfl (Nat.le_of_ble_eq_true rfl) dX10_paint_75 (fun r75 M75 hc75 => ?_)
                obtain ⟨hr75, hm75⟩ := hc75
                subst r75
                subst M75
                refine g_if_eq (tgt := 86) X dX10_paint_78 (by decide) (b2i_i32 _) (fun q78 => ?_) (fun q78 => ?_)
                · have q78 := b2i_f q78
                  rw [hS2.e_nrS] at q78
                  have hg : (0 : Int) = 0 ∧ glwS M1 (M1 114 28) = 0 := ⟨rfl, by show (if b2i (nrS M1 0 (drw (nxS (M1 114 28)) 401) 3) = 1 then (15 : Int) else 0) = 0; rw [← b2i_0 q78]; rfl⟩
                  refine g_iconst X dX10_paint_86 ?_
                  refine g_istore_7 X dX10_paint_87 rfl (fun v7_87 ev7_87 => ?_)
                  subst v7_87
                  refine g_aload_n X dX10_paint_89 rfl rfl ?_
                  refine g_iconst X dX10_paint_90 ?_
                  refine g_iload_n X dX10_paint_91 rfl rfl ?_
                  refine g_iload X dX10_paint_92 rfl ?_
                  refine g_iload X dX10_paint_94 rfl ?_
                  refine g_iconst X dX10_paint_96 ?_
                  refine g_iconst X dX10_paint_97 ?_
                  refine g_callVV X (c_X10_add lL tT dD al _ _ _ _ _ _ _ (by simp [mu]; omega) (by decide)) kd_114 fc9 lk_RX10_187 rfl rfl ⟨by decide, by decide⟩ rfl (Nat.le_of_ble_eq_true rfl) dX10_paint_98 (fun M98 hc98 => ?_)
                  subst M98
                  refine g_iconst X dX10_paint_101 ?_
                  refine g_istore_8 X dX10_paint_102 rfl (fun v8_102 ev8_102 => ?_)
                  subst v8_102
                  have L_104 : ∀ (n : Nat) (pt : Int) (M2 : Mem), (0 ≤ pt) → (pt ≤ 4) → (M2 = oneL M1 hand (M1 114 28) pt) → (4 - pt).toNat < n → Gd pP lL eE (rmN 2 50) sS mI aA bB mM cC 0 0 Q tT dD al (fA al) 104 [some (.ref (al 114)), some (.int (iN hand)), some (.int (iN much)), none, some (.int (iN k)), none, none, some (.int (iN 0)), some (.int (iN pt)), none] [] M2 := by
                    intro n
                    induction n with
                    | zero => intro pt M2 hp hp2 hM2 hm; exact absurd hm (Nat.not_lt_zero _)
                    | succ n ih =>
                      intro pt M2 hp hp2 hM2 hm
                      have h23 : M2 114 23 = M1 114 23 + 1 := by rw [hM2, one_23]
                      have hs2 : M2 114 28 = sd (M1 114 28) (2 + 3 * pt).toNat := by rw [hM2, one_28]
                      have ih_104 := ih
                      clear ih
                      refine g_iload X dX10_paint_104 rfl ?_
                      refine g_iconst X dX10_paint_106 ?_
                      refine g_icmp_ge (tgt := 184) X dX10_paint_107 (by decide) ⟨by omega, by omega⟩ (by decide) (fun q107 => ?_) (fun q107 => ?_)
                      · obtain rfl : pt = 4 := by omega
                        refine g_iinc_4 X dX10_paint_184 trivial (fun v4_184 ev4_184 => ?_)
                        subst v4_184
                        refine g_goto (tgt := 39) X dX10_paint_187 (by decide) ?_
                        exact g_sub (ih_39 _ _ (by omega) (by omega) (by rw [show (k + 1).toNat = k.toNat + 1 by omega, pnt, ← hM, if_pos q51, oneS, hM2]) (by rw [hM2]; exact one_WV hW1 (by omega) q51 _) (by rw [hM2, one_28]; exact sd_rng hs1 _) (by omega)) ⟨rfl, rfl, rfl, rfl, trivial⟩
                      · refine g_bipush X dX10_paint_110 (by decide +kernel) ?_
                        refine g_aload_n X dX10_paint_112 rfl rfl ?_
                        refine g_geti (kz := 23) X kd_114 fc9 (k := 23) (by decide) rfl wd_850 rfl dX10_paint_113 ?_
                        refine g_iconst X dX10_paint_116 ?_
                        refine g_isub X dX10_paint_117 ?_
                        refine g_imul X dX10_paint_118 ?_
                        refine g_iconst X dX10_paint_119 ?_
                        refine g_iload X dX10_paint_120 rfl ?_
                        refine g_imul X dX10_paint_122 ?_
                        refine g_iadd X dX10_paint_123 ?_
                        refine g_istore_9 X dX10_paint_124 rfl (fun v9_124 ev9_124 => ?_)
                        subst v9_124
                        refine g_aload_n X dX10_paint_126 rfl rfl ?_
                        refine g_getr (r := 125) X kd_114 fc9 (k := 25) (by decide) rfl wd_852 rfl (by decide) dX10_paint_127 ?_
                        refine g_iload X dX10_paint_130 rfl ?_
                        refine g_bipush X dX10_paint_132 (by decide +kernel) ?_
                        refine g_aload_n X dX10_paint_134 rfl rfl ?_
                        refine g_bipush X dX10_paint_135 (by decide +kernel) ?_
                        refine g_callVI X (c_X10_draw lL tT dD al _ _ (by rw [hs2]; exact sd_rng hs1 _) (by decide)) kd_114 fc9 lk_RX10_253 rfl rfl ⟨by decide, by decide⟩ rfl (Nat.le_of_ble_eq_true rfl) dX10_paint_137 (fun r137 M137 hc137 => ?_)
                        obtain ⟨hr137, hc137⟩ := hc137
                        subst r137
                        subst M137
                        refine g_iadd X dX10_paint_140 ?_
                        refine g_iload X dX10_paint_141 rfl ?_
                        refine g_iadd X dX10_paint_143 ?_
                        refine g_iast X kd_125 (by omega) (by omega) dX10_paint_144 ?_
                        refine g_aload_n X dX10_paint_145 rfl rfl ?_
                        refine g_getr (r := 125) X kd_114 fc9 (k := 25) (by decide) rfl wd_852 rfl (by decide) dX10_paint_146 ?_
                        refine g_iload X dX10_paint_149 rfl ?_
                        refine g_iconst X dX10_paint_151 ?_
                        refine g_iadd X dX10_paint_152 ?_
                        refine g_bipush X dX10_paint_153 (by decide +kernel) ?_
                        refine g_aload_n X dX10_paint_155 rfl rfl ?_
                        refine g_bipush X dX10_paint_156 (by decide +kernel) ?_
                        refine g_callVI X (c_X10_draw lL tT dD al _ _ (by simp [mu]; exact nxS_rng _) (by decide)) kd_114 fc9 lk_RX10_253 rfl rfl ⟨by decide, by decide⟩ rfl (Nat.le_of_ble_eq_true rfl) dX10_paint_158 (fun r158 M158 hc158 => ?_)
                        rw [show (mu (mu M2 114 28 (nxS (M2 114 28))) 125 ((12 * ((M2 114 23) - 1)) + (3 * pt)) ((20 + (drw (nxS (M2 114 28)) 40)) + 0)) 114 28 = (nxS (M2 114 28)) from by first | (simp [mu]; done) | (simp only [mu]; repeat (first | rw [if_pos (⟨rfl, rfl⟩)] | rw [if_neg (by omega)]))] at hc158
                        obtain ⟨hr158, hc158⟩ := hc158
                        subst r158
                        subst M158
                        refine g_iadd X dX10_paint_161 ?_
                        refine g_iast X kd_125 (by omega) (by omega) dX10_paint_162 ?_
                        refine g_aload_n X dX10_paint_163 rfl rfl ?_
                        refine g_getr (r := 125) X kd_114 fc9 (k := 25) (by decide) rfl wd_852 rfl (by decide) dX10_paint_164 ?_
                        refine g_iload X dX10_paint_167 rfl ?_
                        refine g_iconst X dX10_paint_169 ?_
                        refine g_iadd X dX10_paint_170 ?_
                        refine g_aload_n X dX10_paint_171 rfl rfl ?_
                        refine g_bipush X dX10_paint_172 (by decide +kernel) ?_
                        refine g_callVI X (c_X10_draw lL tT dD al _ _ (by simp [mu]; exact nxS_rng _) (by decide)) kd_114 fc9 lk_RX10_253 rfl rfl ⟨by decide, by decide⟩ rfl (Nat.le_of_ble_eq_true rfl) dX10_paint_174 (fun r174 M174 hc174 => ?_)
                        rw [show (mu (mu (mu (mu M2 114 28 (nxS (M2 114 28))) 125 ((12 * ((M2 114 23) - 1)) + (3 * pt)) ((20 + (drw (nxS (M2 114 28)) 40)) + 0)) 114 28 (nxS ((nxS (M2 114 28))))) 125 (((12 * ((M2 114 23) - 1)) + (3 * pt)) + 1) (20 + (drw (nxS ((nxS (M2 114 28)))) 40))) 114 28 = (nxS ((nxS (M2 114 28)))) from by first | (simp [mu]; done) | (simp only [mu]; repeat (first | rw [if_pos (⟨rfl, rfl⟩)] | rw [if_neg (by omega)]))] at hc174
                        obtain ⟨hr174, hc174⟩ := hc174
                        subst r174
                        subst M174
                        refine g_iast X kd_125 (by omega) (by omega) dX10_paint_177 ?_
                        refine g_iinc_8 X dX10_paint_178 rfl (fun v8_178 ev8_178 => ?_)
                        subst v8_178
                        refine g_goto (tgt := 104) X dX10_paint_181 (by decide) ?_
                        exact g_sub (ih_104 _ _ (by omega) (by omega) (paint_s hp (by omega) hM2 hg.2) (by omega)) ⟨rfl, rfl, rfl, rfl, rfl, rfl, trivial⟩
                  exact g_sub (L_104 _ _ _ (by omega) (by omega) (paint_0) (Nat.lt_succ_self _)) ⟨rfl, rfl, rfl, rfl, rfl, rfl, trivial⟩
                · have q78 := b2i_t q78
                  rw [hS2.e_nrS] at q78
                  have hg : (15 : Int) = 15 ∧ glwS M1 (M1 114 28) = 15 := ⟨rfl, by show (if b2i (nrS M1 0 (drw (nxS (M1 114 28)) 401) 3) = 1 then (15 : Int) else 0) = 15; rw [← b2i_1 q78]; rfl⟩
                  refine g_bipush X dX10_paint_81 (by decide +kernel) ?_
                  refine g_goto (tgt := 87) X dX10_paint_83 (by decide) ?_
                  refine g_istore_7 X dX10_paint_87 rfl (fun v7_87 ev7_87 => ?_)
                  subst v7_87
                  refine g_aload_n X dX10_paint_89 rfl rfl ?_
                  refine g_iconst X dX10_paint_90 ?_
                  refine g_iload_n X dX10_paint_91 rfl rfl ?_
                  refine g_iload X dX10_paint_92 rfl ?_
                  refine g_iload X dX10_paint_94 rfl ?_
                  refine g_iconst X dX10_paint_96 ?_
                  refine g_iconst X dX10_paint_97 ?_
                  refine g_callVV X (c_X10_add lL tT dD al _ _ _ _ _ _ _ (by simp [mu]; omega) (by decide)) kd_114 fc9 lk_RX10_187 rfl rfl ⟨by decide, by decide⟩ rfl (Nat.le_of_ble_eq_true rfl) dX10_paint_98 (fun M98 hc98 => ?_)
                  subst M98
                  refine g_iconst X dX10_paint_101 ?_
                  refine g_istore_8 X dX10_paint_102 rfl (fun v8_102 ev8_102 => ?_)
                  subst v8_102
                  have L_104 : ∀ (n : Nat) (pt : Int) (M2 : Mem), (0 ≤ pt) → (pt ≤ 4) → (M2 = oneL M1 hand (M1 114 28) pt) → (4 - pt).toNat < n → Gd pP lL eE (rmN 2 50) sS mI aA bB mM cC 0 0 Q tT dD al (fA al) 104 [some (.ref (al 114)), some (.int (iN hand)), some (.int (iN much)), none, some (.int (iN k)), none, none, some (.int (iN 15)), some (.int (iN pt)), none] [] M2 := by
                    intro n
                    induction n with
                    | zero => intro pt M2 hp hp2 hM2 hm; exact absurd hm (Nat.not_lt_zero _)
                    | succ n ih =>
                      intro pt M2 hp hp2 hM2 hm
                      have h23 : M2 114 23 = M1 114 23 + 1 := by rw [hM2, one_23]
                      have hs2 : M2 114 28 = sd (M1 114 28) (2 + 3 * pt).toNat := by rw [hM2, one_28]
                      have ih_104 := ih
                      clear ih
                      refine g_iload X dX10_paint_104 rfl ?_
                      refine g_iconst X dX10_paint_106 ?_
                      refine g_icmp_ge (tgt := 184) X dX10_paint_107 (by decide) ⟨by omega, by omega⟩ (by decide) (fun q107 => ?_) (fun q107 => ?_)
                      · obtain rfl : pt = 4 := by omega
                        refine g_iinc_4 X dX10_paint_184 trivial (fun v4_184 ev4_184 => ?_)
                        subst v4_184
                        refine g_goto (tgt := 39) X dX10_paint_187 (by decide) ?_
                        exact g_sub (ih_39 _ _ (by omega) (by omega) (by rw [show (k + 1).toNat = k.toNat + 1 by omega, pnt, ← hM, if_pos q51, oneS, hM2]) (by rw [hM2]; exact one_WV hW1 (by omega) q51 _) (by rw [hM2, one_28]; exact sd_rng hs1 _) (by omega)) ⟨rfl, rfl, rfl, rfl, trivial⟩
                      · refine g_bipush X dX10_paint_110 (by decide +kernel) ?_
                        refine g_aload_n X dX10_paint_112 rfl rfl ?_
                        refine g_geti (kz := 23) X kd_114 fc9 (k := 23) (by decide) rfl wd_850 rfl dX10_paint_113 ?_
                        refine g_iconst X dX10_paint_116 ?_
                        refine g_isub X dX10_paint_117 ?_
                        refine g_imul X dX10_paint_118 ?_
                        refine g_iconst X dX10_paint_119 ?_
                        refine g_iload X dX10_paint_120 rfl ?_
                        refine g_imul X dX10_paint_122 ?_
                        refine g_iadd X dX10_paint_123 ?_
                        refine g_istore_9 X dX10_paint_124 rfl (fun v9_124 ev9_124 => ?_)
                        subst v9_124
                        refine g_aload_n X dX10_paint_126 rfl rfl ?_
                        refine g_getr (r := 125) X kd_114 fc9 (k := 25) (by decide) rfl wd_852 rfl (by decide) dX10_paint_127 ?_
                        refine g_iload X dX10_paint_130 rfl ?_
                        refine g_bipush X dX10_paint_132 (by decide +kernel) ?_
                        refine g_aload_n X dX10_paint_134 rfl rfl ?_
                        refine g_bipush X dX10_paint_135 (by decide +kernel) ?_
                        refine g_callVI X (c_X10_draw lL tT dD al _ _ (by rw [hs2]; exact sd_rng hs1 _) (by decide)) kd_114 fc9 lk_RX10_253 rfl rfl ⟨by decide, by decide⟩ rfl (Nat.le_of_ble_eq_true rfl) dX10_paint_137 (fun r137 M137 hc137 => ?_)
                        obtain ⟨hr137, hc137⟩ := hc137
                        subst r137
                        subst M137
                        refine g_iadd X dX10_paint_140 ?_
                        refine g_iload X dX10_paint_141 rfl ?_
                        refine g_iadd X dX10_paint_143 ?_
                        refine g_iast X kd_125 (by omega) (by omega) dX10_paint_144 ?_
                        refine g_aload_n X dX10_paint_145 rfl rfl ?_
                        refine g_getr (r := 125) X kd_114 fc9 (k := 25) (by decide) rfl wd_852 rfl (by decide) dX10_paint_146 ?_
                        refine g_iload X dX10_paint_149 rfl ?_
                        refine g_iconst X dX10_paint_151 ?_
                        refine g_iadd X dX10_paint_152 ?_
                        refine g_bipush X dX10_paint_153 (by decide +kernel) ?_
                        refine g_aload_n X dX10_paint_155 rfl rfl ?_
                        refine g_bipush X dX10_paint_156 (by decide +kernel) ?_
                        refine g_callVI X (c_X10_draw lL tT dD al _ _ (by simp [mu]; exact nxS_rng _) (by decide)) kd_114 fc9 lk_RX10_253 rfl rfl ⟨by decide, by decide⟩ rfl (Nat.le_of_ble_eq_true rfl) dX10_paint_158 (fun r158 M158 hc158 => ?_)
                        rw [show (mu (mu M2 114 28 (nxS (M2 114 28))) 125 ((12 * ((M2 114 23) - 1)) + (3 * pt)) ((20 + (drw (nxS (M2 114 28)) 40)) + 15)) 114 28 = (nxS (M2 114 28)) from by first | (simp [mu]; done) | (simp only [mu]; repeat (first | rw [if_pos (⟨rfl, rfl⟩)] | rw [if_neg (by omega)]))] at hc158
                        obtain ⟨hr158, hc158⟩ := hc158
                        subst r158
                        subst M158
                        refine g_iadd X dX10_paint_161 ?_
                        refine g_iast X kd_125 (by omega) (by omega) dX10_paint_162 ?_
                        refine g_aload_n X dX10_paint_163 rfl rfl ?_
                        refine g_getr (r := 125) X kd_114 fc9 (k := 25) (by decide) rfl wd_852 rfl (by decide) dX10_paint_164 ?_
                        refine g_iload X dX10_paint_167 rfl ?_
                        refine g_iconst X dX10_paint_169 ?_
                        refine g_iadd X dX10_paint_170 ?_
                        refine g_aload_n X dX10_paint_171 rfl rfl ?_
                        refine g_bipush X dX10_paint_172 (by decide +kernel) ?_
                        refine g_callVI X (c_X10_draw lL tT dD al _ _ (by simp [mu]; exact nxS_rng _) (by decide)) kd_114 fc9 lk_RX10_253 rfl rfl ⟨by decide, by decide⟩ rfl (Nat.le_of_ble_eq_true rfl) dX10_paint_174 (fun r174 M174 hc174 => ?_)
                        rw [show (mu (mu (mu (mu M2 114 28 (nxS (M2 114 28))) 125 ((12 * ((M2 114 23) - 1)) + (3 * pt)) ((20 + (drw (nxS (M2 114 28)) 40)) + 15)) 114 28 (nxS ((nxS (M2 114 28))))) 125 (((12 * ((M2 114 23) - 1)) + (3 * pt)) + 1) (20 + (drw (nxS ((nxS (M2 114 28)))) 40))) 114 28 = (nxS ((nxS (M2 114 28)))) from by first | (simp [mu]; done) | (simp only [mu]; repeat (first | rw [if_pos (⟨rfl, rfl⟩)] | rw [if_neg (by omega)]))] at hc174
                        obtain ⟨hr174, hc174⟩ := hc174
                        subst r174
                        subst M174
                        refine g_iast X kd_125 (by omega) (by omega) dX10_paint_177 ?_
                        refine g_iinc_8 X dX10_paint_178 rfl (fun v8_178 ev8_178 => ?_)
                        subst v8_178
                        refine g_goto (tgt := 104) X dX10_paint_181 (by decide) ?_
                        exact g_sub (ih_104 _ _ (by omega) (by omega) (paint_s hp (by omega) hM2 hg.2) (by omega)) ⟨rfl, rfl, rfl, rfl, rfl, rfl, trivial⟩
                  exact g_sub (L_104 _ _ _ (by omega) (by omega) (paint_0) (Nat.lt_succ_self _)) ⟨rfl, rfl, rfl, rfl, rfl, rfl, trivial⟩
        exact g_sub (L_39 _ _ _ (by omega) (by omega) (rfl) (SM.WV ((SM.rfl' M).mu _ (by unfold scrM; omega)) hW) (by simp [mu]; omega) (Nat.lt_succ_self _)) ⟨rfl, rfl, rfl, rfl, trivial⟩
      · refine g_bipush X dX10_paint_28 (by decide +kernel) ?_
        rw [hQ]
        refine g_iret X hr hlk dX10_paint_30 ?_
        first | (exact ⟨by rw [if_neg (by omega)], by rw [if_neg (by omega)]⟩) | (have e := paint_end hk hk2 hM (by omega); exact ⟨by rw [if_pos (by omega), ← e], by rw [if_pos (by omega), ← e]⟩)
