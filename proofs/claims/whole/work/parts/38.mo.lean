set_option maxRecDepth 100000 in
set_option maxHeartbeats 4000000 in
theorem c_X10_goMeasure (lL : Launch) (tT : TT) (dD : va_G) (al : Int → Nat) (M : Mem) (c : Int) (hG : GM M) (hc : 1 ≤ c ∧ c ≤ 126) : CI lL yX10_goMeasure cX10_goMeasure 5 FieldType.boolean 1 25 tT dD al [.ref (al 114), .int (iN c)] M (fun r M' => r = b2i (gmOk M c) ∧ M' = gmM M c) := by
  refine CI.of (own := "RedSkiesModel") (ls0 := [some (.ref (al 114)), some (.int (iN c)), none, none, none]) (by decide +kernel) rfl (Nat.le_of_ble_eq_true rfl) rfl ?_
  intro pP eE sS mI aA bB mM cC X hr hlk
  obtain ⟨Q, hQ⟩ : ∃ Q : State → Prop, Q = MQ bB (QI tT dD al (fun r M' => r = b2i (gmOk M c) ∧ M' = gmM M c)) aA sS 0 0 (fA al) := ⟨_, rfl⟩
  rw [← hQ]
  obtain ⟨⟨g1, g2, g3, g4⟩, g5⟩ := hG
  have hcs := colS_rng c
  refine g_aload_n X dX10_goMeasure_0 rfl rfl ?_
  refine g_geti (kz := 2) X kd_114 fc9 (k := 2) (by decide) rfl wd_829 rfl dX10_goMeasure_1 ?_
  refine g_if_ne (tgt := 49) X dX10_goMeasure_4 (by decide) ⟨by omega, by omega⟩ (fun q4 => ?_) (fun q4 => ?_)
  · have q4 := g4 (by omega)
    refine g_iload_n X dX10_goMeasure_49 rfl rfl ?_
    refine g_i2l X dX10_goMeasure_50 ⟨by omega, by omega⟩ ?_
    refine g_ldc2 X (n := 48) wd_1022 (by decide +kernel) dX10_goMeasure_51 ?_
    refine g_ldc2 X (n := 51) wd_1031 (by decide +kernel) dX10_goMeasure_54 ?_
    refine g_callSI X (c_X10_in lL tT dD al _ _ _ _ ⟨by omega, by omega⟩ (by decide) (by decide)) lk_RX10_98 rfl rfl ⟨by decide, by decide⟩ rfl (Nat.le_of_ble_eq_true rfl) dX10_goMeasure_57 (fun r57 M57 hc57 => ?_)
    obtain ⟨hr57, hm57⟩ := hc57
    subst r57
    subst M57
    refine g_if_eq (tgt := 119) X dX10_goMeasure_60 (by decide) (b2i_i32 _) (fun q60 => ?_) (fun q60 => ?_)
    · have q60 := b2i_f q60
      refine g_iload_n X dX10_goMeasure_119 rfl rfl ?_
      refine g_bipush X dX10_goMeasure_120 (by decide +kernel) ?_
      refine g_icmp_ne (tgt := 137) X dX10_goMeasure_122 (by decide) ⟨by omega, by omega⟩ (by decide) (fun q122 => ?_) (fun q122 => ?_)
      · refine g_iconst X dX10_goMeasure_137 ?_
        refine g_istore_n_2 X dX10_goMeasure_138 rfl rfl (fun v2_138 ev2_138 => ?_)
        subst v2_138
        refine g_iload_n X dX10_goMeasure_139 rfl rfl ?_
        refine g_bipush X dX10_goMeasure_140 (by decide +kernel) ?_
        refine g_icmp_ne (tgt := 156) X dX10_goMeasure_142 (by decide) ⟨by omega, by omega⟩ (by decide) (fun q142 => ?_) (fun q142 => ?_)
        · refine g_iconst X dX10_goMeasure_156 ?_
          refine g_istore_n_3 X dX10_goMeasure_157 rfl rfl (fun v3_157 ev3_157 => ?_)
          subst v3_157
          refine g_aload_n X dX10_goMeasure_158 rfl rfl ?_
          refine g_geti (kz := 2) X kd_114 fc9 (k := 2) (by decide) rfl wd_829 rfl dX10_goMeasure_159 ?_
          refine g_iconst X dX10_goMeasure_162 ?_
          refine g_icmp_ne (tgt := 178) X dX10_goMeasure_163 (by decide) ⟨by omega, by omega⟩ (by decide) (fun q163 => ?_) (fun q163 => ?_)
          · refine g_iconst X dX10_goMeasure_178 ?_
            refine g_istore_4 X dX10_goMeasure_179 rfl (fun v4_179 ev4_179 => ?_)
            subst v4_179
            refine g_aload_n X dX10_goMeasure_181 rfl rfl ?_
            refine g_dup X dX10_goMeasure_182 rfl ?_
            refine g_geti (kz := 6) X kd_114 fc9 (k := 6) (by decide) rfl wd_833 rfl dX10_goMeasure_183 ?_
            refine g_iload_n X dX10_goMeasure_186 rfl rfl ?_
            refine g_if_eq (tgt := 194) X dX10_goMeasure_187 (by decide) (by decide) (fun _ => ?_) (fun q => absurd q (by decide))
            refine g_iconst X dX10_goMeasure_194 ?_
            refine g_iadd X dX10_goMeasure_195 ?_
            refine g_puti (kz := 6) X kd_114 fc9 (k := 6) (by decide) rfl wd_833 rfl rfl rfl dX10_goMeasure_196 ?_
            refine g_aload_n X dX10_goMeasure_199 rfl rfl ?_
            refine g_iload_n X dX10_goMeasure_200 rfl rfl ?_
            refine g_if_eq (tgt := 208) X dX10_goMeasure_201 (by decide) (by decide) (fun _ => ?_) (fun q => absurd q (by decide))
            refine g_aload_n X dX10_goMeasure_208 rfl rfl ?_
            refine g_geti (kz := 7) X kd_114 fc9 (k := 7) (by decide) rfl wd_834 rfl dX10_goMeasure_209 ?_
            refine g_teq (b := (M 114 7)) (by first | (simp [mu]; done) | (simp only [mu]; repeat (first | rw [if_pos (⟨rfl, rfl⟩)] | rw [if_neg (by omega)]))) ?_
            refine g_puti (kz := 7) X kd_114 fc9 (k := 7) (by decide) rfl wd_834 rfl rfl rfl dX10_goMeasure_212 ?_
            refine g_aload_n X dX10_goMeasure_215 rfl rfl ?_
            refine g_iconst X dX10_goMeasure_216 ?_
            refine g_puti (kz := 2) X kd_114 fc9 (k := 2) (by decide) rfl wd_829 rfl rfl rfl dX10_goMeasure_217 ?_
            refine g_iload X dX10_goMeasure_220 rfl ?_
            rw [hQ]
            refine g_zret X hr hlk (by decide) dX10_goMeasure_222 ?_
            first | (exfalso; omega) | exact ⟨by first | exact b2i_1 (by unfold gmOk gmX gmY; omega) | exact b2i_0 (by unfold gmOk gmX gmY; omega), by unfold gmM gmC; rw [if_neg (by omega), if_neg (by omega)]; first | rw [if_pos (by omega), if_pos (by omega)] | rw [if_neg (by omega), if_neg (by omega)]⟩
          · refine g_iload_n X dX10_goMeasure_166 rfl rfl ?_
            refine g_if_ne (tgt := 174) X dX10_goMeasure_167 (by decide) (by decide) (fun q => absurd q (by decide)) (fun _ => ?_)
            refine g_iload_n X dX10_goMeasure_170 rfl rfl ?_
            refine g_if_eq (tgt := 178) X dX10_goMeasure_171 (by decide) (by decide) (fun _ => ?_) (fun q => absurd q (by decide))
            refine g_iconst X dX10_goMeasure_178 ?_
            refine g_istore_4 X dX10_goMeasure_179 rfl (fun v4_179 ev4_179 => ?_)
            subst v4_179
            refine g_aload_n X dX10_goMeasure_181 rfl rfl ?_
            refine g_dup X dX10_goMeasure_182 rfl ?_
            refine g_geti (kz := 6) X kd_114 fc9 (k := 6) (by decide) rfl wd_833 rfl dX10_goMeasure_183 ?_
            refine g_iload_n X dX10_goMeasure_186 rfl rfl ?_
            refine g_if_eq (tgt := 194) X dX10_goMeasure_187 (by decide) (by decide) (fun _ => ?_) (fun q => absurd q (by decide))
            refine g_iconst X dX10_goMeasure_194 ?_
            refine g_iadd X dX10_goMeasure_195 ?_
            refine g_puti (kz := 6) X kd_114 fc9 (k := 6) (by decide) rfl wd_833 rfl rfl rfl dX10_goMeasure_196 ?_
            refine g_aload_n X dX10_goMeasure_199 rfl rfl ?_
            refine g_iload_n X dX10_goMeasure_200 rfl rfl ?_
            refine g_if_eq (tgt := 208) X dX10_goMeasure_201 (by decide) (by decide) (fun _ => ?_) (fun q => absurd q (by decide))
            refine g_aload_n X dX10_goMeasure_208 rfl rfl ?_
            refine g_geti (kz := 7) X kd_114 fc9 (k := 7) (by decide) rfl wd_834 rfl dX10_goMeasure_209 ?_
            refine g_teq (b := (M 114 7)) (by first | (simp [mu]; done) | (simp only [mu]; repeat (first | rw [if_pos (⟨rfl, rfl⟩)] | rw [if_neg (by omega)]))) ?_
            refine g_puti (kz := 7) X kd_114 fc9 (k := 7) (by decide) rfl wd_834 rfl rfl rfl dX10_goMeasure_212 ?_
            refine g_aload_n X dX10_goMeasure_215 rfl rfl ?_
            refine g_iconst X dX10_goMeasure_216 ?_
            refine g_puti (kz := 2) X kd_114 fc9 (k := 2) (by decide) rfl wd_829 rfl rfl rfl dX10_goMeasure_217 ?_
            refine g_iload X dX10_goMeasure_220 rfl ?_
            rw [hQ]
            refine g_zret X hr hlk (by decide) dX10_goMeasure_222 ?_
            first | (exfalso; omega) | exact ⟨by first | exact b2i_1 (by unfold gmOk gmX gmY; omega) | exact b2i_0 (by unfold gmOk gmX gmY; omega), by unfold gmM gmC; rw [if_neg (by omega), if_neg (by omega)]; first | rw [if_pos (by omega), if_pos (by omega)] | rw [if_neg (by omega), if_neg (by omega)]⟩
        · refine g_aload_n X dX10_goMeasure_145 rfl rfl ?_
          refine g_geti (kz := 6) X kd_114 fc9 (k := 6) (by decide) rfl wd_833 rfl dX10_goMeasure_146 ?_
          refine g_if_ne (tgt := 156) X dX10_goMeasure_149 (by decide) ⟨by omega, by omega⟩ (fun q149 => ?_) (fun q149 => ?_)
          · refine g_iconst X dX10_goMeasure_156 ?_
            refine g_istore_n_3 X dX10_goMeasure_157 rfl rfl (fun v3_157 ev3_157 => ?_)
            subst v3_157
            refine g_aload_n X dX10_goMeasure_158 rfl rfl ?_
            refine g_geti (kz := 2) X kd_114 fc9 (k := 2) (by decide) rfl wd_829 rfl dX10_goMeasure_159 ?_
            refine g_iconst X dX10_goMeasure_162 ?_
            refine g_icmp_ne (tgt := 178) X dX10_goMeasure_163 (by decide) ⟨by omega, by omega⟩ (by decide) (fun q163 => ?_) (fun q163 => ?_)
            · refine g_iconst X dX10_goMeasure_178 ?_
              refine g_istore_4 X dX10_goMeasure_179 rfl (fun v4_179 ev4_179 => ?_)
              subst v4_179
              refine g_aload_n X dX10_goMeasure_181 rfl rfl ?_
              refine g_dup X dX10_goMeasure_182 rfl ?_
              refine g_geti (kz := 6) X kd_114 fc9 (k := 6) (by decide) rfl wd_833 rfl dX10_goMeasure_183 ?_
              refine g_iload_n X dX10_goMeasure_186 rfl rfl ?_
              refine g_if_eq (tgt := 194) X dX10_goMeasure_187 (by decide) (by decide) (fun _ => ?_) (fun q => absurd q (by decide))
              refine g_iconst X dX10_goMeasure_194 ?_
              refine g_iadd X dX10_goMeasure_195 ?_
              refine g_puti (kz := 6) X kd_114 fc9 (k := 6) (by decide) rfl wd_833 rfl rfl rfl dX10_goMeasure_196 ?_
              refine g_aload_n X dX10_goMeasure_199 rfl rfl ?_
              refine g_iload_n X dX10_goMeasure_200 rfl rfl ?_
              refine g_if_eq (tgt := 208) X dX10_goMeasure_201 (by decide) (by decide) (fun _ => ?_) (fun q => absurd q (by decide))
              refine g_aload_n X dX10_goMeasure_208 rfl rfl ?_
              refine g_geti (kz := 7) X kd_114 fc9 (k := 7) (by decide) rfl wd_834 rfl dX10_goMeasure_209 ?_
              refine g_teq (b := (M 114 7)) (by first | (simp [mu]; done) | (simp only [mu]; repeat (first | rw [if_pos (⟨rfl, rfl⟩)] | rw [if_neg (by omega)]))) ?_
              refine g_puti (kz := 7) X kd_114 fc9 (k := 7) (by decide) rfl wd_834 rfl rfl rfl dX10_goMeasure_212 ?_
              refine g_aload_n X dX10_goMeasure_215 rfl rfl ?_
              refine g_iconst X dX10_goMeasure_216 ?_
              refine g_puti (kz := 2) X kd_114 fc9 (k := 2) (by decide) rfl wd_829 rfl rfl rfl dX10_goMeasure_217 ?_
              refine g_iload X dX10_goMeasure_220 rfl ?_
              rw [hQ]
              refine g_zret X hr hlk (by decide) dX10_goMeasure_222 ?_
              first | (exfalso; omega) | exact ⟨by first | exact b2i_1 (by unfold gmOk gmX gmY; omega) | exact b2i_0 (by unfold gmOk gmX gmY; omega), by unfold gmM gmC; rw [if_neg (by omega), if_neg (by omega)]; first | rw [if_pos (by omega), if_pos (by omega)] | rw [if_neg (by omega), if_neg (by omega)]⟩
            · refine g_iload_n X dX10_goMeasure_166 rfl rfl ?_
              refine g_if_ne (tgt := 174) X dX10_goMeasure_167 (by decide) (by decide) (fun q => absurd q (by decide)) (fun _ => ?_)
              refine g_iload_n X dX10_goMeasure_170 rfl rfl ?_
              refine g_if_eq (tgt := 178) X dX10_goMeasure_171 (by decide) (by decide) (fun _ => ?_) (fun q => absurd q (by decide))
              refine g_iconst X dX10_goMeasure_178 ?_
              refine g_istore_4 X dX10_goMeasure_179 rfl (fun v4_179 ev4_179 => ?_)
              subst v4_179
              refine g_aload_n X dX10_goMeasure_181 rfl rfl ?_
              refine g_dup X dX10_goMeasure_182 rfl ?_
              refine g_geti (kz := 6) X kd_114 fc9 (k := 6) (by decide) rfl wd_833 rfl dX10_goMeasure_183 ?_
              refine g_iload_n X dX10_goMeasure_186 rfl rfl ?_
              refine g_if_eq (tgt := 194) X dX10_goMeasure_187 (by decide) (by decide) (fun _ => ?_) (fun q => absurd q (by decide))
              refine g_iconst X dX10_goMeasure_194 ?_
              refine g_iadd X dX10_goMeasure_195 ?_
              refine g_puti (kz := 6) X kd_114 fc9 (k := 6) (by decide) rfl wd_833 rfl rfl rfl dX10_goMeasure_196 ?_
              refine g_aload_n X dX10_goMeasure_199 rfl rfl ?_
              refine g_iload_n X dX10_goMeasure_200 rfl rfl ?_
              refine g_if_eq (tgt := 208) X dX10_goMeasure_201 (by decide) (by decide) (fun _ => ?_) (fun q => absurd q (by decide))
              refine g_aload_n X dX10_goMeasure_208 rfl rfl ?_
              refine g_geti (kz := 7) X kd_114 fc9 (k := 7) (by decide) rfl wd_834 rfl dX10_goMeasure_209 ?_
              refine g_teq (b := (M 114 7)) (by first | (simp [mu]; done) | (simp only [mu]; repeat (first | rw [if_pos (⟨rfl, rfl⟩)] | rw [if_neg (by omega)]))) ?_
              refine g_puti (kz := 7) X kd_114 fc9 (k := 7) (by decide) rfl wd_834 rfl rfl rfl dX10_goMeasure_212 ?_
              refine g_aload_n X dX10_goMeasure_215 rfl rfl ?_
              refine g_iconst X dX10_goMeasure_216 ?_
              refine g_puti (kz := 2) X kd_114 fc9 (k := 2) (by decide) rfl wd_829 rfl rfl rfl dX10_goMeasure_217 ?_
              refine g_iload X dX10_goMeasure_220 rfl ?_
              rw [hQ]
              refine g_zret X hr hlk (by decide) dX10_goMeasure_222 ?_
              first | (exfalso; omega) | exact ⟨by first | exact b2i_1 (by unfold gmOk gmX gmY; omega) | exact b2i_0 (by unfold gmOk gmX gmY; omega), by unfold gmM gmC; rw [if_neg (by omega), if_neg (by omega)]; first | rw [if_pos (by omega), if_pos (by omega)] | rw [if_neg (by omega), if_neg (by omega)]⟩
          · refine g_iconst X dX10_goMeasure_152 ?_
            refine g_goto (tgt := 157) X dX10_goMeasure_153 (by decide) ?_
            refine g_istore_n_3 X dX10_goMeasure_157 rfl rfl (fun v3_157 ev3_157 => ?_)
            subst v3_157
            refine g_aload_n X dX10_goMeasure_158 rfl rfl ?_
            refine g_geti (kz := 2) X kd_114 fc9 (k := 2) (by decide) rfl wd_829 rfl dX10_goMeasure_159 ?_
            refine g_iconst X dX10_goMeasure_162 ?_
            refine g_icmp_ne (tgt := 178) X dX10_goMeasure_163 (by decide) ⟨by omega, by omega⟩ (by decide) (fun q163 => ?_) (fun q163 => ?_)
            · refine g_iconst X dX10_goMeasure_178 ?_
              refine g_istore_4 X dX10_goMeasure_179 rfl (fun v4_179 ev4_179 => ?_)
              subst v4_179
              refine g_aload_n X dX10_goMeasure_181 rfl rfl ?_
              refine g_dup X dX10_goMeasure_182 rfl ?_
              refine g_geti (kz := 6) X kd_114 fc9 (k := 6) (by decide) rfl wd_833 rfl dX10_goMeasure_183 ?_
              refine g_iload_n X dX10_goMeasure_186 rfl rfl ?_
              refine g_if_eq (tgt := 194) X dX10_goMeasure_187 (by decide) (by decide) (fun q => absurd q (by decide)) (fun _ => ?_)
              refine g_iconst X dX10_goMeasure_190 ?_
              refine g_goto (tgt := 195) X dX10_goMeasure_191 (by decide) ?_
              refine g_iadd X dX10_goMeasure_195 ?_
              refine g_puti (kz := 6) X kd_114 fc9 (k := 6) (by decide) rfl wd_833 rfl rfl rfl dX10_goMeasure_196 ?_
              refine g_aload_n X dX10_goMeasure_199 rfl rfl ?_
              refine g_iload_n X dX10_goMeasure_200 rfl rfl ?_
              refine g_if_eq (tgt := 208) X dX10_goMeasure_201 (by decide) (by decide) (fun q => absurd q (by decide)) (fun _ => ?_)
              refine g_iconst X dX10_goMeasure_204 ?_
              refine g_goto (tgt := 212) X dX10_goMeasure_205 (by decide) ?_
              refine g_puti (kz := 7) X kd_114 fc9 (k := 7) (by decide) rfl wd_834 rfl rfl rfl dX10_goMeasure_212 ?_
              refine g_aload_n X dX10_goMeasure_215 rfl rfl ?_
              refine g_iconst X dX10_goMeasure_216 ?_
              refine g_puti (kz := 2) X kd_114 fc9 (k := 2) (by decide) rfl wd_829 rfl rfl rfl dX10_goMeasure_217 ?_
              refine g_iload X dX10_goMeasure_220 rfl ?_
              rw [hQ]
              refine g_zret X hr hlk (by decide) dX10_goMeasure_222 ?_
              first | (exfalso; omega) | exact ⟨by first | exact b2i_1 (by unfold gmOk gmX gmY; omega) | exact b2i_0 (by unfold gmOk gmX gmY; omega), by unfold gmM gmC; rw [if_neg (by omega), if_neg (by omega)]; first | rw [if_pos (by omega), if_pos (by omega)] | rw [if_neg (by omega), if_neg (by omega)]⟩
            · refine g_iload_n X dX10_goMeasure_166 rfl rfl ?_
              refine g_if_ne (tgt := 174) X dX10_goMeasure_167 (by decide) (by decide) (fun q => absurd q (by decide)) (fun _ => ?_)
              refine g_iload_n X dX10_goMeasure_170 rfl rfl ?_
              refine g_if_eq (tgt := 178) X dX10_goMeasure_171 (by decide) (by decide) (fun q => absurd q (by decide)) (fun _ => ?_)
              refine g_iconst X dX10_goMeasure_174 ?_
              refine g_goto (tgt := 179) X dX10_goMeasure_175 (by decide) ?_
              refine g_istore_4 X dX10_goMeasure_179 rfl (fun v4_179 ev4_179 => ?_)
              subst v4_179
              refine g_aload_n X dX10_goMeasure_181 rfl rfl ?_
              refine g_dup X dX10_goMeasure_182 rfl ?_
              refine g_geti (kz := 6) X kd_114 fc9 (k := 6) (by decide) rfl wd_833 rfl dX10_goMeasure_183 ?_
              refine g_iload_n X dX10_goMeasure_186 rfl rfl ?_
              refine g_if_eq (tgt := 194) X dX10_goMeasure_187 (by decide) (by decide) (fun q => absurd q (by decide)) (fun _ => ?_)
              refine g_iconst X dX10_goMeasure_190 ?_
              refine g_goto (tgt := 195) X dX10_goMeasure_191 (by decide) ?_
              refine g_iadd X dX10_goMeasure_195 ?_
              refine g_puti (kz := 6) X kd_114 fc9 (k := 6) (by decide) rfl wd_833 rfl rfl rfl dX10_goMeasure_196 ?_
              refine g_aload_n X dX10_goMeasure_199 rfl rfl ?_
              refine g_iload_n X dX10_goMeasure_200 rfl rfl ?_
              refine g_if_eq (tgt := 208) X dX10_goMeasure_201 (by decide) (by decide) (fun q => absurd q (by decide)) (fun _ => ?_)
              refine g_iconst X dX10_goMeasure_204 ?_
              refine g_goto (tgt := 212) X dX10_goMeasure_205 (by decide) ?_
              refine g_puti (kz := 7) X kd_114 fc9 (k := 7) (by decide) rfl wd_834 rfl rfl rfl dX10_goMeasure_212 ?_
              refine g_aload_n X dX10_goMeasure_215 rfl rfl ?_
              refine g_iconst X dX10_goMeasure_216 ?_
              refine g_puti (kz := 2) X kd_114 fc9 (k := 2) (by decide) rfl wd_829 rfl rfl rfl dX10_goMeasure_217 ?_
              refine g_iload X dX10_goMeasure_220 rfl ?_
              rw [hQ]
              refine g_zret X hr hlk (by decide) dX10_goMeasure_222 ?_
              first | (exfalso; omega) | exact ⟨by first | exact b2i_1 (by unfold gmOk gmX gmY; omega) | exact b2i_0 (by unfold gmOk gmX gmY; omega), by unfold gmM gmC; rw [if_neg (by omega), if_neg (by omega)]; first | rw [if_pos (by omega), if_pos (by omega)] | rw [if_neg (by omega), if_neg (by omega)]⟩
      · refine g_aload_n X dX10_goMeasure_125 rfl rfl ?_
        refine g_geti (kz := 7) X kd_114 fc9 (k := 7) (by decide) rfl wd_834 rfl dX10_goMeasure_126 ?_
        refine g_iconst X dX10_goMeasure_129 ?_
        refine g_icmp_ge (tgt := 137) X dX10_goMeasure_130 (by decide) ⟨by omega, by omega⟩ (by decide) (fun q130 => ?_) (fun q130 => ?_)
        · refine g_iconst X dX10_goMeasure_137 ?_
          refine g_istore_n_2 X dX10_goMeasure_138 rfl rfl (fun v2_138 ev2_138 => ?_)
          subst v2_138
          refine g_iload_n X dX10_goMeasure_139 rfl rfl ?_
          refine g_bipush X dX10_goMeasure_140 (by decide +kernel) ?_
          refine g_icmp_ne (tgt := 156) X dX10_goMeasure_142 (by decide) ⟨by omega, by omega⟩ (by decide) (fun q142 => ?_) (fun q142 => ?_)
          · refine g_iconst X dX10_goMeasure_156 ?_
            refine g_istore_n_3 X dX10_goMeasure_157 rfl rfl (fun v3_157 ev3_157 => ?_)
            subst v3_157
            refine g_aload_n X dX10_goMeasure_158 rfl rfl ?_
            refine g_geti (kz := 2) X kd_114 fc9 (k := 2) (by decide) rfl wd_829 rfl dX10_goMeasure_159 ?_
            refine g_iconst X dX10_goMeasure_162 ?_
            refine g_icmp_ne (tgt := 178) X dX10_goMeasure_163 (by decide) ⟨by omega, by omega⟩ (by decide) (fun q163 => ?_) (fun q163 => ?_)
            · refine g_iconst X dX10_goMeasure_178 ?_
              refine g_istore_4 X dX10_goMeasure_179 rfl (fun v4_179 ev4_179 => ?_)
              subst v4_179
              refine g_aload_n X dX10_goMeasure_181 rfl rfl ?_
              refine g_dup X dX10_goMeasure_182 rfl ?_
              refine g_geti (kz := 6) X kd_114 fc9 (k := 6) (by decide) rfl wd_833 rfl dX10_goMeasure_183 ?_
              refine g_iload_n X dX10_goMeasure_186 rfl rfl ?_
              refine g_if_eq (tgt := 194) X dX10_goMeasure_187 (by decide) (by decide) (fun _ => ?_) (fun q => absurd q (by decide))
              refine g_iconst X dX10_goMeasure_194 ?_
              refine g_iadd X dX10_goMeasure_195 ?_
              refine g_puti (kz := 6) X kd_114 fc9 (k := 6) (by decide) rfl wd_833 rfl rfl rfl dX10_goMeasure_196 ?_
              refine g_aload_n X dX10_goMeasure_199 rfl rfl ?_
              refine g_iload_n X dX10_goMeasure_200 rfl rfl ?_
              refine g_if_eq (tgt := 208) X dX10_goMeasure_201 (by decide) (by decide) (fun _ => ?_) (fun q => absurd q (by decide))
              refine g_aload_n X dX10_goMeasure_208 rfl rfl ?_
              refine g_geti (kz := 7) X kd_114 fc9 (k := 7) (by decide) rfl wd_834 rfl dX10_goMeasure_209 ?_
              refine g_teq (b := (M 114 7)) (by first | (simp [mu]; done) | (simp only [mu]; repeat (first | rw [if_pos (⟨rfl, rfl⟩)] | rw [if_neg (by omega)]))) ?_
              refine g_puti (kz := 7) X kd_114 fc9 (k := 7) (by decide) rfl wd_834 rfl rfl rfl dX10_goMeasure_212 ?_
              refine g_aload_n X dX10_goMeasure_215 rfl rfl ?_
              refine g_iconst X dX10_goMeasure_216 ?_
              refine g_puti (kz := 2) X kd_114 fc9 (k := 2) (by decide) rfl wd_829 rfl rfl rfl dX10_goMeasure_217 ?_
              refine g_iload X dX10_goMeasure_220 rfl ?_
              rw [hQ]
              refine g_zret X hr hlk (by decide) dX10_goMeasure_222 ?_
              first | (exfalso; omega) | exact ⟨by first | exact b2i_1 (by unfold gmOk gmX gmY; omega) | exact b2i_0 (by unfold gmOk gmX gmY; omega), by unfold gmM gmC; rw [if_neg (by omega), if_neg (by omega)]; first | rw [if_pos (by omega), if_pos (by omega)] | rw [if_neg (by omega), if_neg (by omega)]⟩
            · refine g_iload_n X dX10_goMeasure_166 rfl rfl ?_
              refine g_if_ne (tgt := 174) X dX10_goMeasure_167 (by decide) (by decide) (fun q => absurd q (by decide)) (fun _ => ?_)
              refine g_iload_n X dX10_goMeasure_170 rfl rfl ?_
              refine g_if_eq (tgt := 178) X dX10_goMeasure_171 (by decide) (by decide) (fun _ => ?_) (fun q => absurd q (by decide))
              refine g_iconst X dX10_goMeasure_178 ?_
              refine g_istore_4 X dX10_goMeasure_179 rfl (fun v4_179 ev4_179 => ?_)
              subst v4_179
              refine g_aload_n X dX10_goMeasure_181 rfl rfl ?_
              refine g_dup X dX10_goMeasure_182 rfl ?_
              refine g_geti (kz := 6) X kd_114 fc9 (k := 6) (by decide) rfl wd_833 rfl dX10_goMeasure_183 ?_
              refine g_iload_n X dX10_goMeasure_186 rfl rfl ?_
              refine g_if_eq (tgt := 194) X dX10_goMeasure_187 (by decide) (by decide) (fun _ => ?_) (fun q => absurd q (by decide))
              refine g_iconst X dX10_goMeasure_194 ?_
              refine g_iadd X dX10_goMeasure_195 ?_
              refine g_puti (kz := 6) X kd_114 fc9 (k := 6) (by decide) rfl wd_833 rfl rfl rfl dX10_goMeasure_196 ?_
              refine g_aload_n X dX10_goMeasure_199 rfl rfl ?_
              refine g_iload_n X dX10_goMeasure_200 rfl rfl ?_
              refine g_if_eq (tgt := 208) X dX10_goMeasure_201 (by decide) (by decide) (fun _ => ?_) (fun q => absurd q (by decide))
              refine g_aload_n X dX10_goMeasure_208 rfl rfl ?_
              refine g_geti (kz := 7) X kd_114 fc9 (k := 7) (by decide) rfl wd_834 rfl dX10_goMeasure_209 ?_
              refine g_teq (b := (M 114 7)) (by first | (simp [mu]; done) | (simp only [mu]; repeat (first | rw [if_pos (⟨rfl, rfl⟩)] | rw [if_neg (by omega)]))) ?_
              refine g_puti (kz := 7) X kd_114 fc9 (k := 7) (by decide) rfl wd_834 rfl rfl rfl dX10_goMeasure_212 ?_
              refine g_aload_n X dX10_goMeasure_215 rfl rfl ?_
              refine g_iconst X dX10_goMeasure_216 ?_
              refine g_puti (kz := 2) X kd_114 fc9 (k := 2) (by decide) rfl wd_829 rfl rfl rfl dX10_goMeasure_217 ?_
              refine g_iload X dX10_goMeasure_220 rfl ?_
              rw [hQ]
              refine g_zret X hr hlk (by decide) dX10_goMeasure_222 ?_
              first | (exfalso; omega) | exact ⟨by first | exact b2i_1 (by unfold gmOk gmX gmY; omega) | exact b2i_0 (by unfold gmOk gmX gmY; omega), by unfold gmM gmC; rw [if_neg (by omega), if_neg (by omega)]; first | rw [if_pos (by omega), if_pos (by omega)] | rw [if_neg (by omega), if_neg (by omega)]⟩
          · refine g_aload_n X dX10_goMeasure_145 rfl rfl ?_
            refine g_geti (kz := 6) X kd_114 fc9 (k := 6) (by decide) rfl wd_833 rfl dX10_goMeasure_146 ?_
            refine g_if_ne (tgt := 156) X dX10_goMeasure_149 (by decide) ⟨by omega, by omega⟩ (fun q149 => ?_) (fun q149 => ?_)
            · refine g_iconst X dX10_goMeasure_156 ?_
              refine g_istore_n_3 X dX10_goMeasure_157 rfl rfl (fun v3_157 ev3_157 => ?_)
              subst v3_157
              refine g_aload_n X dX10_goMeasure_158 rfl rfl ?_
              refine g_geti (kz := 2) X kd_114 fc9 (k := 2) (by decide) rfl wd_829 rfl dX10_goMeasure_159 ?_
              refine g_iconst X dX10_goMeasure_162 ?_
              refine g_icmp_ne (tgt := 178) X dX10_goMeasure_163 (by decide) ⟨by omega, by omega⟩ (by decide) (fun q163 => ?_) (fun q163 => ?_)
              · refine g_iconst X dX10_goMeasure_178 ?_
                refine g_istore_4 X dX10_goMeasure_179 rfl (fun v4_179 ev4_179 => ?_)
                subst v4_179
                refine g_aload_n X dX10_goMeasure_181 rfl rfl ?_
                refine g_dup X dX10_goMeasure_182 rfl ?_
                refine g_geti (kz := 6) X kd_114 fc9 (k := 6) (by decide) rfl wd_833 rfl dX10_goMeasure_183 ?_
                refine g_iload_n X dX10_goMeasure_186 rfl rfl ?_
                refine g_if_eq (tgt := 194) X dX10_goMeasure_187 (by decide) (by decide) (fun _ => ?_) (fun q => absurd q (by decide))
                refine g_iconst X dX10_goMeasure_194 ?_
                refine g_iadd X dX10_goMeasure_195 ?_
                refine g_puti (kz := 6) X kd_114 fc9 (k := 6) (by decide) rfl wd_833 rfl rfl rfl dX10_goMeasure_196 ?_
                refine g_aload_n X dX10_goMeasure_199 rfl rfl ?_
                refine g_iload_n X dX10_goMeasure_200 rfl rfl ?_
                refine g_if_eq (tgt := 208) X dX10_goMeasure_201 (by decide) (by decide) (fun _ => ?_) (fun q => absurd q (by decide))
                refine g_aload_n X dX10_goMeasure_208 rfl rfl ?_
                refine g_geti (kz := 7) X kd_114 fc9 (k := 7) (by decide) rfl wd_834 rfl dX10_goMeasure_209 ?_
                refine g_teq (b := (M 114 7)) (by first | (simp [mu]; done) | (simp only [mu]; repeat (first | rw [if_pos (⟨rfl, rfl⟩)] | rw [if_neg (by omega)]))) ?_
                refine g_puti (kz := 7) X kd_114 fc9 (k := 7) (by decide) rfl wd_834 rfl rfl rfl dX10_goMeasure_212 ?_
                refine g_aload_n X dX10_goMeasure_215 rfl rfl ?_
                refine g_iconst X dX10_goMeasure_216 ?_
                refine g_puti (kz := 2) X kd_114 fc9 (k := 2) (by decide) rfl wd_829 rfl rfl rfl dX10_goMeasure_217 ?_
                refine g_iload X dX10_goMeasure_220 rfl ?_
                rw [hQ]
                refine g_zret X hr hlk (by decide) dX10_goMeasure_222 ?_
                first | (exfalso; omega) | exact ⟨by first | exact b2i_1 (by unfold gmOk gmX gmY; omega) | exact b2i_0 (by unfold gmOk gmX gmY; omega), by unfold gmM gmC; rw [if_neg (by omega), if_neg (by omega)]; first | rw [if_pos (by omega), if_pos (by omega)] | rw [if_neg (by omega), if_neg (by omega)]⟩
              · refine g_iload_n X dX10_goMeasure_166 rfl rfl ?_
                refine g_if_ne (tgt := 174) X dX10_goMeasure_167 (by decide) (by decide) (fun q => absurd q (by decide)) (fun _ => ?_)
                refine g_iload_n X dX10_goMeasure_170 rfl rfl ?_
                refine g_if_eq (tgt := 178) X dX10_goMeasure_171 (by decide) (by decide) (fun _ => ?_) (fun q => absurd q (by decide))
                refine g_iconst X dX10_goMeasure_178 ?_
                refine g_istore_4 X dX10_goMeasure_179 rfl (fun v4_179 ev4_179 => ?_)
                subst v4_179
                refine g_aload_n X dX10_goMeasure_181 rfl rfl ?_
                refine g_dup X dX10_goMeasure_182 rfl ?_
                refine g_geti (kz := 6) X kd_114 fc9 (k := 6) (by decide) rfl wd_833 rfl dX10_goMeasure_183 ?_
                refine g_iload_n X dX10_goMeasure_186 rfl rfl ?_
                refine g_if_eq (tgt := 194) X dX10_goMeasure_187 (by decide) (by decide) (fun _ => ?_) (fun q => absurd q (by decide))
                refine g_iconst X dX10_goMeasure_194 ?_
                refine g_iadd X dX10_goMeasure_195 ?_
                refine g_puti (kz := 6) X kd_114 fc9 (k := 6) (by decide) rfl wd_833 rfl rfl rfl dX10_goMeasure_196 ?_
                refine g_aload_n X dX10_goMeasure_199 rfl rfl ?_
                refine g_iload_n X dX10_goMeasure_200 rfl rfl ?_
                refine g_if_eq (tgt := 208) X dX10_goMeasure_201 (by decide) (by decide) (fun _ => ?_) (fun q => absurd q (by decide))
                refine g_aload_n X dX10_goMeasure_208 rfl rfl ?_
                refine g_geti (kz := 7) X kd_114 fc9 (k := 7) (by decide) rfl wd_834 rfl dX10_goMeasure_209 ?_
                refine g_teq (b := (M 114 7)) (by first | (simp [mu]; done) | (simp only [mu]; repeat (first | rw [if_pos (⟨rfl, rfl⟩)] | rw [if_neg (by omega)]))) ?_
                refine g_puti (kz := 7) X kd_114 fc9 (k := 7) (by decide) rfl wd_834 rfl rfl rfl dX10_goMeasure_212 ?_
                refine g_aload_n X dX10_goMeasure_215 rfl rfl ?_
                refine g_iconst X dX10_goMeasure_216 ?_
                refine g_puti (kz := 2) X kd_114 fc9 (k := 2) (by decide) rfl wd_829 rfl rfl rfl dX10_goMeasure_217 ?_
                refine g_iload X dX10_goMeasure_220 rfl ?_
                rw [hQ]
                refine g_zret X hr hlk (by decide) dX10_goMeasure_222 ?_
                first | (exfalso; omega) | exact ⟨by first | exact b2i_1 (by unfold gmOk gmX gmY; omega) | exact b2i_0 (by unfold gmOk gmX gmY; omega), by unfold gmM gmC; rw [if_neg (by omega), if_neg (by omega)]; first | rw [if_pos (by omega), if_pos (by omega)] | rw [if_neg (by omega), if_neg (by omega)]⟩
            · refine g_iconst X dX10_goMeasure_152 ?_
              refine g_goto (tgt := 157) X dX10_goMeasure_153 (by decide) ?_
              refine g_istore_n_3 X dX10_goMeasure_157 rfl rfl (fun v3_157 ev3_157 => ?_)
              subst v3_157
              refine g_aload_n X dX10_goMeasure_158 rfl rfl ?_
              refine g_geti (kz := 2) X kd_114 fc9 (k := 2) (by decide) rfl wd_829 rfl dX10_goMeasure_159 ?_
              refine g_iconst X dX10_goMeasure_162 ?_
              refine g_icmp_ne (tgt := 178) X dX10_goMeasure_163 (by decide) ⟨by omega, by omega⟩ (by decide) (fun q163 => ?_) (fun q163 => ?_)
              · refine g_iconst X dX10_goMeasure_178 ?_
                refine g_istore_4 X dX10_goMeasure_179 rfl (fun v4_179 ev4_179 => ?_)
                subst v4_179
                refine g_aload_n X dX10_goMeasure_181 rfl rfl ?_
                refine g_dup X dX10_goMeasure_182 rfl ?_
                refine g_geti (kz := 6) X kd_114 fc9 (k := 6) (by decide) rfl wd_833 rfl dX10_goMeasure_183 ?_
                refine g_iload_n X dX10_goMeasure_186 rfl rfl ?_
                refine g_if_eq (tgt := 194) X dX10_goMeasure_187 (by decide) (by decide) (fun q => absurd q (by decide)) (fun _ => ?_)
                refine g_iconst X dX10_goMeasure_190 ?_
                refine g_goto (tgt := 195) X dX10_goMeasure_191 (by decide) ?_
                refine g_iadd X dX10_goMeasure_195 ?_
                refine g_puti (kz := 6) X kd_114 fc9 (k := 6) (by decide) rfl wd_833 rfl rfl rfl dX10_goMeasure_196 ?_
                refine g_aload_n X dX10_goMeasure_199 rfl rfl ?_
                refine g_iload_n X dX10_goMeasure_200 rfl rfl ?_
                refine g_if_eq (tgt := 208) X dX10_goMeasure_201 (by decide) (by decide) (fun q => absurd q (by decide)) (fun _ => ?_)
                refine g_iconst X dX10_goMeasure_204 ?_
                refine g_goto (tgt := 212) X dX10_goMeasure_205 (by decide) ?_
                refine g_puti (kz := 7) X kd_114 fc9 (k := 7) (by decide) rfl wd_834 rfl rfl rfl dX10_goMeasure_212 ?_
                refine g_aload_n X dX10_goMeasure_215 rfl rfl ?_
                refine g_iconst X dX10_goMeasure_216 ?_
                refine g_puti (kz := 2) X kd_114 fc9 (k := 2) (by decide) rfl wd_829 rfl rfl rfl dX10_goMeasure_217 ?_
                refine g_iload X dX10_goMeasure_220 rfl ?_
                rw [hQ]
                refine g_zret X hr hlk (by decide) dX10_goMeasure_222 ?_
                first | (exfalso; omega) | exact ⟨by first | exact b2i_1 (by unfold gmOk gmX gmY; omega) | exact b2i_0 (by unfold gmOk gmX gmY; omega), by unfold gmM gmC; rw [if_neg (by omega), if_neg (by omega)]; first | rw [if_pos (by omega), if_pos (by omega)] | rw [if_neg (by omega), if_neg (by omega)]⟩
              · refine g_iload_n X dX10_goMeasure_166 rfl rfl ?_
                refine g_if_ne (tgt := 174) X dX10_goMeasure_167 (by decide) (by decide) (fun q => absurd q (by decide)) (fun _ => ?_)
                refine g_iload_n X dX10_goMeasure_170 rfl rfl ?_
                refine g_if_eq (tgt := 178) X dX10_goMeasure_171 (by decide) (by decide) (fun q => absurd q (by decide)) (fun _ => ?_)
                refine g_iconst X dX10_goMeasure_174 ?_
                refine g_goto (tgt := 179) X dX10_goMeasure_175 (by decide) ?_
                refine g_istore_4 X dX10_goMeasure_179 rfl (fun v4_179 ev4_179 => ?_)
                subst v4_179
                refine g_aload_n X dX10_goMeasure_181 rfl rfl ?_
                refine g_dup X dX10_goMeasure_182 rfl ?_
                refine g_geti (kz := 6) X kd_114 fc9 (k := 6) (by decide) rfl wd_833 rfl dX10_goMeasure_183 ?_
                refine g_iload_n X dX10_goMeasure_186 rfl rfl ?_
                refine g_if_eq (tgt := 194) X dX10_goMeasure_187 (by decide) (by decide) (fun q => absurd q (by decide)) (fun _ => ?_)
                refine g_iconst X dX10_goMeasure_190 ?_
                refine g_goto (tgt := 195) X dX10_goMeasure_191 (by decide) ?_
                refine g_iadd X dX10_goMeasure_195 ?_
                refine g_puti (kz := 6) X kd_114 fc9 (k := 6) (by decide) rfl wd_833 rfl rfl rfl dX10_goMeasure_196 ?_
                refine g_aload_n X dX10_goMeasure_199 rfl rfl ?_
                refine g_iload_n X dX10_goMeasure_200 rfl rfl ?_
                refine g_if_eq (tgt := 208) X dX10_goMeasure_201 (by decide) (by decide) (fun q => absurd q (by decide)) (fun _ => ?_)
                refine g_iconst X dX10_goMeasure_204 ?_
                refine g_goto (tgt := 212) X dX10_goMeasure_205 (by decide) ?_
                refine g_puti (kz := 7) X kd_114 fc9 (k := 7) (by decide) rfl wd_834 rfl rfl rfl dX10_goMeasure_212 ?_
                refine g_aload_n X dX10_goMeasure_215 rfl rfl ?_
                refine g_iconst X dX10_goMeasure_216 ?_
                refine g_puti (kz := 2) X kd_114 fc9 (k := 2) (by decide) rfl wd_829 rfl rfl rfl dX10_goMeasure_217 ?_
                refine g_iload X dX10_goMeasure_220 rfl ?_
                rw [hQ]
                refine g_zret X hr hlk (by decide) dX10_goMeasure_222 ?_
                first | (exfalso; omega) | exact ⟨by first | exact b2i_1 (by unfold gmOk gmX gmY; omega) | exact b2i_0 (by unfold gmOk gmX gmY; omega), by unfold gmM gmC; rw [if_neg (by omega), if_neg (by omega)]; first | rw [if_pos (by omega), if_pos (by omega)] | rw [if_neg (by omega), if_neg (by omega)]⟩
        · refine g_iconst X dX10_goMeasure_133 ?_
          refine g_goto (tgt := 138) X dX10_goMeasure_134 (by decide) ?_
          refine g_istore_n_2 X dX10_goMeasure_138 rfl rfl (fun v2_138 ev2_138 => ?_)
          subst v2_138
          refine g_iload_n X dX10_goMeasure_139 rfl rfl ?_
          refine g_bipush X dX10_goMeasure_140 (by decide +kernel) ?_
          refine g_icmp_ne (tgt := 156) X dX10_goMeasure_142 (by decide) ⟨by omega, by omega⟩ (by decide) (fun q142 => ?_) (fun q142 => ?_)
          · refine g_iconst X dX10_goMeasure_156 ?_
            refine g_istore_n_3 X dX10_goMeasure_157 rfl rfl (fun v3_157 ev3_157 => ?_)
            subst v3_157
            refine g_aload_n X dX10_goMeasure_158 rfl rfl ?_
            refine g_geti (kz := 2) X kd_114 fc9 (k := 2) (by decide) rfl wd_829 rfl dX10_goMeasure_159 ?_
            refine g_iconst X dX10_goMeasure_162 ?_
            refine g_icmp_ne (tgt := 178) X dX10_goMeasure_163 (by decide) ⟨by omega, by omega⟩ (by decide) (fun q163 => ?_) (fun q163 => ?_)
            · refine g_iconst X dX10_goMeasure_178 ?_
              refine g_istore_4 X dX10_goMeasure_179 rfl (fun v4_179 ev4_179 => ?_)
              subst v4_179
              refine g_aload_n X dX10_goMeasure_181 rfl rfl ?_
              refine g_dup X dX10_goMeasure_182 rfl ?_
              refine g_geti (kz := 6) X kd_114 fc9 (k := 6) (by decide) rfl wd_833 rfl dX10_goMeasure_183 ?_
              refine g_iload_n X dX10_goMeasure_186 rfl rfl ?_
              refine g_if_eq (tgt := 194) X dX10_goMeasure_187 (by decide) (by decide) (fun _ => ?_) (fun q => absurd q (by decide))
              refine g_iconst X dX10_goMeasure_194 ?_
              refine g_iadd X dX10_goMeasure_195 ?_
              refine g_puti (kz := 6) X kd_114 fc9 (k := 6) (by decide) rfl wd_833 rfl rfl rfl dX10_goMeasure_196 ?_
              refine g_aload_n X dX10_goMeasure_199 rfl rfl ?_
              refine g_iload_n X dX10_goMeasure_200 rfl rfl ?_
              refine g_if_eq (tgt := 208) X dX10_goMeasure_201 (by decide) (by decide) (fun _ => ?_) (fun q => absurd q (by decide))
              refine g_aload_n X dX10_goMeasure_208 rfl rfl ?_
              refine g_geti (kz := 7) X kd_114 fc9 (k := 7) (by decide) rfl wd_834 rfl dX10_goMeasure_209 ?_
              refine g_teq (b := (M 114 7)) (by first | (simp [mu]; done) | (simp only [mu]; repeat (first | rw [if_pos (⟨rfl, rfl⟩)] | rw [if_neg (by omega)]))) ?_
              refine g_puti (kz := 7) X kd_114 fc9 (k := 7) (by decide) rfl wd_834 rfl rfl rfl dX10_goMeasure_212 ?_
              refine g_aload_n X dX10_goMeasure_215 rfl rfl ?_
              refine g_iconst X dX10_goMeasure_216 ?_
              refine g_puti (kz := 2) X kd_114 fc9 (k := 2) (by decide) rfl wd_829 rfl rfl rfl dX10_goMeasure_217 ?_
              refine g_iload X dX10_goMeasure_220 rfl ?_
              rw [hQ]
              refine g_zret X hr hlk (by decide) dX10_goMeasure_222 ?_
              first | (exfalso; omega) | exact ⟨by first | exact b2i_1 (by unfold gmOk gmX gmY; omega) | exact b2i_0 (by unfold gmOk gmX gmY; omega), by unfold gmM gmC; rw [if_neg (by omega), if_neg (by omega)]; first | rw [if_pos (by omega), if_pos (by omega)] | rw [if_neg (by omega), if_neg (by omega)]⟩
            · refine g_iload_n X dX10_goMeasure_166 rfl rfl ?_
              refine g_if_ne (tgt := 174) X dX10_goMeasure_167 (by decide) (by decide) (fun _ => ?_) (fun q => absurd q (by decide))
              refine g_iconst X dX10_goMeasure_174 ?_
              refine g_goto (tgt := 179) X dX10_goMeasure_175 (by decide) ?_
              refine g_istore_4 X dX10_goMeasure_179 rfl (fun v4_179 ev4_179 => ?_)
              subst v4_179
              refine g_aload_n X dX10_goMeasure_181 rfl rfl ?_
              refine g_dup X dX10_goMeasure_182 rfl ?_
              refine g_geti (kz := 6) X kd_114 fc9 (k := 6) (by decide) rfl wd_833 rfl dX10_goMeasure_183 ?_
              refine g_iload_n X dX10_goMeasure_186 rfl rfl ?_
              refine g_if_eq (tgt := 194) X dX10_goMeasure_187 (by decide) (by decide) (fun _ => ?_) (fun q => absurd q (by decide))
              refine g_iconst X dX10_goMeasure_194 ?_
              refine g_iadd X dX10_goMeasure_195 ?_
              refine g_puti (kz := 6) X kd_114 fc9 (k := 6) (by decide) rfl wd_833 rfl rfl rfl dX10_goMeasure_196 ?_
              refine g_aload_n X dX10_goMeasure_199 rfl rfl ?_
              refine g_iload_n X dX10_goMeasure_200 rfl rfl ?_
              refine g_if_eq (tgt := 208) X dX10_goMeasure_201 (by decide) (by decide) (fun _ => ?_) (fun q => absurd q (by decide))
              refine g_aload_n X dX10_goMeasure_208 rfl rfl ?_
              refine g_geti (kz := 7) X kd_114 fc9 (k := 7) (by decide) rfl wd_834 rfl dX10_goMeasure_209 ?_
              refine g_teq (b := (M 114 7)) (by first | (simp [mu]; done) | (simp only [mu]; repeat (first | rw [if_pos (⟨rfl, rfl⟩)] | rw [if_neg (by omega)]))) ?_
              refine g_puti (kz := 7) X kd_114 fc9 (k := 7) (by decide) rfl wd_834 rfl rfl rfl dX10_goMeasure_212 ?_
              refine g_aload_n X dX10_goMeasure_215 rfl rfl ?_
              refine g_iconst X dX10_goMeasure_216 ?_
              refine g_puti (kz := 2) X kd_114 fc9 (k := 2) (by decide) rfl wd_829 rfl rfl rfl dX10_goMeasure_217 ?_
              refine g_iload X dX10_goMeasure_220 rfl ?_
              rw [hQ]
              refine g_zret X hr hlk (by decide) dX10_goMeasure_222 ?_
              first | (exfalso; omega) | exact ⟨by first | exact b2i_1 (by unfold gmOk gmX gmY; omega) | exact b2i_0 (by unfold gmOk gmX gmY; omega), by unfold gmM gmC; rw [if_neg (by omega), if_neg (by omega)]; first | rw [if_pos (by omega), if_pos (by omega)] | rw [if_neg (by omega), if_neg (by omega)]⟩
          · refine g_aload_n X dX10_goMeasure_145 rfl rfl ?_
            refine g_geti (kz := 6) X kd_114 fc9 (k := 6) (by decide) rfl wd_833 rfl dX10_goMeasure_146 ?_
            refine g_if_ne (tgt := 156) X dX10_goMeasure_149 (by decide) ⟨by omega, by omega⟩ (fun q149 => ?_) (fun q149 => ?_)
            · refine g_iconst X dX10_goMeasure_156 ?_
              refine g_istore_n_3 X dX10_goMeasure_157 rfl rfl (fun v3_157 ev3_157 => ?_)
              subst v3_157
              refine g_aload_n X dX10_goMeasure_158 rfl rfl ?_
              refine g_geti (kz := 2) X kd_114 fc9 (k := 2) (by decide) rfl wd_829 rfl dX10_goMeasure_159 ?_
              refine g_iconst X dX10_goMeasure_162 ?_
              refine g_icmp_ne (tgt := 178) X dX10_goMeasure_163 (by decide) ⟨by omega, by omega⟩ (by decide) (fun q163 => ?_) (fun q163 => ?_)
              · refine g_iconst X dX10_goMeasure_178 ?_
                refine g_istore_4 X dX10_goMeasure_179 rfl (fun v4_179 ev4_179 => ?_)
                subst v4_179
                refine g_aload_n X dX10_goMeasure_181 rfl rfl ?_
                refine g_dup X dX10_goMeasure_182 rfl ?_
                refine g_geti (kz := 6) X kd_114 fc9 (k := 6) (by decide) rfl wd_833 rfl dX10_goMeasure_183 ?_
                refine g_iload_n X dX10_goMeasure_186 rfl rfl ?_
                refine g_if_eq (tgt := 194) X dX10_goMeasure_187 (by decide) (by decide) (fun _ => ?_) (fun q => absurd q (by decide))
                refine g_iconst X dX10_goMeasure_194 ?_
                refine g_iadd X dX10_goMeasure_195 ?_
                refine g_puti (kz := 6) X kd_114 fc9 (k := 6) (by decide) rfl wd_833 rfl rfl rfl dX10_goMeasure_196 ?_
                refine g_aload_n X dX10_goMeasure_199 rfl rfl ?_
                refine g_iload_n X dX10_goMeasure_200 rfl rfl ?_
                refine g_if_eq (tgt := 208) X dX10_goMeasure_201 (by decide) (by decide) (fun _ => ?_) (fun q => absurd q (by decide))
                refine g_aload_n X dX10_goMeasure_208 rfl rfl ?_
                refine g_geti (kz := 7) X kd_114 fc9 (k := 7) (by decide) rfl wd_834 rfl dX10_goMeasure_209 ?_
                refine g_teq (b := (M 114 7)) (by first | (simp [mu]; done) | (simp only [mu]; repeat (first | rw [if_pos (⟨rfl, rfl⟩)] | rw [if_neg (by omega)]))) ?_
                refine g_puti (kz := 7) X kd_114 fc9 (k := 7) (by decide) rfl wd_834 rfl rfl rfl dX10_goMeasure_212 ?_
                refine g_aload_n X dX10_goMeasure_215 rfl rfl ?_
                refine g_iconst X dX10_goMeasure_216 ?_
                refine g_puti (kz := 2) X kd_114 fc9 (k := 2) (by decide) rfl wd_829 rfl rfl rfl dX10_goMeasure_217 ?_
                refine g_iload X dX10_goMeasure_220 rfl ?_
                rw [hQ]
                refine g_zret X hr hlk (by decide) dX10_goMeasure_222 ?_
                first | (exfalso; omega) | exact ⟨by first | exact b2i_1 (by unfold gmOk gmX gmY; omega) | exact b2i_0 (by unfold gmOk gmX gmY; omega), by unfold gmM gmC; rw [if_neg (by omega), if_neg (by omega)]; first | rw [if_pos (by omega), if_pos (by omega)] | rw [if_neg (by omega), if_neg (by omega)]⟩
              · refine g_iload_n X dX10_goMeasure_166 rfl rfl ?_
                refine g_if_ne (tgt := 174) X dX10_goMeasure_167 (by decide) (by decide) (fun _ => ?_) (fun q => absurd q (by decide))
                refine g_iconst X dX10_goMeasure_174 ?_
                refine g_goto (tgt := 179) X dX10_goMeasure_175 (by decide) ?_
                refine g_istore_4 X dX10_goMeasure_179 rfl (fun v4_179 ev4_179 => ?_)
                subst v4_179
                refine g_aload_n X dX10_goMeasure_181 rfl rfl ?_
                refine g_dup X dX10_goMeasure_182 rfl ?_
                refine g_geti (kz := 6) X kd_114 fc9 (k := 6) (by decide) rfl wd_833 rfl dX10_goMeasure_183 ?_
                refine g_iload_n X dX10_goMeasure_186 rfl rfl ?_
                refine g_if_eq (tgt := 194) X dX10_goMeasure_187 (by decide) (by decide) (fun _ => ?_) (fun q => absurd q (by decide))
                refine g_iconst X dX10_goMeasure_194 ?_
                refine g_iadd X dX10_goMeasure_195 ?_
                refine g_puti (kz := 6) X kd_114 fc9 (k := 6) (by decide) rfl wd_833 rfl rfl rfl dX10_goMeasure_196 ?_
                refine g_aload_n X dX10_goMeasure_199 rfl rfl ?_
                refine g_iload_n X dX10_goMeasure_200 rfl rfl ?_
                refine g_if_eq (tgt := 208) X dX10_goMeasure_201 (by decide) (by decide) (fun _ => ?_) (fun q => absurd q (by decide))
                refine g_aload_n X dX10_goMeasure_208 rfl rfl ?_
                refine g_geti (kz := 7) X kd_114 fc9 (k := 7) (by decide) rfl wd_834 rfl dX10_goMeasure_209 ?_
                refine g_teq (b := (M 114 7)) (by first | (simp [mu]; done) | (simp only [mu]; repeat (first | rw [if_pos (⟨rfl, rfl⟩)] | rw [if_neg (by omega)]))) ?_
                refine g_puti (kz := 7) X kd_114 fc9 (k := 7) (by decide) rfl wd_834 rfl rfl rfl dX10_goMeasure_212 ?_
                refine g_aload_n X dX10_goMeasure_215 rfl rfl ?_
                refine g_iconst X dX10_goMeasure_216 ?_
                refine g_puti (kz := 2) X kd_114 fc9 (k := 2) (by decide) rfl wd_829 rfl rfl rfl dX10_goMeasure_217 ?_
                refine g_iload X dX10_goMeasure_220 rfl ?_
                rw [hQ]
                refine g_zret X hr hlk (by decide) dX10_goMeasure_222 ?_
                first | (exfalso; omega) | exact ⟨by first | exact b2i_1 (by unfold gmOk gmX gmY; omega) | exact b2i_0 (by unfold gmOk gmX gmY; omega), by unfold gmM gmC; rw [if_neg (by omega), if_neg (by omega)]; first | rw [if_pos (by omega), if_pos (by omega)] | rw [if_neg (by omega), if_neg (by omega)]⟩
            · refine g_iconst X dX10_goMeasure_152 ?_
              refine g_goto (tgt := 157) X dX10_goMeasure_153 (by decide) ?_
              refine g_istore_n_3 X dX10_goMeasure_157 rfl rfl (fun v3_157 ev3_157 => ?_)
              subst v3_157
              refine g_aload_n X dX10_goMeasure_158 rfl rfl ?_
              refine g_geti (kz := 2) X kd_114 fc9 (k := 2) (by decide) rfl wd_829 rfl dX10_goMeasure_159 ?_
              refine g_iconst X dX10_goMeasure_162 ?_
              refine g_icmp_ne (tgt := 178) X dX10_goMeasure_163 (by decide) ⟨by omega, by omega⟩ (by decide) (fun q163 => ?_) (fun q163 => ?_)
              · refine g_iconst X dX10_goMeasure_178 ?_
                refine g_istore_4 X dX10_goMeasure_179 rfl (fun v4_179 ev4_179 => ?_)
                subst v4_179
                refine g_aload_n X dX10_goMeasure_181 rfl rfl ?_
                refine g_dup X dX10_goMeasure_182 rfl ?_
                refine g_geti (kz := 6) X kd_114 fc9 (k := 6) (by decide) rfl wd_833 rfl dX10_goMeasure_183 ?_
                refine g_iload_n X dX10_goMeasure_186 rfl rfl ?_
                refine g_if_eq (tgt := 194) X dX10_goMeasure_187 (by decide) (by decide) (fun q => absurd q (by decide)) (fun _ => ?_)
                refine g_iconst X dX10_goMeasure_190 ?_
                refine g_goto (tgt := 195) X dX10_goMeasure_191 (by decide) ?_
                refine g_iadd X dX10_goMeasure_195 ?_
                refine g_puti (kz := 6) X kd_114 fc9 (k := 6) (by decide) rfl wd_833 rfl rfl rfl dX10_goMeasure_196 ?_
                refine g_aload_n X dX10_goMeasure_199 rfl rfl ?_
                refine g_iload_n X dX10_goMeasure_200 rfl rfl ?_
                refine g_if_eq (tgt := 208) X dX10_goMeasure_201 (by decide) (by decide) (fun q => absurd q (by decide)) (fun _ => ?_)
                refine g_iconst X dX10_goMeasure_204 ?_
                refine g_goto (tgt := 212) X dX10_goMeasure_205 (by decide) ?_
                refine g_puti (kz := 7) X kd_114 fc9 (k := 7) (by decide) rfl wd_834 rfl rfl rfl dX10_goMeasure_212 ?_
                refine g_aload_n X dX10_goMeasure_215 rfl rfl ?_
                refine g_iconst X dX10_goMeasure_216 ?_
                refine g_puti (kz := 2) X kd_114 fc9 (k := 2) (by decide) rfl wd_829 rfl rfl rfl dX10_goMeasure_217 ?_
                refine g_iload X dX10_goMeasure_220 rfl ?_
                rw [hQ]
                refine g_zret X hr hlk (by decide) dX10_goMeasure_222 ?_
                first | (exfalso; omega) | exact ⟨by first | exact b2i_1 (by unfold gmOk gmX gmY; omega) | exact b2i_0 (by unfold gmOk gmX gmY; omega), by unfold gmM gmC; rw [if_neg (by omega), if_neg (by omega)]; first | rw [if_pos (by omega), if_pos (by omega)] | rw [if_neg (by omega), if_neg (by omega)]⟩
              · refine g_iload_n X dX10_goMeasure_166 rfl rfl ?_
                refine g_if_ne (tgt := 174) X dX10_goMeasure_167 (by decide) (by decide) (fun _ => ?_) (fun q => absurd q (by decide))
                refine g_iconst X dX10_goMeasure_174 ?_
                refine g_goto (tgt := 179) X dX10_goMeasure_175 (by decide) ?_
                refine g_istore_4 X dX10_goMeasure_179 rfl (fun v4_179 ev4_179 => ?_)
                subst v4_179
                refine g_aload_n X dX10_goMeasure_181 rfl rfl ?_
                refine g_dup X dX10_goMeasure_182 rfl ?_
                refine g_geti (kz := 6) X kd_114 fc9 (k := 6) (by decide) rfl wd_833 rfl dX10_goMeasure_183 ?_
                refine g_iload_n X dX10_goMeasure_186 rfl rfl ?_
                refine g_if_eq (tgt := 194) X dX10_goMeasure_187 (by decide) (by decide) (fun q => absurd q (by decide)) (fun _ => ?_)
                refine g_iconst X dX10_goMeasure_190 ?_
                refine g_goto (tgt := 195) X dX10_goMeasure_191 (by decide) ?_
                refine g_iadd X dX10_goMeasure_195 ?_
                refine g_puti (kz := 6) X kd_114 fc9 (k := 6) (by decide) rfl wd_833 rfl rfl rfl dX10_goMeasure_196 ?_
                refine g_aload_n X dX10_goMeasure_199 rfl rfl ?_
                refine g_iload_n X dX10_goMeasure_200 rfl rfl ?_
                refine g_if_eq (tgt := 208) X dX10_goMeasure_201 (by decide) (by decide) (fun q => absurd q (by decide)) (fun _ => ?_)
                refine g_iconst X dX10_goMeasure_204 ?_
                refine g_goto (tgt := 212) X dX10_goMeasure_205 (by decide) ?_
                refine g_puti (kz := 7) X kd_114 fc9 (k := 7) (by decide) rfl wd_834 rfl rfl rfl dX10_goMeasure_212 ?_
                refine g_aload_n X dX10_goMeasure_215 rfl rfl ?_
                refine g_iconst X dX10_goMeasure_216 ?_
                refine g_puti (kz := 2) X kd_114 fc9 (k := 2) (by decide) rfl wd_829 rfl rfl rfl dX10_goMeasure_217 ?_
                refine g_iload X dX10_goMeasure_220 rfl ?_
                rw [hQ]
                refine g_zret X hr hlk (by decide) dX10_goMeasure_222 ?_
                first | (exfalso; omega) | exact ⟨by first | exact b2i_1 (by unfold gmOk gmX gmY; omega) | exact b2i_0 (by unfold gmOk gmX gmY; omega), by unfold gmM gmC; rw [if_neg (by omega), if_neg (by omega)]; first | rw [if_pos (by omega), if_pos (by omega)] | rw [if_neg (by omega), if_neg (by omega)]⟩
    · have q60 := b2i_t q60
      refine g_iload_n X dX10_goMeasure_63 rfl rfl ?_
      refine g_bipush X dX10_goMeasure_64 (by decide +kernel) ?_
      refine g_isub X dX10_goMeasure_66 ?_
      refine g_istore_n_2 X dX10_goMeasure_67 rfl rfl (fun v2_67 ev2_67 => ?_)
      subst v2_67
      refine g_iload_n X dX10_goMeasure_68 rfl rfl ?_
      refine g_aload_n X dX10_goMeasure_69 rfl rfl ?_
      refine g_geti (kz := 8) X kd_114 fc9 (k := 8) (by decide) rfl wd_835 rfl dX10_goMeasure_70 ?_
      refine g_icmp_le (tgt := 80) X dX10_goMeasure_73 (by decide) ⟨by omega, by omega⟩ ⟨by omega, by omega⟩ (fun q73 => ?_) (fun q73 => ?_)
      · refine g_iconst X dX10_goMeasure_80 ?_
        refine g_istore_n_3 X dX10_goMeasure_81 rfl rfl (fun v3_81 ev3_81 => ?_)
        subst v3_81
        refine g_aload_n X dX10_goMeasure_82 rfl rfl ?_
        refine g_iload_n X dX10_goMeasure_83 rfl rfl ?_
        refine g_puti (kz := 8) X kd_114 fc9 (k := 8) (by decide) rfl wd_835 rfl rfl rfl dX10_goMeasure_84 ?_
        refine g_aload_n X dX10_goMeasure_87 rfl rfl ?_
        refine g_getr (r := 117) X kd_114 fc9 (k := 11) (by decide) rfl wd_838 rfl (by decide) dX10_goMeasure_88 ?_
        refine g_bipush X dX10_goMeasure_91 (by decide +kernel) ?_
        refine g_aload_n X dX10_goMeasure_93 rfl rfl ?_
        refine g_geti (kz := 6) X kd_114 fc9 (k := 6) (by decide) rfl wd_833 rfl dX10_goMeasure_94 ?_
        refine g_teq (b := (M 114 6)) (by first | (simp [mu]; done) | (simp only [mu]; repeat (first | rw [if_pos (⟨rfl, rfl⟩)] | rw [if_neg (by omega)]))) ?_
        refine g_imul X dX10_goMeasure_97 ?_
        refine g_iconst X dX10_goMeasure_98 ?_
        refine g_iload_n X dX10_goMeasure_99 rfl rfl ?_
        refine g_imul X dX10_goMeasure_100 ?_
        refine g_iadd X dX10_goMeasure_101 ?_
        refine g_aload_n X dX10_goMeasure_102 rfl rfl ?_
        refine g_geti (kz := 4) X kd_114 fc9 (k := 4) (by decide) rfl wd_831 rfl dX10_goMeasure_103 ?_
        refine g_teq (b := (M 114 4)) (by first | (simp [mu]; done) | (simp only [mu]; repeat (first | rw [if_pos (⟨rfl, rfl⟩)] | rw [if_neg (by omega)]))) ?_
        refine g_iadd X dX10_goMeasure_106 ?_
        refine g_dup2 X dX10_goMeasure_107 rfl rfl ?_
        refine g_iald X kd_117 (by omega) (by omega) dX10_goMeasure_108 ?_
        refine g_teq (b := (M 117 (((12 * (M 114 6)) + (3 * (c - 48))) + (M 114 4)))) (by first | (simp [mu]; done) | (simp only [mu]; repeat (first | rw [if_pos (⟨rfl, rfl⟩)] | rw [if_neg (by omega)]))) ?_
        refine g_iconst X dX10_goMeasure_109 ?_
        refine g_iadd X dX10_goMeasure_110 ?_
        refine g_iast X kd_117 (by omega) (by omega) dX10_goMeasure_111 ?_
        refine g_aload_n X dX10_goMeasure_112 rfl rfl ?_
        refine g_iconst X dX10_goMeasure_113 ?_
        refine g_puti (kz := 2) X kd_114 fc9 (k := 2) (by decide) rfl wd_829 rfl rfl rfl dX10_goMeasure_114 ?_
        refine g_iload_n X dX10_goMeasure_117 rfl rfl ?_
        rw [hQ]
        refine g_zret X hr hlk (by decide) dX10_goMeasure_118 ?_
        first | exact ⟨b2i_1 (by unfold gmOk; omega), by unfold gmM; rw [if_neg (by omega), if_pos (by omega)]; rfl⟩ | exact ⟨b2i_0 (by unfold gmOk gmX gmY; omega), by unfold gmM; rw [if_neg (by omega), if_pos (by omega)]; rfl⟩
      · refine g_iconst X dX10_goMeasure_76 ?_
        refine g_goto (tgt := 81) X dX10_goMeasure_77 (by decide) ?_
        refine g_istore_n_3 X dX10_goMeasure_81 rfl rfl (fun v3_81 ev3_81 => ?_)
        subst v3_81
        refine g_aload_n X dX10_goMeasure_82 rfl rfl ?_
        refine g_iload_n X dX10_goMeasure_83 rfl rfl ?_
        refine g_puti (kz := 8) X kd_114 fc9 (k := 8) (by decide) rfl wd_835 rfl rfl rfl dX10_goMeasure_84 ?_
        refine g_aload_n X dX10_goMeasure_87 rfl rfl ?_
        refine g_getr (r := 117) X kd_114 fc9 (k := 11) (by decide) rfl wd_838 rfl (by decide) dX10_goMeasure_88 ?_
        refine g_bipush X dX10_goMeasure_91 (by decide +kernel) ?_
        refine g_aload_n X dX10_goMeasure_93 rfl rfl ?_
        refine g_geti (kz := 6) X kd_114 fc9 (k := 6) (by decide) rfl wd_833 rfl dX10_goMeasure_94 ?_
        refine g_teq (b := (M 114 6)) (by first | (simp [mu]; done) | (simp only [mu]; repeat (first | rw [if_pos (⟨rfl, rfl⟩)] | rw [if_neg (by omega)]))) ?_
        refine g_imul X dX10_goMeasure_97 ?_
        refine g_iconst X dX10_goMeasure_98 ?_
        refine g_iload_n X dX10_goMeasure_99 rfl rfl ?_
        refine g_imul X dX10_goMeasure_100 ?_
        refine g_iadd X dX10_goMeasure_101 ?_
        refine g_aload_n X dX10_goMeasure_102 rfl rfl ?_
        refine g_geti (kz := 4) X kd_114 fc9 (k := 4) (by decide) rfl wd_831 rfl dX10_goMeasure_103 ?_
        refine g_teq (b := (M 114 4)) (by first | (simp [mu]; done) | (simp only [mu]; repeat (first | rw [if_pos (⟨rfl, rfl⟩)] | rw [if_neg (by omega)]))) ?_
        refine g_iadd X dX10_goMeasure_106 ?_
        refine g_dup2 X dX10_goMeasure_107 rfl rfl ?_
        refine g_iald X kd_117 (by omega) (by omega) dX10_goMeasure_108 ?_
        refine g_teq (b := (M 117 (((12 * (M 114 6)) + (3 * (c - 48))) + (M 114 4)))) (by first | (simp [mu]; done) | (simp only [mu]; repeat (first | rw [if_pos (⟨rfl, rfl⟩)] | rw [if_neg (by omega)]))) ?_
        refine g_iconst X dX10_goMeasure_109 ?_
        refine g_iadd X dX10_goMeasure_110 ?_
        refine g_iast X kd_117 (by omega) (by omega) dX10_goMeasure_111 ?_
        refine g_aload_n X dX10_goMeasure_112 rfl rfl ?_
        refine g_iconst X dX10_goMeasure_113 ?_
        refine g_puti (kz := 2) X kd_114 fc9 (k := 2) (by decide) rfl wd_829 rfl rfl rfl dX10_goMeasure_114 ?_
        refine g_iload_n X dX10_goMeasure_117 rfl rfl ?_
        rw [hQ]
        refine g_zret X hr hlk (by decide) dX10_goMeasure_118 ?_
        first | exact ⟨b2i_1 (by unfold gmOk; omega), by unfold gmM; rw [if_neg (by omega), if_pos (by omega)]; rfl⟩ | exact ⟨b2i_0 (by unfold gmOk gmX gmY; omega), by unfold gmM; rw [if_neg (by omega), if_pos (by omega)]; rfl⟩
  · have q4 := g3 (by omega)
    refine g_aload_n X dX10_goMeasure_7 rfl rfl ?_
    refine g_iload_n X dX10_goMeasure_8 rfl rfl ?_
    refine g_callSI X (c_X10_colourOf lL tT dD al _ _ ⟨by omega, by omega⟩) lk_RX10_123 rfl rfl ⟨by decide, by decide⟩ rfl (Nat.le_of_ble_eq_true rfl) dX10_goMeasure_9 (fun r9 M9 hc9 => ?_)
    obtain ⟨hr9, hm9⟩ := hc9
    subst r9
    subst M9
    refine g_puti (kz := 4) X kd_114 fc9 (k := 4) (by decide) rfl wd_831 rfl rfl rfl dX10_goMeasure_12 ?_
    refine g_aload_n X dX10_goMeasure_15 rfl rfl ?_
    refine g_iconst X dX10_goMeasure_16 ?_
    refine g_puti (kz := 8) X kd_114 fc9 (k := 8) (by decide) rfl wd_835 rfl rfl rfl dX10_goMeasure_17 ?_
    refine g_aload_n X dX10_goMeasure_20 rfl rfl ?_
    refine g_dup X dX10_goMeasure_21 rfl ?_
    refine g_geti (kz := 7) X kd_114 fc9 (k := 7) (by decide) rfl wd_834 rfl dX10_goMeasure_22 ?_
    refine g_teq (b := (M 114 7)) (by first | (simp [mu]; done) | (simp only [mu]; repeat (first | rw [if_pos (⟨rfl, rfl⟩)] | rw [if_neg (by omega)]))) ?_
    refine g_iconst X dX10_goMeasure_25 ?_
    refine g_iadd X dX10_goMeasure_26 ?_
    refine g_puti (kz := 7) X kd_114 fc9 (k := 7) (by decide) rfl wd_834 rfl rfl rfl dX10_goMeasure_27 ?_
    refine g_aload_n X dX10_goMeasure_30 rfl rfl ?_
    refine g_iconst X dX10_goMeasure_31 ?_
    refine g_puti (kz := 2) X kd_114 fc9 (k := 2) (by decide) rfl wd_829 rfl rfl rfl dX10_goMeasure_32 ?_
    refine g_aload_n X dX10_goMeasure_35 rfl rfl ?_
    refine g_geti (kz := 4) X kd_114 fc9 (k := 4) (by decide) rfl wd_831 rfl dX10_goMeasure_36 ?_
    refine g_teq (b := (colS c)) (by first | (simp [mu]; done) | (simp only [mu]; repeat (first | rw [if_pos (⟨rfl, rfl⟩)] | rw [if_neg (by omega)]))) ?_
    refine g_iconst X dX10_goMeasure_39 ?_
    refine g_icmp_eq (tgt := 47) X dX10_goMeasure_40 (by decide) ⟨by omega, by omega⟩ (by decide) (fun q40 => ?_) (fun q40 => ?_)
    · refine g_iconst X dX10_goMeasure_47 ?_
      rw [hQ]
      refine g_zret X hr hlk (by decide) dX10_goMeasure_48 ?_
      first | exact ⟨b2i_1 (by unfold gmOk; omega), by unfold gmM; rw [if_pos (by omega)]; rfl⟩ | exact ⟨b2i_0 (by unfold gmOk; omega), by unfold gmM; rw [if_pos (by omega)]; rfl⟩
    · refine g_iconst X dX10_goMeasure_43 ?_
      refine g_goto (tgt := 48) X dX10_goMeasure_44 (by decide) ?_
      rw [hQ]
      refine g_zret X hr hlk (by decide) dX10_goMeasure_48 ?_
      first | exact ⟨b2i_1 (by unfold gmOk; omega), by unfold gmM; rw [if_pos (by omega)]; rfl⟩ | exact ⟨b2i_0 (by unfold gmOk; omega), by unfold gmM; rw [if_pos (by omega)]; rfl⟩
