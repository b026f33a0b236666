set_option maxRecDepth 100000 in
set_option maxHeartbeats 4000000 in
theorem c_X10_goLamp (lL : Launch) (tT : TT) (dD : va_G) (al : Int → Nat) (M : Mem) (c : Int) (hG : GL M) (hc : 1 ≤ c ∧ c ≤ 126) : CI lL yX10_goLamp cX10_goLamp 3 FieldType.boolean 2 45 tT dD al [.ref (al 114), .int (iN c)] M (fun r M' => r = b2i (glOk M c) ∧ M' = glM M c) := by
  refine CI.of (own := "RedSkiesModel") (ls0 := [some (.ref (al 114)), some (.int (iN c)), none]) (by decide +kernel) rfl (Nat.le_of_ble_eq_true rfl) rfl ?_
  intro pP eE sS mI aA bB mM cC X hr hlk
  obtain ⟨Q, hQ⟩ : ∃ Q : State → Prop, Q = MQ bB (QI tT dD al (fun r M' => r = b2i (glOk M c) ∧ M' = glM M c)) aA sS 0 0 (fA al) := ⟨_, rfl⟩
  rw [← hQ]
  obtain ⟨g1, g2, g3, g4, g5, g6⟩ := hG
  have hcs := colS_rng c
  have hbt := bit_01 (M 114 10) (colS c)
  refine g_aload_n X dX10_goLamp_0 rfl rfl ?_
  refine g_geti (kz := 2) X kd_114 fc9 (k := 2) (by decide) rfl wd_829 rfl dX10_goLamp_1 ?_
  refine g_iconst X dX10_goLamp_4 ?_
  refine g_icmp_ne (tgt := 69) X dX10_goLamp_5 (by decide) ⟨by omega, by omega⟩ (by decide) (fun q5 => ?_) (fun q5 => ?_)
  · refine g_aload_n X dX10_goLamp_69 rfl rfl ?_
    refine g_geti (kz := 2) X kd_114 fc9 (k := 2) (by decide) rfl wd_829 rfl dX10_goLamp_70 ?_
    refine g_if_eq (tgt := 84) X dX10_goLamp_73 (by decide) ⟨by omega, by omega⟩ (fun q73 => ?_) (fun q73 => ?_)
    · refine g_aload_n X dX10_goLamp_84 rfl rfl ?_
      refine g_iload_n X dX10_goLamp_85 rfl rfl ?_
      refine g_callSI X (c_X10_colourOf lL tT dD al _ _ ⟨by omega, by omega⟩) lk_RX10_123 rfl rfl ⟨by decide, by decide⟩ rfl (Nat.le_of_ble_eq_true rfl) dX10_goLamp_86 (fun r86 M86 hc86 => ?_)
      obtain ⟨hr86, hm86⟩ := hc86
      subst r86
      subst M86
      refine g_puti (kz := 4) X kd_114 fc9 (k := 4) (by decide) rfl wd_831 rfl rfl rfl dX10_goLamp_89 ?_
      refine g_aload_n X dX10_goLamp_92 rfl rfl ?_
      refine g_geti (kz := 4) X kd_114 fc9 (k := 4) (by decide) rfl wd_831 rfl dX10_goLamp_93 ?_
      refine g_teq (b := (colS c)) (by first | (simp [mu]; done) | (simp only [mu]; repeat (first | rw [if_pos (⟨rfl, rfl⟩)] | rw [if_neg (by omega)]))) ?_
      refine g_iconst X dX10_goLamp_96 ?_
      refine g_icmp_eq (tgt := 118) X dX10_goLamp_97 (by decide) ⟨by omega, by omega⟩ (by decide) (fun q97 => ?_) (fun q97 => ?_)
      · refine g_iconst X dX10_goLamp_118 ?_
        refine g_istore_n_2 X dX10_goLamp_119 rfl rfl (fun v2_119 ev2_119 => ?_)
        subst v2_119
        refine g_aload_n X dX10_goLamp_120 rfl rfl ?_
        refine g_dup X dX10_goLamp_121 rfl ?_
        refine g_geti (kz := 10) X kd_114 fc9 (k := 10) (by decide) rfl wd_837 rfl dX10_goLamp_122 ?_
        refine g_teq (b := (M 114 10)) (by first | (simp [mu]; done) | (simp only [mu]; repeat (first | rw [if_pos (⟨rfl, rfl⟩)] | rw [if_neg (by omega)]))) ?_
        refine g_iload_n X dX10_goLamp_125 rfl rfl ?_
        refine g_if_eq (tgt := 138) X dX10_goLamp_126 (by decide) (by decide) (fun _ => ?_) (fun q => absurd q (by decide))
        refine g_iconst X dX10_goLamp_138 ?_
        refine g_ior X dX10_goLamp_139 ?_
        refine g_puti (kz := 10) X kd_114 fc9 (k := 10) (by decide) rfl wd_837 rfl rfl rfl dX10_goLamp_140 ?_
        refine g_aload_n X dX10_goLamp_143 rfl rfl ?_
        refine g_iconst X dX10_goLamp_144 ?_
        refine g_puti (kz := 2) X kd_114 fc9 (k := 2) (by decide) rfl wd_829 rfl rfl rfl dX10_goLamp_145 ?_
        refine g_iload_n X dX10_goLamp_148 rfl rfl ?_
        rw [hQ]
        refine g_zret X hr hlk (by decide) dX10_goLamp_149 ?_
        have nA : ¬ (M 114 2 = 3 ∧ 48 ≤ c ∧ c ≤ 57) := by omega
        have nB : M 114 2 = 0 ∨ 2 < M 114 2 := by omega
        first | (have hf : glF M c := ⟨by omega, by omega⟩; exact ⟨(b2i_1 (Or.inr (Or.inl ⟨nA, nB, hf⟩))), by unfold glM glB; rw [if_neg nA, if_pos nB, if_pos (b2i_1 hf).symm]⟩) | (have hf : ¬ glF M c := (fun q => absurd q (by unfold glF; omega)); exact ⟨(b2i_0 (by unfold glOk; rintro (q | q | q | q) <;> first | omega | exact hf q.2.2)), by unfold glM glB; rw [if_neg nA, if_pos nB, if_neg (by rw [← b2i_0 hf]; decide)]⟩)
      · refine g_aload_n X dX10_goLamp_100 rfl rfl ?_
        refine g_geti (kz := 10) X kd_114 fc9 (k := 10) (by decide) rfl wd_837 rfl dX10_goLamp_101 ?_
        refine g_teq (b := (M 114 10)) (by first | (simp [mu]; done) | (simp only [mu]; repeat (first | rw [if_pos (⟨rfl, rfl⟩)] | rw [if_neg (by omega)]))) ?_
        refine g_aload_n X dX10_goLamp_104 rfl rfl ?_
        refine g_geti (kz := 4) X kd_114 fc9 (k := 4) (by decide) rfl wd_831 rfl dX10_goLamp_105 ?_
        refine g_teq (b := (colS c)) (by first | (simp [mu]; done) | (simp only [mu]; repeat (first | rw [if_pos (⟨rfl, rfl⟩)] | rw [if_neg (by omega)]))) ?_
        refine g_ishr X dX10_goLamp_108 ?_
        refine g_iconst X dX10_goLamp_109 ?_
        refine g_iand X dX10_goLamp_110 ?_
        refine g_teq (b := bit (M 114 10) (colS c)) (by exact hold_eq (by omega) (by omega) (by omega) (by omega)) ?_
        refine g_if_ne (tgt := 118) X dX10_goLamp_111 (by decide) ⟨by omega, by omega⟩ (fun q111 => ?_) (fun q111 => ?_)
        · refine g_iconst X dX10_goLamp_118 ?_
          refine g_istore_n_2 X dX10_goLamp_119 rfl rfl (fun v2_119 ev2_119 => ?_)
          subst v2_119
          refine g_aload_n X dX10_goLamp_120 rfl rfl ?_
          refine g_dup X dX10_goLamp_121 rfl ?_
          refine g_geti (kz := 10) X kd_114 fc9 (k := 10) (by decide) rfl wd_837 rfl dX10_goLamp_122 ?_
          refine g_teq (b := (M 114 10)) (by first | (simp [mu]; done) | (simp only [mu]; repeat (first | rw [if_pos (⟨rfl, rfl⟩)] | rw [if_neg (by omega)]))) ?_
          refine g_iload_n X dX10_goLamp_125 rfl rfl ?_
          refine g_if_eq (tgt := 138) X dX10_goLamp_126 (by decide) (by decide) (fun _ => ?_) (fun q => absurd q (by decide))
          refine g_iconst X dX10_goLamp_138 ?_
          refine g_ior X dX10_goLamp_139 ?_
          refine g_puti (kz := 10) X kd_114 fc9 (k := 10) (by decide) rfl wd_837 rfl rfl rfl dX10_goLamp_140 ?_
          refine g_aload_n X dX10_goLamp_143 rfl rfl ?_
          refine g_iconst X dX10_goLamp_144 ?_
          refine g_puti (kz := 2) X kd_114 fc9 (k := 2) (by decide) rfl wd_829 rfl rfl rfl dX10_goLamp_145 ?_
          refine g_iload_n X dX10_goLamp_148 rfl rfl ?_
          rw [hQ]
          refine g_zret X hr hlk (by decide) dX10_goLamp_149 ?_
          have nA : ¬ (M 114 2 = 3 ∧ 48 ≤ c ∧ c ≤ 57) := by omega
          have nB : M 114 2 = 0 ∨ 2 < M 114 2 := by omega
          first | (have hf : glF M c := ⟨by omega, by omega⟩; exact ⟨(b2i_1 (Or.inr (Or.inl ⟨nA, nB, hf⟩))), by unfold glM glB; rw [if_neg nA, if_pos nB, if_pos (b2i_1 hf).symm]⟩) | (have hf : ¬ glF M c := (fun q => absurd q (by unfold glF; omega)); exact ⟨(b2i_0 (by unfold glOk; rintro (q | q | q | q) <;> first | omega | exact hf q.2.2)), by unfold glM glB; rw [if_neg nA, if_pos nB, if_neg (by rw [← b2i_0 hf]; decide)]⟩)
        · refine g_iconst X dX10_goLamp_114 ?_
          refine g_goto (tgt := 119) X dX10_goLamp_115 (by decide) ?_
          refine g_istore_n_2 X dX10_goLamp_119 rfl rfl (fun v2_119 ev2_119 => ?_)
          subst v2_119
          refine g_aload_n X dX10_goLamp_120 rfl rfl ?_
          refine g_dup X dX10_goLamp_121 rfl ?_
          refine g_geti (kz := 10) X kd_114 fc9 (k := 10) (by decide) rfl wd_837 rfl dX10_goLamp_122 ?_
          refine g_teq (b := (M 114 10)) (by first | (simp [mu]; done) | (simp only [mu]; repeat (first | rw [if_pos (⟨rfl, rfl⟩)] | rw [if_neg (by omega)]))) ?_
          refine g_iload_n X dX10_goLamp_125 rfl rfl ?_
          refine g_if_eq (tgt := 138) X dX10_goLamp_126 (by decide) (by decide) (fun q => absurd q (by decide)) (fun _ => ?_)
          refine g_iconst X dX10_goLamp_129 ?_
          refine g_aload_n X dX10_goLamp_130 rfl rfl ?_
          refine g_geti (kz := 4) X kd_114 fc9 (k := 4) (by decide) rfl wd_831 rfl dX10_goLamp_131 ?_
          refine g_teq (b := (colS c)) (by first | (simp [mu]; done) | (simp only [mu]; repeat (first | rw [if_pos (⟨rfl, rfl⟩)] | rw [if_neg (by omega)]))) ?_
          refine g_ishl X dX10_goLamp_134 ?_
          refine g_goto (tgt := 139) X dX10_goLamp_135 (by decide) ?_
          refine g_ior X dX10_goLamp_139 ?_
          refine g_puti (kz := 10) X kd_114 fc9 (k := 10) (by decide) rfl wd_837 rfl rfl rfl dX10_goLamp_140 ?_
          refine g_aload_n X dX10_goLamp_143 rfl rfl ?_
          refine g_iconst X dX10_goLamp_144 ?_
          refine g_puti (kz := 2) X kd_114 fc9 (k := 2) (by decide) rfl wd_829 rfl rfl rfl dX10_goLamp_145 ?_
          refine g_iload_n X dX10_goLamp_148 rfl rfl ?_
          rw [hQ]
          refine g_zret X hr hlk (by decide) dX10_goLamp_149 ?_
          have nA : ¬ (M 114 2 = 3 ∧ 48 ≤ c ∧ c ≤ 57) := by omega
          have nB : M 114 2 = 0 ∨ 2 < M 114 2 := by omega
          first | (have hf : glF M c := ⟨by omega, by omega⟩; exact ⟨(b2i_1 (Or.inr (Or.inl ⟨nA, nB, hf⟩))), by unfold glM glB; rw [if_neg nA, if_pos nB, if_pos (b2i_1 hf).symm]⟩) | (have hf : ¬ glF M c := (fun q => absurd q (by unfold glF; omega)); exact ⟨(b2i_0 (by unfold glOk; rintro (q | q | q | q) <;> first | omega | exact hf q.2.2)), by unfold glM glB; rw [if_neg nA, if_pos nB, if_neg (by rw [← b2i_0 hf]; decide)]⟩)
    · refine g_aload_n X dX10_goLamp_76 rfl rfl ?_
      refine g_geti (kz := 2) X kd_114 fc9 (k := 2) (by decide) rfl wd_829 rfl dX10_goLamp_77 ?_
      refine g_iconst X dX10_goLamp_80 ?_
      refine g_icmp_le (tgt := 150) X dX10_goLamp_81 (by decide) ⟨by omega, by omega⟩ (by decide) (fun q81 => ?_) (fun q81 => ?_)
      · refine g_aload_n X dX10_goLamp_150 rfl rfl ?_
        refine g_geti (kz := 2) X kd_114 fc9 (k := 2) (by decide) rfl wd_829 rfl dX10_goLamp_151 ?_
        refine g_iconst X dX10_goLamp_154 ?_
        refine g_icmp_ne (tgt := 196) X dX10_goLamp_155 (by decide) ⟨by omega, by omega⟩ (by decide) (fun q155 => ?_) (fun q155 => ?_)
        · have q3 := g3 (by omega)
          refine g_aload_n X dX10_goLamp_196 rfl rfl ?_
          refine g_iload_n X dX10_goLamp_197 rfl rfl ?_
          refine g_bipush X dX10_goLamp_198 (by decide +kernel) ?_
          refine g_isub X dX10_goLamp_200 ?_
          refine g_puti (kz := 3) X kd_114 fc9 (k := 3) (by decide) rfl wd_830 rfl rfl rfl dX10_goLamp_201 ?_
          refine g_aload_n X dX10_goLamp_204 rfl rfl ?_
          refine g_getr (r := 116) X kd_114 fc9 (k := 9) (by decide) rfl wd_836 rfl (by decide) dX10_goLamp_205 ?_
          refine g_aload_n X dX10_goLamp_208 rfl rfl ?_
          refine g_geti (kz := 4) X kd_114 fc9 (k := 4) (by decide) rfl wd_831 rfl dX10_goLamp_209 ?_
          refine g_teq (b := (M 114 4)) (by first | (simp [mu]; done) | (simp only [mu]; repeat (first | rw [if_pos (⟨rfl, rfl⟩)] | rw [if_neg (by omega)]))) ?_
          refine g_aload_n X dX10_goLamp_212 rfl rfl ?_
          refine g_geti (kz := 5) X kd_114 fc9 (k := 5) (by decide) rfl wd_832 rfl dX10_goLamp_213 ?_
          refine g_teq (b := (M 114 5)) (by first | (simp [mu]; done) | (simp only [mu]; repeat (first | rw [if_pos (⟨rfl, rfl⟩)] | rw [if_neg (by omega)]))) ?_
          refine g_aload_n X dX10_goLamp_216 rfl rfl ?_
          refine g_geti (kz := 3) X kd_114 fc9 (k := 3) (by decide) rfl wd_830 rfl dX10_goLamp_217 ?_
          refine g_teq (b := (c - 48)) (by first | (simp [mu]; done) | (simp only [mu]; repeat (first | rw [if_pos (⟨rfl, rfl⟩)] | rw [if_neg (by omega)]))) ?_
          refine g_imul X dX10_goLamp_220 ?_
          refine g_iast X kd_116 (by omega) (by omega) dX10_goLamp_221 ?_
          refine g_aload_n X dX10_goLamp_222 rfl rfl ?_
          refine g_iload_n X dX10_goLamp_223 rfl rfl ?_
          refine g_bipush X dX10_goLamp_224 (by decide +kernel) ?_
          refine g_icmp_eq (tgt := 235) X dX10_goLamp_226 (by decide) ⟨by omega, by omega⟩ (by decide) (fun q226 => ?_) (fun q226 => ?_)
          · refine g_iconst X dX10_goLamp_235 ?_
            refine g_goto (tgt := 240) X dX10_goLamp_236 (by decide) ?_
            refine g_puti (kz := 2) X kd_114 fc9 (k := 2) (by decide) rfl wd_829 rfl rfl rfl dX10_goLamp_240 ?_
            refine g_iload_n X dX10_goLamp_243 rfl rfl ?_
            refine g_callSI X (c_X10_isDigit lL tT dD al _ _ ⟨by omega, by omega⟩) lk_RX10_110 rfl rfl ⟨by decide, by decide⟩ rfl (Nat.le_of_ble_eq_true rfl) dX10_goLamp_244 (fun r244 M244 hc244 => ?_)
            obtain ⟨hr244, hm244⟩ := hc244
            subst r244
            subst M244
            rw [hQ]
            refine g_zret X hr hlk (b2i_01 _) dX10_goLamp_247 ?_
            clear X hr hlk hQ
            first | (exfalso; omega) | exact ⟨by congr 1; unfold glOk; grind, by unfold glM glD; rw [if_neg (by omega), if_neg (by omega), if_neg (by omega)]; first | rw [if_pos (by omega)] | rw [if_neg (by omega)]⟩
          · refine g_iload_n X dX10_goLamp_229 rfl rfl ?_
            refine g_bipush X dX10_goLamp_230 (by decide +kernel) ?_
            refine g_icmp_ne (tgt := 239) X dX10_goLamp_232 (by decide) ⟨by omega, by omega⟩ (by decide) (fun q232 => ?_) (fun q232 => ?_)
            · refine g_iconst X dX10_goLamp_239 ?_
              refine g_puti (kz := 2) X kd_114 fc9 (k := 2) (by decide) rfl wd_829 rfl rfl rfl dX10_goLamp_240 ?_
              refine g_iload_n X dX10_goLamp_243 rfl rfl ?_
              refine g_callSI X (c_X10_isDigit lL tT dD al _ _ ⟨by omega, by omega⟩) lk_RX10_110 rfl rfl ⟨by decide, by decide⟩ rfl (Nat.le_of_ble_eq_true rfl) dX10_goLamp_244 (fun r244 M244 hc244 => ?_)
              obtain ⟨hr244, hm244⟩ := hc244
              subst r244
              subst M244
              rw [hQ]
              refine g_zret X hr hlk (b2i_01 _) dX10_goLamp_247 ?_
              clear X hr hlk hQ
              first | (exfalso; omega) | exact ⟨by congr 1; unfold glOk; grind, by unfold glM glD; rw [if_neg (by omega), if_neg (by omega), if_neg (by omega)]; first | rw [if_pos (by omega)] | rw [if_neg (by omega)]⟩
            · refine g_iconst X dX10_goLamp_235 ?_
              refine g_goto (tgt := 240) X dX10_goLamp_236 (by decide) ?_
              refine g_puti (kz := 2) X kd_114 fc9 (k := 2) (by decide) rfl wd_829 rfl rfl rfl dX10_goLamp_240 ?_
              refine g_iload_n X dX10_goLamp_243 rfl rfl ?_
              refine g_callSI X (c_X10_isDigit lL tT dD al _ _ ⟨by omega, by omega⟩) lk_RX10_110 rfl rfl ⟨by decide, by decide⟩ rfl (Nat.le_of_ble_eq_true rfl) dX10_goLamp_244 (fun r244 M244 hc244 => ?_)
              obtain ⟨hr244, hm244⟩ := hc244
              subst r244
              subst M244
              rw [hQ]
              refine g_zret X hr hlk (b2i_01 _) dX10_goLamp_247 ?_
              clear X hr hlk hQ
              first | (exfalso; omega) | exact ⟨by congr 1; unfold glOk; grind, by unfold glM glD; rw [if_neg (by omega), if_neg (by omega), if_neg (by omega)]; first | rw [if_pos (by omega)] | rw [if_neg (by omega)]⟩
        · refine g_aload_n X dX10_goLamp_158 rfl rfl ?_
          refine g_iload_n X dX10_goLamp_159 rfl rfl ?_
          refine g_bipush X dX10_goLamp_160 (by decide +kernel) ?_
          refine g_icmp_ne (tgt := 169) X dX10_goLamp_162 (by decide) ⟨by omega, by omega⟩ (by decide) (fun q162 => ?_) (fun q162 => ?_)
          · refine g_iconst X dX10_goLamp_169 ?_
            refine g_puti (kz := 5) X kd_114 fc9 (k := 5) (by decide) rfl wd_832 rfl rfl rfl dX10_goLamp_170 ?_
            refine g_aload_n X dX10_goLamp_173 rfl rfl ?_
            refine g_iconst X dX10_goLamp_174 ?_
            refine g_puti (kz := 2) X kd_114 fc9 (k := 2) (by decide) rfl wd_829 rfl rfl rfl dX10_goLamp_175 ?_
            refine g_iload_n X dX10_goLamp_178 rfl rfl ?_
            refine g_bipush X dX10_goLamp_179 (by decide +kernel) ?_
            refine g_icmp_eq (tgt := 190) X dX10_goLamp_181 (by decide) ⟨by omega, by omega⟩ (by decide) (fun q181 => ?_) (fun q181 => ?_)
            · refine g_iconst X dX10_goLamp_190 ?_
              refine g_goto (tgt := 195) X dX10_goLamp_191 (by decide) ?_
              rw [hQ]
              refine g_zret X hr hlk (by decide) dX10_goLamp_195 ?_
              first | (exfalso; omega) | exact ⟨by first | exact b2i_1 (by unfold glOk; omega) | exact b2i_0 (by unfold glOk; omega), by unfold glM glC; rw [if_neg (by omega), if_neg (by omega), if_pos (by omega)]; first | rw [if_pos (by omega)] | rw [if_neg (by omega)]⟩
            · refine g_iload_n X dX10_goLamp_184 rfl rfl ?_
              refine g_bipush X dX10_goLamp_185 (by decide +kernel) ?_
              refine g_icmp_ne (tgt := 194) X dX10_goLamp_187 (by decide) ⟨by omega, by omega⟩ (by decide) (fun q187 => ?_) (fun q187 => ?_)
              · refine g_iconst X dX10_goLamp_194 ?_
                rw [hQ]
                refine g_zret X hr hlk (by decide) dX10_goLamp_195 ?_
                first | (exfalso; omega) | exact ⟨by first | exact b2i_1 (by unfold glOk; omega) | exact b2i_0 (by unfold glOk; omega), by unfold glM glC; rw [if_neg (by omega), if_neg (by omega), if_pos (by omega)]; first | rw [if_pos (by omega)] | rw [if_neg (by omega)]⟩
              · refine g_iconst X dX10_goLamp_190 ?_
                refine g_goto (tgt := 195) X dX10_goLamp_191 (by decide) ?_
                rw [hQ]
                refine g_zret X hr hlk (by decide) dX10_goLamp_195 ?_
                first | (exfalso; omega) | exact ⟨by first | exact b2i_1 (by unfold glOk; omega) | exact b2i_0 (by unfold glOk; omega), by unfold glM glC; rw [if_neg (by omega), if_neg (by omega), if_pos (by omega)]; first | rw [if_pos (by omega)] | rw [if_neg (by omega)]⟩
          · refine g_iconst X dX10_goLamp_165 ?_
            refine g_goto (tgt := 170) X dX10_goLamp_166 (by decide) ?_
            refine g_puti (kz := 5) X kd_114 fc9 (k := 5) (by decide) rfl wd_832 rfl rfl rfl dX10_goLamp_170 ?_
            refine g_aload_n X dX10_goLamp_173 rfl rfl ?_
            refine g_iconst X dX10_goLamp_174 ?_
            refine g_puti (kz := 2) X kd_114 fc9 (k := 2) (by decide) rfl wd_829 rfl rfl rfl dX10_goLamp_175 ?_
            refine g_iload_n X dX10_goLamp_178 rfl rfl ?_
            refine g_bipush X dX10_goLamp_179 (by decide +kernel) ?_
            refine g_icmp_eq (tgt := 190) X dX10_goLamp_181 (by decide) ⟨by omega, by omega⟩ (by decide) (fun q181 => ?_) (fun q181 => ?_)
            · refine g_iconst X dX10_goLamp_190 ?_
              refine g_goto (tgt := 195) X dX10_goLamp_191 (by decide) ?_
              rw [hQ]
              refine g_zret X hr hlk (by decide) dX10_goLamp_195 ?_
              first | (exfalso; omega) | exact ⟨by first | exact b2i_1 (by unfold glOk; omega) | exact b2i_0 (by unfold glOk; omega), by unfold glM glC; rw [if_neg (by omega), if_neg (by omega), if_pos (by omega)]; first | rw [if_pos (by omega)] | rw [if_neg (by omega)]⟩
            · refine g_iload_n X dX10_goLamp_184 rfl rfl ?_
              refine g_bipush X dX10_goLamp_185 (by decide +kernel) ?_
              refine g_icmp_ne (tgt := 194) X dX10_goLamp_187 (by decide) ⟨by omega, by omega⟩ (by decide) (fun q187 => ?_) (fun q187 => ?_)
              · refine g_iconst X dX10_goLamp_194 ?_
                rw [hQ]
                refine g_zret X hr hlk (by decide) dX10_goLamp_195 ?_
                first | (exfalso; omega) | exact ⟨by first | exact b2i_1 (by unfold glOk; omega) | exact b2i_0 (by unfold glOk; omega), by unfold glM glC; rw [if_neg (by omega), if_neg (by omega), if_pos (by omega)]; first | rw [if_pos (by omega)] | rw [if_neg (by omega)]⟩
              · refine g_iconst X dX10_goLamp_190 ?_
                refine g_goto (tgt := 195) X dX10_goLamp_191 (by decide) ?_
                rw [hQ]
                refine g_zret X hr hlk (by decide) dX10_goLamp_195 ?_
                first | (exfalso; omega) | exact ⟨by first | exact b2i_1 (by unfold glOk; omega) | exact b2i_0 (by unfold glOk; omega), by unfold glM glC; rw [if_neg (by omega), if_neg (by omega), if_pos (by omega)]; first | rw [if_pos (by omega)] | rw [if_neg (by omega)]⟩
      · refine g_aload_n X dX10_goLamp_84 rfl rfl ?_
        refine g_iload_n X dX10_goLamp_85 rfl rfl ?_
        refine g_callSI X (c_X10_colourOf lL tT dD al _ _ ⟨by omega, by omega⟩) lk_RX10_123 rfl rfl ⟨by decide, by decide⟩ rfl (Nat.le_of_ble_eq_true rfl) dX10_goLamp_86 (fun r86 M86 hc86 => ?_)
        obtain ⟨hr86, hm86⟩ := hc86
        subst r86
        subst M86
        refine g_puti (kz := 4) X kd_114 fc9 (k := 4) (by decide) rfl wd_831 rfl rfl rfl dX10_goLamp_89 ?_
        refine g_aload_n X dX10_goLamp_92 rfl rfl ?_
        refine g_geti (kz := 4) X kd_114 fc9 (k := 4) (by decide) rfl wd_831 rfl dX10_goLamp_93 ?_
        refine g_teq (b := (colS c)) (by first | (simp [mu]; done) | (simp only [mu]; repeat (first | rw [if_pos (⟨rfl, rfl⟩)] | rw [if_neg (by omega)]))) ?_
        refine g_iconst X dX10_goLamp_96 ?_
        refine g_icmp_eq (tgt := 118) X dX10_goLamp_97 (by decide) ⟨by omega, by omega⟩ (by decide) (fun q97 => ?_) (fun q97 => ?_)
        · refine g_iconst X dX10_goLamp_118 ?_
          refine g_istore_n_2 X dX10_goLamp_119 rfl rfl (fun v2_119 ev2_119 => ?_)
          subst v2_119
          refine g_aload_n X dX10_goLamp_120 rfl rfl ?_
          refine g_dup X dX10_goLamp_121 rfl ?_
          refine g_geti (kz := 10) X kd_114 fc9 (k := 10) (by decide) rfl wd_837 rfl dX10_goLamp_122 ?_
          refine g_teq (b := (M 114 10)) (by first | (simp [mu]; done) | (simp only [mu]; repeat (first | rw [if_pos (⟨rfl, rfl⟩)] | rw [if_neg (by omega)]))) ?_
          refine g_iload_n X dX10_goLamp_125 rfl rfl ?_
          refine g_if_eq (tgt := 138) X dX10_goLamp_126 (by decide) (by decide) (fun _ => ?_) (fun q => absurd q (by decide))
          refine g_iconst X dX10_goLamp_138 ?_
          refine g_ior X dX10_goLamp_139 ?_
          refine g_puti (kz := 10) X kd_114 fc9 (k := 10) (by decide) rfl wd_837 rfl rfl rfl dX10_goLamp_140 ?_
          refine g_aload_n X dX10_goLamp_143 rfl rfl ?_
          refine g_iconst X dX10_goLamp_144 ?_
          refine g_puti (kz := 2) X kd_114 fc9 (k := 2) (by decide) rfl wd_829 rfl rfl rfl dX10_goLamp_145 ?_
          refine g_iload_n X dX10_goLamp_148 rfl rfl ?_
          rw [hQ]
          refine g_zret X hr hlk (by decide) dX10_goLamp_149 ?_
          have nA : ¬ (M 114 2 = 3 ∧ 48 ≤ c ∧ c ≤ 57) := by omega
          have nB : M 114 2 = 0 ∨ 2 < M 114 2 := by omega
          first | (have hf : glF M c := ⟨by omega, by omega⟩; exact ⟨(b2i_1 (Or.inr (Or.inl ⟨nA, nB, hf⟩))), by unfold glM glB; rw [if_neg nA, if_pos nB, if_pos (b2i_1 hf).symm]⟩) | (have hf : ¬ glF M c := (fun q => absurd q (by unfold glF; omega)); exact ⟨(b2i_0 (by unfold glOk; rintro (q | q | q | q) <;> first | omega | exact hf q.2.2)), by unfold glM glB; rw [if_neg nA, if_pos nB, if_neg (by rw [← b2i_0 hf]; decide)]⟩)
        · refine g_aload_n X dX10_goLamp_100 rfl rfl ?_
          refine g_geti (kz := 10) X kd_114 fc9 (k := 10) (by decide) rfl wd_837 rfl dX10_goLamp_101 ?_
          refine g_teq (b := (M 114 10)) (by first | (simp [mu]; done) | (simp only [mu]; repeat (first | rw [if_pos (⟨rfl, rfl⟩)] | rw [if_neg (by omega)]))) ?_
          refine g_aload_n X dX10_goLamp_104 rfl rfl ?_
          refine g_geti (kz := 4) X kd_114 fc9 (k := 4) (by decide) rfl wd_831 rfl dX10_goLamp_105 ?_
          refine g_teq (b := (colS c)) (by first | (simp [mu]; done) | (simp only [mu]; repeat (first | rw [if_pos (⟨rfl, rfl⟩)] | rw [if_neg (by omega)]))) ?_
          refine g_ishr X dX10_goLamp_108 ?_
          refine g_iconst X dX10_goLamp_109 ?_
          refine g_iand X dX10_goLamp_110 ?_
          refine g_teq (b := bit (M 114 10) (colS c)) (by exact hold_eq (by omega) (by omega) (by omega) (by omega)) ?_
          refine g_if_ne (tgt := 118) X dX10_goLamp_111 (by decide) ⟨by omega, by omega⟩ (fun q111 => ?_) (fun q111 => ?_)
          · refine g_iconst X dX10_goLamp_118 ?_
            refine g_istore_n_2 X dX10_goLamp_119 rfl rfl (fun v2_119 ev2_119 => ?_)
            subst v2_119
            refine g_aload_n X dX10_goLamp_120 rfl rfl ?_
            refine g_dup X dX10_goLamp_121 rfl ?_
            refine g_geti (kz := 10) X kd_114 fc9 (k := 10) (by decide) rfl wd_837 rfl dX10_goLamp_122 ?_
            refine g_teq (b := (M 114 10)) (by first | (simp [mu]; done) | (simp only [mu]; repeat (first | rw [if_pos (⟨rfl, rfl⟩)] | rw [if_neg (by omega)]))) ?_
            refine g_iload_n X dX10_goLamp_125 rfl rfl ?_
            refine g_if_eq (tgt := 138) X dX10_goLamp_126 (by decide) (by decide) (fun _ => ?_) (fun q => absurd q (by decide))
            refine g_iconst X dX10_goLamp_138 ?_
            refine g_ior X dX10_goLamp_139 ?_
            refine g_puti (kz := 10) X kd_114 fc9 (k := 10) (by decide) rfl wd_837 rfl rfl rfl dX10_goLamp_140 ?_
            refine g_aload_n X dX10_goLamp_143 rfl rfl ?_
            refine g_iconst X dX10_goLamp_144 ?_
            refine g_puti (kz := 2) X kd_114 fc9 (k := 2) (by decide) rfl wd_829 rfl rfl rfl dX10_goLamp_145 ?_
            refine g_iload_n X dX10_goLamp_148 rfl rfl ?_
            rw [hQ]
            refine g_zret X hr hlk (by decide) dX10_goLamp_149 ?_
            have nA : ¬ (M 114 2 = 3 ∧ 48 ≤ c ∧ c ≤ 57) := by omega
            have nB : M 114 2 = 0 ∨ 2 < M 114 2 := by omega
            first | (have hf : glF M c := ⟨by omega, by omega⟩; exact ⟨(b2i_1 (Or.inr (Or.inl ⟨nA, nB, hf⟩))), by unfold glM glB; rw [if_neg nA, if_pos nB, if_pos (b2i_1 hf).symm]⟩) | (have hf : ¬ glF M c := (fun q => absurd q (by unfold glF; omega)); exact ⟨(b2i_0 (by unfold glOk; rintro (q | q | q | q) <;> first | omega | exact hf q.2.2)), by unfold glM glB; rw [if_neg nA, if_pos nB, if_neg (by rw [← b2i_0 hf]; decide)]⟩)
          · refine g_iconst X dX10_goLamp_114 ?_
            refine g_goto (tgt := 119) X dX10_goLamp_115 (by decide) ?_
            refine g_istore_n_2 X dX10_goLamp_119 rfl rfl (fun v2_119 ev2_119 => ?_)
            subst v2_119
            refine g_aload_n X dX10_goLamp_120 rfl rfl ?_
            refine g_dup X dX10_goLamp_121 rfl ?_
            refine g_geti (kz := 10) X kd_114 fc9 (k := 10) (by decide) rfl wd_837 rfl dX10_goLamp_122 ?_
            refine g_teq (b := (M 114 10)) (by first | (simp [mu]; done) | (simp only [mu]; repeat (first | rw [if_pos (⟨rfl, rfl⟩)] | rw [if_neg (by omega)]))) ?_
            refine g_iload_n X dX10_goLamp_125 rfl rfl ?_
            refine g_if_eq (tgt := 138) X dX10_goLamp_126 (by decide) (by decide) (fun q => absurd q (by decide)) (fun _ => ?_)
            refine g_iconst X dX10_goLamp_129 ?_
            refine g_aload_n X dX10_goLamp_130 rfl rfl ?_
            refine g_geti (kz := 4) X kd_114 fc9 (k := 4) (by decide) rfl wd_831 rfl dX10_goLamp_131 ?_
            refine g_teq (b := (colS c)) (by first | (simp [mu]; done) | (simp only [mu]; repeat (first | rw [if_pos (⟨rfl, rfl⟩)] | rw [if_neg (by omega)]))) ?_
            refine g_ishl X dX10_goLamp_134 ?_
            refine g_goto (tgt := 139) X dX10_goLamp_135 (by decide) ?_
            refine g_ior X dX10_goLamp_139 ?_
            refine g_puti (kz := 10) X kd_114 fc9 (k := 10) (by decide) rfl wd_837 rfl rfl rfl dX10_goLamp_140 ?_
            refine g_aload_n X dX10_goLamp_143 rfl rfl ?_
            refine g_iconst X dX10_goLamp_144 ?_
            refine g_puti (kz := 2) X kd_114 fc9 (k := 2) (by decide) rfl wd_829 rfl rfl rfl dX10_goLamp_145 ?_
            refine g_iload_n X dX10_goLamp_148 rfl rfl ?_
            rw [hQ]
            refine g_zret X hr hlk (by decide) dX10_goLamp_149 ?_
            have nA : ¬ (M 114 2 = 3 ∧ 48 ≤ c ∧ c ≤ 57) := by omega
            have nB : M 114 2 = 0 ∨ 2 < M 114 2 := by omega
            first | (have hf : glF M c := ⟨by omega, by omega⟩; exact ⟨(b2i_1 (Or.inr (Or.inl ⟨nA, nB, hf⟩))), by unfold glM glB; rw [if_neg nA, if_pos nB, if_pos (b2i_1 hf).symm]⟩) | (have hf : ¬ glF M c := (fun q => absurd q (by unfold glF; omega)); exact ⟨(b2i_0 (by unfold glOk; rintro (q | q | q | q) <;> first | omega | exact hf q.2.2)), by unfold glM glB; rw [if_neg nA, if_pos nB, if_neg (by rw [← b2i_0 hf]; decide)]⟩)
  · refine g_iload_n X dX10_goLamp_8 rfl rfl ?_
    refine g_callSI X (c_X10_isDigit lL tT dD al _ _ ⟨by omega, by omega⟩) lk_RX10_110 rfl rfl ⟨by decide, by decide⟩ rfl (Nat.le_of_ble_eq_true rfl) dX10_goLamp_9 (fun r9 M9 hc9 => ?_)
    obtain ⟨hr9, hm9⟩ := hc9
    subst r9
    subst M9
    refine g_if_eq (tgt := 69) X dX10_goLamp_12 (by decide) (b2i_i32 _) (fun q12 => ?_) (fun q12 => ?_)
    · have q12 := b2i_f q12
      refine g_aload_n X dX10_goLamp_69 rfl rfl ?_
      refine g_geti (kz := 2) X kd_114 fc9 (k := 2) (by decide) rfl wd_829 rfl dX10_goLamp_70 ?_
      refine g_if_eq (tgt := 84) X dX10_goLamp_73 (by decide) ⟨by omega, by omega⟩ (fun q73 => ?_) (fun q73 => ?_)
      · refine g_aload_n X dX10_goLamp_84 rfl rfl ?_
        refine g_iload_n X dX10_goLamp_85 rfl rfl ?_
        refine g_callSI X (c_X10_colourOf lL tT dD al _ _ ⟨by omega, by omega⟩) lk_RX10_123 rfl rfl ⟨by decide, by decide⟩ rfl (Nat.le_of_ble_eq_true rfl) dX10_goLamp_86 (fun r86 M86 hc86 => ?_)
        obtain ⟨hr86, hm86⟩ := hc86
        subst r86
        subst M86
        refine g_puti (kz := 4) X kd_114 fc9 (k := 4) (by decide) rfl wd_831 rfl rfl rfl dX10_goLamp_89 ?_
        refine g_aload_n X dX10_goLamp_92 rfl rfl ?_
        refine g_geti (kz := 4) X kd_114 fc9 (k := 4) (by decide) rfl wd_831 rfl dX10_goLamp_93 ?_
        refine g_teq (b := (colS c)) (by first | (simp [mu]; done) | (simp only [mu]; repeat (first | rw [if_pos (⟨rfl, rfl⟩)] | rw [if_neg (by omega)]))) ?_
        refine g_iconst X dX10_goLamp_96 ?_
        refine g_icmp_eq (tgt := 118) X dX10_goLamp_97 (by decide) ⟨by omega, by omega⟩ (by decide) (fun q97 => ?_) (fun q97 => ?_)
        · refine g_iconst X dX10_goLamp_118 ?_
          refine g_istore_n_2 X dX10_goLamp_119 rfl rfl (fun v2_119 ev2_119 => ?_)
          subst v2_119
          refine g_aload_n X dX10_goLamp_120 rfl rfl ?_
          refine g_dup X dX10_goLamp_121 rfl ?_
          refine g_geti (kz := 10) X kd_114 fc9 (k := 10) (by decide) rfl wd_837 rfl dX10_goLamp_122 ?_
          refine g_teq (b := (M 114 10)) (by first | (simp [mu]; done) | (simp only [mu]; repeat (first | rw [if_pos (⟨rfl, rfl⟩)] | rw [if_neg (by omega)]))) ?_
          refine g_iload_n X dX10_goLamp_125 rfl rfl ?_
          refine g_if_eq (tgt := 138) X dX10_goLamp_126 (by decide) (by decide) (fun _ => ?_) (fun q => absurd q (by decide))
          refine g_iconst X dX10_goLamp_138 ?_
          refine g_ior X dX10_goLamp_139 ?_
          refine g_puti (kz := 10) X kd_114 fc9 (k := 10) (by decide) rfl wd_837 rfl rfl rfl dX10_goLamp_140 ?_
          refine g_aload_n X dX10_goLamp_143 rfl rfl ?_
          refine g_iconst X dX10_goLamp_144 ?_
          refine g_puti (kz := 2) X kd_114 fc9 (k := 2) (by decide) rfl wd_829 rfl rfl rfl dX10_goLamp_145 ?_
          refine g_iload_n X dX10_goLamp_148 rfl rfl ?_
          rw [hQ]
          refine g_zret X hr hlk (by decide) dX10_goLamp_149 ?_
          have nA : ¬ (M 114 2 = 3 ∧ 48 ≤ c ∧ c ≤ 57) := by omega
          have nB : M 114 2 = 0 ∨ 2 < M 114 2 := by omega
          first | (have hf : glF M c := ⟨by omega, by omega⟩; exact ⟨(b2i_1 (Or.inr (Or.inl ⟨nA, nB, hf⟩))), by unfold glM glB; rw [if_neg nA, if_pos nB, if_pos (b2i_1 hf).symm]⟩) | (have hf : ¬ glF M c := (fun q => absurd q (by unfold glF; omega)); exact ⟨(b2i_0 (by unfold glOk; rintro (q | q | q | q) <;> first | omega | exact hf q.2.2)), by unfold glM glB; rw [if_neg nA, if_pos nB, if_neg (by rw [← b2i_0 hf]; decide)]⟩)
        · refine g_aload_n X dX10_goLamp_100 rfl rfl ?_
          refine g_geti (kz := 10) X kd_114 fc9 (k := 10) (by decide) rfl wd_837 rfl dX10_goLamp_101 ?_
          refine g_teq (b := (M 114 10)) (by first | (simp [mu]; done) | (simp only [mu]; repeat (first | rw [if_pos (⟨rfl, rfl⟩)] | rw [if_neg (by omega)]))) ?_
          refine g_aload_n X dX10_goLamp_104 rfl rfl ?_
          refine g_geti (kz := 4) X kd_114 fc9 (k := 4) (by decide) rfl wd_831 rfl dX10_goLamp_105 ?_
          refine g_teq (b := (colS c)) (by first | (simp [mu]; done) | (simp only [mu]; repeat (first | rw [if_pos (⟨rfl, rfl⟩)] | rw [if_neg (by omega)]))) ?_
          refine g_ishr X dX10_goLamp_108 ?_
          refine g_iconst X dX10_goLamp_109 ?_
          refine g_iand X dX10_goLamp_110 ?_
          refine g_teq (b := bit (M 114 10) (colS c)) (by exact hold_eq (by omega) (by omega) (by omega) (by omega)) ?_
          refine g_if_ne (tgt := 118) X dX10_goLamp_111 (by decide) ⟨by omega, by omega⟩ (fun q111 => ?_) (fun q111 => ?_)
          · refine g_iconst X dX10_goLamp_118 ?_
            refine g_istore_n_2 X dX10_goLamp_119 rfl rfl (fun v2_119 ev2_119 => ?_)
            subst v2_119
            refine g_aload_n X dX10_goLamp_120 rfl rfl ?_
            refine g_dup X dX10_goLamp_121 rfl ?_
            refine g_geti (kz := 10) X kd_114 fc9 (k := 10) (by decide) rfl wd_837 rfl dX10_goLamp_122 ?_
            refine g_teq (b := (M 114 10)) (by first | (simp [mu]; done) | (simp only [mu]; repeat (first | rw [if_pos (⟨rfl, rfl⟩)] | rw [if_neg (by omega)]))) ?_
            refine g_iload_n X dX10_goLamp_125 rfl rfl ?_
            refine g_if_eq (tgt := 138) X dX10_goLamp_126 (by decide) (by decide) (fun _ => ?_) (fun q => absurd q (by decide))
            refine g_iconst X dX10_goLamp_138 ?_
            refine g_ior X dX10_goLamp_139 ?_
            refine g_puti (kz := 10) X kd_114 fc9 (k := 10) (by decide) rfl wd_837 rfl rfl rfl dX10_goLamp_140 ?_
            refine g_aload_n X dX10_goLamp_143 rfl rfl ?_
            refine g_iconst X dX10_goLamp_144 ?_
            refine g_puti (kz := 2) X kd_114 fc9 (k := 2) (by decide) rfl wd_829 rfl rfl rfl dX10_goLamp_145 ?_
            refine g_iload_n X dX10_goLamp_148 rfl rfl ?_
            rw [hQ]
            refine g_zret X hr hlk (by decide) dX10_goLamp_149 ?_
            have nA : ¬ (M 114 2 = 3 ∧ 48 ≤ c ∧ c ≤ 57) := by omega
            have nB : M 114 2 = 0 ∨ 2 < M 114 2 := by omega
            first | (have hf : glF M c := ⟨by omega, by omega⟩; exact ⟨(b2i_1 (Or.inr (Or.inl ⟨nA, nB, hf⟩))), by unfold glM glB; rw [if_neg nA, if_pos nB, if_pos (b2i_1 hf).symm]⟩) | (have hf : ¬ glF M c := (fun q => absurd q (by unfold glF; omega)); exact ⟨(b2i_0 (by unfold glOk; rintro (q | q | q | q) <;> first | omega | exact hf q.2.2)), by unfold glM glB; rw [if_neg nA, if_pos nB, if_neg (by rw [← b2i_0 hf]; decide)]⟩)
          · refine g_iconst X dX10_goLamp_114 ?_
            refine g_goto (tgt := 119) X dX10_goLamp_115 (by decide) ?_
            refine g_istore_n_2 X dX10_goLamp_119 rfl rfl (fun v2_119 ev2_119 => ?_)
            subst v2_119
            refine g_aload_n X dX10_goLamp_120 rfl rfl ?_
            refine g_dup X dX10_goLamp_121 rfl ?_
            refine g_geti (kz := 10) X kd_114 fc9 (k := 10) (by decide) rfl wd_837 rfl dX10_goLamp_122 ?_
            refine g_teq (b := (M 114 10)) (by first | (simp [mu]; done) | (simp only [mu]; repeat (first | rw [if_pos (⟨rfl, rfl⟩)] | rw [if_neg (by omega)]))) ?_
            refine g_iload_n X dX10_goLamp_125 rfl rfl ?_
            refine g_if_eq (tgt := 138) X dX10_goLamp_126 (by decide) (by decide) (fun q => absurd q (by decide)) (fun _ => ?_)
            refine g_iconst X dX10_goLamp_129 ?_
            refine g_aload_n X dX10_goLamp_130 rfl rfl ?_
            refine g_geti (kz := 4) X kd_114 fc9 (k := 4) (by decide) rfl wd_831 rfl dX10_goLamp_131 ?_
            refine g_teq (b := (colS c)) (by first | (simp [mu]; done) | (simp only [mu]; repeat (first | rw [if_pos (⟨rfl, rfl⟩)] | rw [if_neg (by omega)]))) ?_
            refine g_ishl X dX10_goLamp_134 ?_
            refine g_goto (tgt := 139) X dX10_goLamp_135 (by decide) ?_
            refine g_ior X dX10_goLamp_139 ?_
            refine g_puti (kz := 10) X kd_114 fc9 (k := 10) (by decide) rfl wd_837 rfl rfl rfl dX10_goLamp_140 ?_
            refine g_aload_n X dX10_goLamp_143 rfl rfl ?_
            refine g_iconst X dX10_goLamp_144 ?_
            refine g_puti (kz := 2) X kd_114 fc9 (k := 2) (by decide) rfl wd_829 rfl rfl rfl dX10_goLamp_145 ?_
            refine g_iload_n X dX10_goLamp_148 rfl rfl ?_
            rw [hQ]
            refine g_zret X hr hlk (by decide) dX10_goLamp_149 ?_
            have nA : ¬ (M 114 2 = 3 ∧ 48 ≤ c ∧ c ≤ 57) := by omega
            have nB : M 114 2 = 0 ∨ 2 < M 114 2 := by omega
            first | (have hf : glF M c := ⟨by omega, by omega⟩; exact ⟨(b2i_1 (Or.inr (Or.inl ⟨nA, nB, hf⟩))), by unfold glM glB; rw [if_neg nA, if_pos nB, if_pos (b2i_1 hf).symm]⟩) | (have hf : ¬ glF M c := (fun q => absurd q (by unfold glF; omega)); exact ⟨(b2i_0 (by unfold glOk; rintro (q | q | q | q) <;> first | omega | exact hf q.2.2)), by unfold glM glB; rw [if_neg nA, if_pos nB, if_neg (by rw [← b2i_0 hf]; decide)]⟩)
      · refine g_aload_n X dX10_goLamp_76 rfl rfl ?_
        refine g_geti (kz := 2) X kd_114 fc9 (k := 2) (by decide) rfl wd_829 rfl dX10_goLamp_77 ?_
        refine g_iconst X dX10_goLamp_80 ?_
        refine g_icmp_le (tgt := 150) X dX10_goLamp_81 (by decide) ⟨by omega, by omega⟩ (by decide) (fun q81 => ?_) (fun q81 => ?_)
        · refine g_aload_n X dX10_goLamp_150 rfl rfl ?_
          refine g_geti (kz := 2) X kd_114 fc9 (k := 2) (by decide) rfl wd_829 rfl dX10_goLamp_151 ?_
          refine g_iconst X dX10_goLamp_154 ?_
          refine g_icmp_ne (tgt := 196) X dX10_goLamp_155 (by decide) ⟨by omega, by omega⟩ (by decide) (fun q155 => ?_) (fun q155 => ?_)
          · have q3 := g3 (by omega)
            refine g_aload_n X dX10_goLamp_196 rfl rfl ?_
            refine g_iload_n X dX10_goLamp_197 rfl rfl ?_
            refine g_bipush X dX10_goLamp_198 (by decide +kernel) ?_
            refine g_isub X dX10_goLamp_200 ?_
            refine g_puti (kz := 3) X kd_114 fc9 (k := 3) (by decide) rfl wd_830 rfl rfl rfl dX10_goLamp_201 ?_
            refine g_aload_n X dX10_goLamp_204 rfl rfl ?_
            refine g_getr (r := 116) X kd_114 fc9 (k := 9) (by decide) rfl wd_836 rfl (by decide) dX10_goLamp_205 ?_
            refine g_aload_n X dX10_goLamp_208 rfl rfl ?_
            refine g_geti (kz := 4) X kd_114 fc9 (k := 4) (by decide) rfl wd_831 rfl dX10_goLamp_209 ?_
            refine g_teq (b := (M 114 4)) (by first | (simp [mu]; done) | (simp only [mu]; repeat (first | rw [if_pos (⟨rfl, rfl⟩)] | rw [if_neg (by omega)]))) ?_
            refine g_aload_n X dX10_goLamp_212 rfl rfl ?_
            refine g_geti (kz := 5) X kd_114 fc9 (k := 5) (by decide) rfl wd_832 rfl dX10_goLamp_213 ?_
            refine g_teq (b := (M 114 5)) (by first | (simp [mu]; done) | (simp only [mu]; repeat (first | rw [if_pos (⟨rfl, rfl⟩)] | rw [if_neg (by omega)]))) ?_
            refine g_aload_n X dX10_goLamp_216 rfl rfl ?_
            refine g_geti (kz := 3) X kd_114 fc9 (k := 3) (by decide) rfl wd_830 rfl dX10_goLamp_217 ?_
            refine g_teq (b := (c - 48)) (by first | (simp [mu]; done) | (simp only [mu]; repeat (first | rw [if_pos (⟨rfl, rfl⟩)] | rw [if_neg (by omega)]))) ?_
            refine g_imul X dX10_goLamp_220 ?_
            refine g_iast X kd_116 (by omega) (by omega) dX10_goLamp_221 ?_
            refine g_aload_n X dX10_goLamp_222 rfl rfl ?_
            refine g_iload_n X dX10_goLamp_223 rfl rfl ?_
            refine g_bipush X dX10_goLamp_224 (by decide +kernel) ?_
            refine g_icmp_eq (tgt := 235) X dX10_goLamp_226 (by decide) ⟨by omega, by omega⟩ (by decide) (fun q226 => ?_) (fun q226 => ?_)
            · refine g_iconst X dX10_goLamp_235 ?_
              refine g_goto (tgt := 240) X dX10_goLamp_236 (by decide) ?_
              refine g_puti (kz := 2) X kd_114 fc9 (k := 2) (by decide) rfl wd_829 rfl rfl rfl dX10_goLamp_240 ?_
              refine g_iload_n X dX10_goLamp_243 rfl rfl ?_
              refine g_callSI X (c_X10_isDigit lL tT dD al _ _ ⟨by omega, by omega⟩) lk_RX10_110 rfl rfl ⟨by decide, by decide⟩ rfl (Nat.le_of_ble_eq_true rfl) dX10_goLamp_244 (fun r244 M244 hc244 => ?_)
              obtain ⟨hr244, hm244⟩ := hc244
              subst r244
              subst M244
              rw [hQ]
              refine g_zret X hr hlk (b2i_01 _) dX10_goLamp_247 ?_
              clear X hr hlk hQ
              first | (exfalso; omega) | exact ⟨by congr 1; unfold glOk; grind, by unfold glM glD; rw [if_neg (by omega), if_neg (by omega), if_neg (by omega)]; first | rw [if_pos (by omega)] | rw [if_neg (by omega)]⟩
            · refine g_iload_n X dX10_goLamp_229 rfl rfl ?_
              refine g_bipush X dX10_goLamp_230 (by decide +kernel) ?_
              refine g_icmp_ne (tgt := 239) X dX10_goLamp_232 (by decide) ⟨by omega, by omega⟩ (by decide) (fun q232 => ?_) (fun q232 => ?_)
              · refine g_iconst X dX10_goLamp_239 ?_
                refine g_puti (kz := 2) X kd_114 fc9 (k := 2) (by decide) rfl wd_829 rfl rfl rfl dX10_goLamp_240 ?_
                refine g_iload_n X dX10_goLamp_243 rfl rfl ?_
                refine g_callSI X (c_X10_isDigit lL tT dD al _ _ ⟨by omega, by omega⟩) lk_RX10_110 rfl rfl ⟨by decide, by decide⟩ rfl (Nat.le_of_ble_eq_true rfl) dX10_goLamp_244 (fun r244 M244 hc244 => ?_)
                obtain ⟨hr244, hm244⟩ := hc244
                subst r244
                subst M244
                rw [hQ]
                refine g_zret X hr hlk (b2i_01 _) dX10_goLamp_247 ?_
                clear X hr hlk hQ
                first | (exfalso; omega) | exact ⟨by congr 1; unfold glOk; grind, by unfold glM glD; rw [if_neg (by omega), if_neg (by omega), if_neg (by omega)]; first | rw [if_pos (by omega)] | rw [if_neg (by omega)]⟩
              · refine g_iconst X dX10_goLamp_235 ?_
                refine g_goto (tgt := 240) X dX10_goLamp_236 (by decide) ?_
                refine g_puti (kz := 2) X kd_114 fc9 (k := 2) (by decide) rfl wd_829 rfl rfl rfl dX10_goLamp_240 ?_
                refine g_iload_n X dX10_goLamp_243 rfl rfl ?_
                refine g_callSI X (c_X10_isDigit lL tT dD al _ _ ⟨by omega, by omega⟩) lk_RX10_110 rfl rfl ⟨by decide, by decide⟩ rfl (Nat.le_of_ble_eq_true rfl) dX10_goLamp_244 (fun r244 M244 hc244 => ?_)
                obtain ⟨hr244, hm244⟩ := hc244
                subst r244
                subst M244
                rw [hQ]
                refine g_zret X hr hlk (b2i_01 _) dX10_goLamp_247 ?_
                clear X hr hlk hQ
                first | (exfalso; omega) | exact ⟨by congr 1; unfold glOk; grind, by unfold glM glD; rw [if_neg (by omega), if_neg (by omega), if_neg (by omega)]; first | rw [if_pos (by omega)] | rw [if_neg (by omega)]⟩
          · refine g_aload_n X dX10_goLamp_158 rfl rfl ?_
            refine g_iload_n X dX10_goLamp_159 rfl rfl ?_
            refine g_bipush X dX10_goLamp_160 (by decide +kernel) ?_
            refine g_icmp_ne (tgt := 169) X dX10_goLamp_162 (by decide) ⟨by omega, by omega⟩ (by decide) (fun q162 => ?_) (fun q162 => ?_)
            · refine g_iconst X dX10_goLamp_169 ?_
              refine g_puti (kz := 5) X kd_114 fc9 (k := 5) (by decide) rfl wd_832 rfl rfl rfl dX10_goLamp_170 ?_
              refine g_aload_n X dX10_goLamp_173 rfl rfl ?_
              refine g_iconst X dX10_goLamp_174 ?_
              refine g_puti (kz := 2) X kd_114 fc9 (k := 2) (by decide) rfl wd_829 rfl rfl rfl dX10_goLamp_175 ?_
              refine g_iload_n X dX10_goLamp_178 rfl rfl ?_
              refine g_bipush X dX10_goLamp_179 (by decide +kernel) ?_
              refine g_icmp_eq (tgt := 190) X dX10_goLamp_181 (by decide) ⟨by omega, by omega⟩ (by decide) (fun q181 => ?_) (fun q181 => ?_)
              · refine g_iconst X dX10_goLamp_190 ?_
                refine g_goto (tgt := 195) X dX10_goLamp_191 (by decide) ?_
                rw [hQ]
                refine g_zret X hr hlk (by decide) dX10_goLamp_195 ?_
                first | (exfalso; omega) | exact ⟨by first | exact b2i_1 (by unfold glOk; omega) | exact b2i_0 (by unfold glOk; omega), by unfold glM glC; rw [if_neg (by omega), if_neg (by omega), if_pos (by omega)]; first | rw [if_pos (by omega)] | rw [if_neg (by omega)]⟩
              · refine g_iload_n X dX10_goLamp_184 rfl rfl ?_
                refine g_bipush X dX10_goLamp_185 (by decide +kernel) ?_
                refine g_icmp_ne (tgt := 194) X dX10_goLamp_187 (by decide) ⟨by omega, by omega⟩ (by decide) (fun q187 => ?_) (fun q187 => ?_)
                · refine g_iconst X dX10_goLamp_194 ?_
                  rw [hQ]
                  refine g_zret X hr hlk (by decide) dX10_goLamp_195 ?_
                  first | (exfalso; omega) | exact ⟨by first | exact b2i_1 (by unfold glOk; omega) | exact b2i_0 (by unfold glOk; omega), by unfold glM glC; rw [if_neg (by omega), if_neg (by omega), if_pos (by omega)]; first | rw [if_pos (by omega)] | rw [if_neg (by omega)]⟩
                · refine g_iconst X dX10_goLamp_190 ?_
                  refine g_goto (tgt := 195) X dX10_goLamp_191 (by decide) ?_
                  rw [hQ]
                  refine g_zret X hr hlk (by decide) dX10_goLamp_195 ?_
                  first | (exfalso; omega) | exact ⟨by first | exact b2i_1 (by unfold glOk; omega) | exact b2i_0 (by unfold glOk; omega), by unfold glM glC; rw [if_neg (by omega), if_neg (by omega), if_pos (by omega)]; first | rw [if_pos (by omega)] | rw [if_neg (by omega)]⟩
            · refine g_iconst X dX10_goLamp_165 ?_
              refine g_goto (tgt := 170) X dX10_goLamp_166 (by decide) ?_
              refine g_puti (kz := 5) X kd_114 fc9 (k := 5) (by decide) rfl wd_832 rfl rfl rfl dX10_goLamp_170 ?_
              refine g_aload_n X dX10_goLamp_173 rfl rfl ?_
              refine g_iconst X dX10_goLamp_174 ?_
              refine g_puti (kz := 2) X kd_114 fc9 (k := 2) (by decide) rfl wd_829 rfl rfl rfl dX10_goLamp_175 ?_
              refine g_iload_n X dX10_goLamp_178 rfl rfl ?_
              refine g_bipush X dX10_goLamp_179 (by decide +kernel) ?_
              refine g_icmp_eq (tgt := 190) X dX10_goLamp_181 (by decide) ⟨by omega, by omega⟩ (by decide) (fun q181 => ?_) (fun q181 => ?_)
              · refine g_iconst X dX10_goLamp_190 ?_
                refine g_goto (tgt := 195) X dX10_goLamp_191 (by decide) ?_
                rw [hQ]
                refine g_zret X hr hlk (by decide) dX10_goLamp_195 ?_
                first | (exfalso; omega) | exact ⟨by first | exact b2i_1 (by unfold glOk; omega) | exact b2i_0 (by unfold glOk; omega), by unfold glM glC; rw [if_neg (by omega), if_neg (by omega), if_pos (by omega)]; first | rw [if_pos (by omega)] | rw [if_neg (by omega)]⟩
              · refine g_iload_n X dX10_goLamp_184 rfl rfl ?_
                refine g_bipush X dX10_goLamp_185 (by decide +kernel) ?_
                refine g_icmp_ne (tgt := 194) X dX10_goLamp_187 (by decide) ⟨by omega, by omega⟩ (by decide) (fun q187 => ?_) (fun q187 => ?_)
                · refine g_iconst X dX10_goLamp_194 ?_
                  rw [hQ]
                  refine g_zret X hr hlk (by decide) dX10_goLamp_195 ?_
                  first | (exfalso; omega) | exact ⟨by first | exact b2i_1 (by unfold glOk; omega) | exact b2i_0 (by unfold glOk; omega), by unfold glM glC; rw [if_neg (by omega), if_neg (by omega), if_pos (by omega)]; first | rw [if_pos (by omega)] | rw [if_neg (by omega)]⟩
                · refine g_iconst X dX10_goLamp_190 ?_
                  refine g_goto (tgt := 195) X dX10_goLamp_191 (by decide) ?_
                  rw [hQ]
                  refine g_zret X hr hlk (by decide) dX10_goLamp_195 ?_
                  first | (exfalso; omega) | exact ⟨by first | exact b2i_1 (by unfold glOk; omega) | exact b2i_0 (by unfold glOk; omega), by unfold glM glC; rw [if_neg (by omega), if_neg (by omega), if_pos (by omega)]; first | rw [if_pos (by omega)] | rw [if_neg (by omega)]⟩
        · refine g_aload_n X dX10_goLamp_84 rfl rfl ?_
          refine g_iload_n X dX10_goLamp_85 rfl rfl ?_
          refine g_callSI X (c_X10_colourOf lL tT dD al _ _ ⟨by omega, by omega⟩) lk_RX10_123 rfl rfl ⟨by decide, by decide⟩ rfl (Nat.le_of_ble_eq_true rfl) dX10_goLamp_86 (fun r86 M86 hc86 => ?_)
          obtain ⟨hr86, hm86⟩ := hc86
          subst r86
          subst M86
          refine g_puti (kz := 4) X kd_114 fc9 (k := 4) (by decide) rfl wd_831 rfl rfl rfl dX10_goLamp_89 ?_
          refine g_aload_n X dX10_goLamp_92 rfl rfl ?_
          refine g_geti (kz := 4) X kd_114 fc9 (k := 4) (by decide) rfl wd_831 rfl dX10_goLamp_93 ?_
          refine g_teq (b := (colS c)) (by first | (simp [mu]; done) | (simp only [mu]; repeat (first | rw [if_pos (⟨rfl, rfl⟩)] | rw [if_neg (by omega)]))) ?_
          refine g_iconst X dX10_goLamp_96 ?_
          refine g_icmp_eq (tgt := 118) X dX10_goLamp_97 (by decide) ⟨by omega, by omega⟩ (by decide) (fun q97 => ?_) (fun q97 => ?_)
          · refine g_iconst X dX10_goLamp_118 ?_
            refine g_istore_n_2 X dX10_goLamp_119 rfl rfl (fun v2_119 ev2_119 => ?_)
            subst v2_119
            refine g_aload_n X dX10_goLamp_120 rfl rfl ?_
            refine g_dup X dX10_goLamp_121 rfl ?_
            refine g_geti (kz := 10) X kd_114 fc9 (k := 10) (by decide) rfl wd_837 rfl dX10_goLamp_122 ?_
            refine g_teq (b := (M 114 10)) (by first | (simp [mu]; done) | (simp only [mu]; repeat (first | rw [if_pos (⟨rfl, rfl⟩)] | rw [if_neg (by omega)]))) ?_
            refine g_iload_n X dX10_goLamp_125 rfl rfl ?_
            refine g_if_eq (tgt := 138) X dX10_goLamp_126 (by decide) (by decide) (fun _ => ?_) (fun q => absurd q (by decide))
            refine g_iconst X dX10_goLamp_138 ?_
            refine g_ior X dX10_goLamp_139 ?_
            refine g_puti (kz := 10) X kd_114 fc9 (k := 10) (by decide) rfl wd_837 rfl rfl rfl dX10_goLamp_140 ?_
            refine g_aload_n X dX10_goLamp_143 rfl rfl ?_
            refine g_iconst X dX10_goLamp_144 ?_
            refine g_puti (kz := 2) X kd_114 fc9 (k := 2) (by decide) rfl wd_829 rfl rfl rfl dX10_goLamp_145 ?_
            refine g_iload_n X dX10_goLamp_148 rfl rfl ?_
            rw [hQ]
            refine g_zret X hr hlk (by decide) dX10_goLamp_149 ?_
            have nA : ¬ (M 114 2 = 3 ∧ 48 ≤ c ∧ c ≤ 57) := by omega
            have nB : M 114 2 = 0 ∨ 2 < M 114 2 := by omega
            first | (have hf : glF M c := ⟨by omega, by omega⟩; exact ⟨(b2i_1 (Or.inr (Or.inl ⟨nA, nB, hf⟩))), by unfold glM glB; rw [if_neg nA, if_pos nB, if_pos (b2i_1 hf).symm]⟩) | (have hf : ¬ glF M c := (fun q => absurd q (by unfold glF; omega)); exact ⟨(b2i_0 (by unfold glOk; rintro (q | q | q | q) <;> first | omega | exact hf q.2.2)), by unfold glM glB; rw [if_neg nA, if_pos nB, if_neg (by rw [← b2i_0 hf]; decide)]⟩)
          · refine g_aload_n X dX10_goLamp_100 rfl rfl ?_
            refine g_geti (kz := 10) X kd_114 fc9 (k := 10) (by decide) rfl wd_837 rfl dX10_goLamp_101 ?_
            refine g_teq (b := (M 114 10)) (by first | (simp [mu]; done) | (simp only [mu]; repeat (first | rw [if_pos (⟨rfl, rfl⟩)] | rw [if_neg (by omega)]))) ?_
            refine g_aload_n X dX10_goLamp_104 rfl rfl ?_
            refine g_geti (kz := 4) X kd_114 fc9 (k := 4) (by decide) rfl wd_831 rfl dX10_goLamp_105 ?_
            refine g_teq (b := (colS c)) (by first | (simp [mu]; done) | (simp only [mu]; repeat (first | rw [if_pos (⟨rfl, rfl⟩)] | rw [if_neg (by omega)]))) ?_
            refine g_ishr X dX10_goLamp_108 ?_
            refine g_iconst X dX10_goLamp_109 ?_
            refine g_iand X dX10_goLamp_110 ?_
            refine g_teq (b := bit (M 114 10) (colS c)) (by exact hold_eq (by omega) (by omega) (by omega) (by omega)) ?_
            refine g_if_ne (tgt := 118) X dX10_goLamp_111 (by decide) ⟨by omega, by omega⟩ (fun q111 => ?_) (fun q111 => ?_)
            · refine g_iconst X dX10_goLamp_118 ?_
              refine g_istore_n_2 X dX10_goLamp_119 rfl rfl (fun v2_119 ev2_119 => ?_)
              subst v2_119
              refine g_aload_n X dX10_goLamp_120 rfl rfl ?_
              refine g_dup X dX10_goLamp_121 rfl ?_
              refine g_geti (kz := 10) X kd_114 fc9 (k := 10) (by decide) rfl wd_837 rfl dX10_goLamp_122 ?_
              refine g_teq (b := (M 114 10)) (by first | (simp [mu]; done) | (simp only [mu]; repeat (first | rw [if_pos (⟨rfl, rfl⟩)] | rw [if_neg (by omega)]))) ?_
              refine g_iload_n X dX10_goLamp_125 rfl rfl ?_
              refine g_if_eq (tgt := 138) X dX10_goLamp_126 (by decide) (by decide) (fun _ => ?_) (fun q => absurd q (by decide))
              refine g_iconst X dX10_goLamp_138 ?_
              refine g_ior X dX10_goLamp_139 ?_
              refine g_puti (kz := 10) X kd_114 fc9 (k := 10) (by decide) rfl wd_837 rfl rfl rfl dX10_goLamp_140 ?_
              refine g_aload_n X dX10_goLamp_143 rfl rfl ?_
              refine g_iconst X dX10_goLamp_144 ?_
              refine g_puti (kz := 2) X kd_114 fc9 (k := 2) (by decide) rfl wd_829 rfl rfl rfl dX10_goLamp_145 ?_
              refine g_iload_n X dX10_goLamp_148 rfl rfl ?_
              rw [hQ]
              refine g_zret X hr hlk (by decide) dX10_goLamp_149 ?_
              have nA : ¬ (M 114 2 = 3 ∧ 48 ≤ c ∧ c ≤ 57) := by omega
              have nB : M 114 2 = 0 ∨ 2 < M 114 2 := by omega
              first | (have hf : glF M c := ⟨by omega, by omega⟩; exact ⟨(b2i_1 (Or.inr (Or.inl ⟨nA, nB, hf⟩))), by unfold glM glB; rw [if_neg nA, if_pos nB, if_pos (b2i_1 hf).symm]⟩) | (have hf : ¬ glF M c := (fun q => absurd q (by unfold glF; omega)); exact ⟨(b2i_0 (by unfold glOk; rintro (q | q | q | q) <;> first | omega | exact hf q.2.2)), by unfold glM glB; rw [if_neg nA, if_pos nB, if_neg (by rw [← b2i_0 hf]; decide)]⟩)
            · refine g_iconst X dX10_goLamp_114 ?_
              refine g_goto (tgt := 119) X dX10_goLamp_115 (by decide) ?_
              refine g_istore_n_2 X dX10_goLamp_119 rfl rfl (fun v2_119 ev2_119 => ?_)
              subst v2_119
              refine g_aload_n X dX10_goLamp_120 rfl rfl ?_
              refine g_dup X dX10_goLamp_121 rfl ?_
              refine g_geti (kz := 10) X kd_114 fc9 (k := 10) (by decide) rfl wd_837 rfl dX10_goLamp_122 ?_
              refine g_teq (b := (M 114 10)) (by first | (simp [mu]; done) | (simp only [mu]; repeat (first | rw [if_pos (⟨rfl, rfl⟩)] | rw [if_neg (by omega)]))) ?_
              refine g_iload_n X dX10_goLamp_125 rfl rfl ?_
              refine g_if_eq (tgt := 138) X dX10_goLamp_126 (by decide) (by decide) (fun q => absurd q (by decide)) (fun _ => ?_)
              refine g_iconst X dX10_goLamp_129 ?_
              refine g_aload_n X dX10_goLamp_130 rfl rfl ?_
              refine g_geti (kz := 4) X kd_114 fc9 (k := 4) (by decide) rfl wd_831 rfl dX10_goLamp_131 ?_
              refine g_teq (b := (colS c)) (by first | (simp [mu]; done) | (simp only [mu]; repeat (first | rw [if_pos (⟨rfl, rfl⟩)] | rw [if_neg (by omega)]))) ?_
              refine g_ishl X dX10_goLamp_134 ?_
              refine g_goto (tgt := 139) X dX10_goLamp_135 (by decide) ?_
              refine g_ior X dX10_goLamp_139 ?_
              refine g_puti (kz := 10) X kd_114 fc9 (k := 10) (by decide) rfl wd_837 rfl rfl rfl dX10_goLamp_140 ?_
              refine g_aload_n X dX10_goLamp_143 rfl rfl ?_
              refine g_iconst X dX10_goLamp_144 ?_
              refine g_puti (kz := 2) X kd_114 fc9 (k := 2) (by decide) rfl wd_829 rfl rfl rfl dX10_goLamp_145 ?_
              refine g_iload_n X dX10_goLamp_148 rfl rfl ?_
              rw [hQ]
              refine g_zret X hr hlk (by decide) dX10_goLamp_149 ?_
              have nA : ¬ (M 114 2 = 3 ∧ 48 ≤ c ∧ c ≤ 57) := by omega
              have nB : M 114 2 = 0 ∨ 2 < M 114 2 := by omega
              first | (have hf : glF M c := ⟨by omega, by omega⟩; exact ⟨(b2i_1 (Or.inr (Or.inl ⟨nA, nB, hf⟩))), by unfold glM glB; rw [if_neg nA, if_pos nB, if_pos (b2i_1 hf).symm]⟩) | (have hf : ¬ glF M c := (fun q => absurd q (by unfold glF; omega)); exact ⟨(b2i_0 (by unfold glOk; rintro (q | q | q | q) <;> first | omega | exact hf q.2.2)), by unfold glM glB; rw [if_neg nA, if_pos nB, if_neg (by rw [← b2i_0 hf]; decide)]⟩)
    · have q12 := b2i_t q12
      have q3 := g3 (by omega)
      have q4 := g4 (by omega)
      refine g_aload_n X dX10_goLamp_15 rfl rfl ?_
      refine g_bipush X dX10_goLamp_16 (by decide +kernel) ?_
      refine g_aload_n X dX10_goLamp_18 rfl rfl ?_
      refine g_geti (kz := 3) X kd_114 fc9 (k := 3) (by decide) rfl wd_830 rfl dX10_goLamp_19 ?_
      refine g_imul X dX10_goLamp_22 ?_
      refine g_iload_n X dX10_goLamp_23 rfl rfl ?_
      refine g_iadd X dX10_goLamp_24 ?_
      refine g_bipush X dX10_goLamp_25 (by decide +kernel) ?_
      refine g_isub X dX10_goLamp_27 ?_
      refine g_puti (kz := 3) X kd_114 fc9 (k := 3) (by decide) rfl wd_830 rfl rfl rfl dX10_goLamp_28 ?_
      refine g_aload_n X dX10_goLamp_31 rfl rfl ?_
      refine g_getr (r := 116) X kd_114 fc9 (k := 9) (by decide) rfl wd_836 rfl (by decide) dX10_goLamp_32 ?_
      refine g_aload_n X dX10_goLamp_35 rfl rfl ?_
      refine g_geti (kz := 4) X kd_114 fc9 (k := 4) (by decide) rfl wd_831 rfl dX10_goLamp_36 ?_
      refine g_teq (b := (M 114 4)) (by first | (simp [mu]; done) | (simp only [mu]; repeat (first | rw [if_pos (⟨rfl, rfl⟩)] | rw [if_neg (by omega)]))) ?_
      refine g_aload_n X dX10_goLamp_39 rfl rfl ?_
      refine g_geti (kz := 5) X kd_114 fc9 (k := 5) (by decide) rfl wd_832 rfl dX10_goLamp_40 ?_
      refine g_teq (b := (M 114 5)) (by first | (simp [mu]; done) | (simp only [mu]; repeat (first | rw [if_pos (⟨rfl, rfl⟩)] | rw [if_neg (by omega)]))) ?_
      refine g_aload_n X dX10_goLamp_43 rfl rfl ?_
      refine g_geti (kz := 3) X kd_114 fc9 (k := 3) (by decide) rfl wd_830 rfl dX10_goLamp_44 ?_
      refine g_teq (b := (((10 * (M 114 3)) + c) - 48)) (by first | (simp [mu]; done) | (simp only [mu]; repeat (first | rw [if_pos (⟨rfl, rfl⟩)] | rw [if_neg (by omega)]))) ?_
      refine g_imul X dX10_goLamp_47 ?_
      refine g_iast X kd_116 (by omega) (by omega) dX10_goLamp_48 ?_
      refine g_aload_n X dX10_goLamp_49 rfl rfl ?_
      refine g_iconst X dX10_goLamp_50 ?_
      refine g_puti (kz := 2) X kd_114 fc9 (k := 2) (by decide) rfl wd_829 rfl rfl rfl dX10_goLamp_51 ?_
      refine g_aload_n X dX10_goLamp_54 rfl rfl ?_
      refine g_geti (kz := 3) X kd_114 fc9 (k := 3) (by decide) rfl wd_830 rfl dX10_goLamp_55 ?_
      refine g_teq (b := (((10 * (M 114 3)) + c) - 48)) (by first | (simp [mu]; done) | (simp only [mu]; repeat (first | rw [if_pos (⟨rfl, rfl⟩)] | rw [if_neg (by omega)]))) ?_
      refine g_bipush X dX10_goLamp_58 (by decide +kernel) ?_
      refine g_icmp_gt (tgt := 67) X dX10_goLamp_60 (by decide) ⟨by omega, by omega⟩ (by decide) (fun q60 => ?_) (fun q60 => ?_)
      · refine g_iconst X dX10_goLamp_67 ?_
        rw [hQ]
        refine g_zret X hr hlk (by decide) dX10_goLamp_68 ?_
        refine ⟨?_, by unfold glM; rw [if_pos (by omega)]; rfl⟩
        first | exact (b2i_1 (by unfold glOk; omega)) | exact (b2i_0 (by unfold glOk; omega))
      · refine g_iconst X dX10_goLamp_63 ?_
        refine g_goto (tgt := 68) X dX10_goLamp_64 (by decide) ?_
        rw [hQ]
        refine g_zret X hr hlk (by decide) dX10_goLamp_68 ?_
        refine ⟨?_, by unfold glM; rw [if_pos (by omega)]; rfl⟩
        first | exact (b2i_1 (by unfold glOk; omega)) | exact (b2i_0 (by unfold glOk; omega))
