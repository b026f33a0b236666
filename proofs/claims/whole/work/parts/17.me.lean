set_option maxRecDepth 100000 in
set_option maxHeartbeats 4000000 in
theorem c_X10_back (lL : Launch) (tT : TT) (dD : va_G) (al : Int → Nat) (M : Mem) (m y z : Int) (hW : WV M) (im : i32 m) (iy : i32 y) (iz : i32 z) : CI lL yX10_back cX10_back 7 FieldType.int 5 115 tT dD al [.ref (al 114), .int (iN m), .int (iN y), .int (iN z)] M (fun r M' => r = (if 0 ≤ m ∧ m < M 114 15 then (if (0 ≤ y ∧ y ≤ 400) ∧ (0 ≤ z ∧ z ≤ 1) then (if M 114 17 = 0 then -103 else if bkH M m y (M 114 23).toNat < bkL M m y (M 114 23).toNat then -1 else if z = 0 then bkL M m y (M 114 23).toNat else bkH M m y (M 114 23).toNat) else -102) else -101) ∧ M' = M) := by
  refine CI.of (own := "RedSkiesModel") (ls0 := [some (.ref (al 114)), some (.int (iN m)), some (.int (iN y)), some (.int (iN z)), none, none, none]) (by decide +kernel) rfl (Nat.le_of_ble_eq_true rfl) rfl ?_
  intro pP eE sS mI aA bB mM cC X hr hlk
  obtain ⟨Q, hQ⟩ : ∃ Q : State → Prop, Q = MQ bB (QI tT dD al (fun r M' => r = (if 0 ≤ m ∧ m < M 114 15 then (if (0 ≤ y ∧ y ≤ 400) ∧ (0 ≤ z ∧ z ≤ 1) then (if M 114 17 = 0 then -103 else if bkH M m y (M 114 23).toNat < bkL M m y (M 114 23).toNat then -1 else if z = 0 then bkL M m y (M 114 23).toNat else bkH M m y (M 114 23).toNat) else -102) else -101) ∧ M' = M)) aA sS 0 0 (fA al) := ⟨_, rfl⟩
  rw [← hQ]
  have w1 := hW.mea
  have w2 := hW.n
  have w3 := hW.law
  refine g_aload_n X dX10_back_0 rfl rfl ?_
  refine g_iload_n X dX10_back_1 rfl rfl ?_
  refine g_callVI X (c_X10_isMeasure lL tT dD al _ _ im ⟨by omega, by omega⟩) kd_114 fc9 lk_RX10_215 rfl rfl ⟨by decide, by decide⟩ rfl (Nat.le_of_ble_eq_true rfl) dX10_back_2 (fun r2 M2 hc2 => ?_)
  obtain ⟨hr2, hm2⟩ := hc2
  subst r2
  subst M2
  refine g_if_ne (tgt := 11) X dX10_back_5 (by decide) (b2i_i32 _) (fun q5 => ?_) (fun q5 => ?_)
  · have q5 := b2i_t q5
    refine g_iload_n X dX10_back_11 rfl rfl ?_
    refine g_i2l X dX10_back_12 ⟨by omega, by omega⟩ ?_
    refine g_lconst X (v := 0) dX10_back_13 (by decide +kernel) ?_
    refine g_ldc2 X (n := 400) wd_1056 (by decide +kernel) dX10_back_14 ?_
    refine g_callSI X (c_X10_in lL tT dD al _ _ _ _ ⟨by omega, by omega⟩ (by decide) (by decide)) lk_RX10_98 rfl rfl ⟨by decide, by decide⟩ rfl (Nat.le_of_ble_eq_true rfl) dX10_back_17 (fun r17 M17 hc17 => ?_)
    obtain ⟨hr17, hm17⟩ := hc17
    subst r17
    subst M17
    refine g_if_eq (tgt := 30) X dX10_back_20 (by decide) (b2i_i32 _) (fun q20 => ?_) (fun q20 => ?_)
    · have q20 := b2i_f q20
      refine g_bipush X dX10_back_30 (by decide +kernel) ?_
      rw [hQ]
      refine g_iret X hr hlk dX10_back_32 ?_
      clear X hr hlk hQ
      first | (obtain rfl : k = M 114 23 := (by omega); exact ⟨by grind, rfl⟩) | exact ⟨by grind, rfl⟩
    · have q20 := b2i_t q20
      refine g_iload_n X dX10_back_23 rfl rfl ?_
      refine g_callSI X (c_X10_isPart lL tT dD al _ _ iz) lk_RX10_288 rfl rfl ⟨by decide, by decide⟩ rfl (Nat.le_of_ble_eq_true rfl) dX10_back_24 (fun r24 M24 hc24 => ?_)
      obtain ⟨hr24, hm24⟩ := hc24
      subst r24
      subst M24
      refine g_if_ne (tgt := 33) X dX10_back_27 (by decide) (b2i_i32 _) (fun q27 => ?_) (fun q27 => ?_)
      · have q27 := b2i_t q27
        refine g_aload_n X dX10_back_33 rfl rfl ?_
        refine g_geti (kz := 17) X kd_114 fc9 (k := 17) (by decide) rfl wd_844 rfl dX10_back_34 ?_
        refine g_if_ne (tgt := 43) X dX10_back_37 (by decide) ⟨by omega, by omega⟩ (fun q37 => ?_) (fun q37 => ?_)
        · refine g_iconst X dX10_back_43 ?_
          refine g_istore_4 X dX10_back_44 rfl (fun v4_44 ev4_44 => ?_)
          subst v4_44
          refine g_aload_n X dX10_back_46 rfl rfl ?_
          refine g_geti (kz := 17) X kd_114 fc9 (k := 17) (by decide) rfl wd_844 rfl dX10_back_47 ?_
          refine g_istore_5 X dX10_back_50 rfl (fun v5_50 ev5_50 => ?_)
          subst v5_50
          have w4 := hW.ice (y := y) (by omega) (by omega)
          refine g_aload_n X dX10_back_52 rfl rfl ?_
          refine g_getr (r := 134) X kd_114 fc9 (k := 41) (by decide) rfl wd_868 rfl (by decide) dX10_back_53 ?_
          refine g_iload_n X dX10_back_56 rfl rfl ?_
          refine g_iald X kd_134 (by omega) (by omega) dX10_back_57 ?_
          refine g_iconst X dX10_back_58 ?_
          refine g_icmp_eq (tgt := 78) X dX10_back_59 (by decide) ⟨by omega, by omega⟩ (by decide) (fun q59 => ?_) (fun q59 => ?_)
          · refine g_iconst X dX10_back_78 ?_
            refine g_istore_6 X dX10_back_79 rfl (fun v6_79 ev6_79 => ?_)
            subst v6_79
            have L_81 : ∀ (n : Nat) (a : Int) (b : Int) (k : Int), (0 ≤ k) → (k ≤ M 114 23) → (a = bkL M m y k.toNat) → (b = bkH M m y k.toNat) → (16 - k).toNat < n → Gd pP lL eE (rmN 5 115) sS mI aA bB mM cC 0 0 Q tT dD al (fA al) 81 [some (.ref (al 114)), some (.int (iN m)), some (.int (iN y)), some (.int (iN z)), some (.int (iN a)), some (.int (iN b)), some (.int (iN k))] [] M := by
              intro n
              induction n with
              | zero => intro a b k hk hk2 ha hb hm; exact absurd hm (Nat.not_lt_zero _)
              | succ n ih =>
                intro a b k hk hk2 ha hb hm
                have w5 := bk_rng hW m (y := y) (by omega) (by omega) k.toNat
                have w6 := bk_s M m y hk
                have w7 := clsS_rng M (vlu M m k - M 114 19) (by omega)
                have w8 := clsS_rng M (vlu M m k + M 114 19) (by omega)
                have w9 : lowS M m k = clsS M (vlu M m k - M 114 19) := rfl
                have w10 : highS M m k = clsS M (vlu M m k + M 114 19) := rfl
                have ih_81 := ih
                clear ih
                refine g_iload X dX10_back_81 rfl ?_
                refine g_aload_n X dX10_back_83 rfl rfl ?_
                refine g_geti (kz := 23) X kd_114 fc9 (k := 23) (by decide) rfl wd_850 rfl dX10_back_84 ?_
                refine g_icmp_ge (tgt := 188) X dX10_back_87 (by decide) ⟨by omega, by omega⟩ ⟨by omega, by omega⟩ (fun q87 => ?_) (fun q87 => ?_)
                · refine g_iload X dX10_back_188 rfl ?_
                  refine g_iload X dX10_back_190 rfl ?_
                  refine g_icmp_le (tgt := 199) X dX10_back_192 (by decide) ⟨by omega, by omega⟩ ⟨by omega, by omega⟩ (fun q192 => ?_) (fun q192 => ?_)
                  · refine g_iload_n X dX10_back_199 rfl rfl ?_
                    refine g_if_ne (tgt := 208) X dX10_back_200 (by decide) ⟨by omega, by omega⟩ (fun q200 => ?_) (fun q200 => ?_)
                    · refine g_iload X dX10_back_208 rfl ?_
                      rw [hQ]
                      refine g_iret X hr hlk dX10_back_210 ?_
                      clear X hr hlk hQ ih_81
                      first | (obtain rfl : k = M 114 23 := (by omega); exact ⟨by grind, rfl⟩) | exact ⟨by grind, rfl⟩
                    · refine g_iload X dX10_back_203 rfl ?_
                      refine g_goto (tgt := 210) X dX10_back_205 (by decide) ?_
                      rw [hQ]
                      refine g_iret X hr hlk dX10_back_210 ?_
                      clear X hr hlk hQ ih_81
                      first | (obtain rfl : k = M 114 23 := (by omega); exact ⟨by grind, rfl⟩) | exact ⟨by grind, rfl⟩
                  · refine g_iconst X dX10_back_195 ?_
                    refine g_goto (tgt := 210) X dX10_back_196 (by decide) ?_
                    rw [hQ]
                    refine g_iret X hr hlk dX10_back_210 ?_
                    clear X hr hlk hQ ih_81
                    first | (obtain rfl : k = M 114 23 := (by omega); exact ⟨by grind, rfl⟩) | exact ⟨by grind, rfl⟩
                · refine g_aload_n X dX10_back_90 rfl rfl ?_
                  refine g_iload X dX10_back_91 rfl ?_
                  refine g_callVI X (c_X10_isCounted lL tT dD al _ _ hW hk (by omega)) kd_114 fc9 lk_RX10_228 rfl rfl ⟨by decide, by decide⟩ rfl (Nat.le_of_ble_eq_true rfl) dX10_back_93 (fun r93 M93 hc93 => ?_)
                  obtain ⟨hr93, hm93⟩ := hc93
                  subst r93
                  subst M93
                  refine g_if_eq (tgt := 182) X dX10_back_96 (by decide) (b2i_i32 _) (fun q96 => ?_) (fun q96 => ?_)
                  · have q96 := b2i_f q96
                    refine g_iinc_6 X dX10_back_182 rfl (fun v6_182 ev6_182 => ?_)
                    subst v6_182
                    refine g_goto (tgt := 81) X dX10_back_185 (by decide) ?_
                    exact g_sub (ih_81 _ _ _ (by omega) (by omega) (by clear X hr hlk hQ ih_81; rw [w6.1]; first | (rw [← b2i_0 (q := bkP M y k) (by unfold bkP; omega)]; simp; exact ha) | (rw [← b2i_1 (q := bkP M y k) (by unfold bkP; omega)]; simp; grind)) (by clear X hr hlk hQ ih_81; rw [w6.2]; first | (rw [← b2i_0 (q := bkP M y k) (by unfold bkP; omega)]; simp; exact hb) | (rw [← b2i_1 (q := bkP M y k) (by unfold bkP; omega)]; simp; grind)) (by omega)) ⟨rfl, rfl, rfl, rfl, rfl, rfl, rfl, trivial⟩
                  · have q96 := b2i_t q96
                    have w11 := hW.row hk (by omega)
                    refine g_aload_n X dX10_back_99 rfl rfl ?_
                    refine g_getr (r := 124) X kd_114 fc9 (k := 24) (by decide) rfl wd_851 rfl (by decide) dX10_back_100 ?_
                    refine g_bipush X dX10_back_103 (by decide +kernel) ?_
                    refine g_iload X dX10_back_105 rfl ?_
                    refine g_imul X dX10_back_107 ?_
                    refine g_iconst X dX10_back_108 ?_
                    refine g_iadd X dX10_back_109 ?_
                    refine g_iald X kd_124 (by omega) (by omega) dX10_back_110 ?_
                    refine g_iload_n X dX10_back_111 rfl rfl ?_
                    refine g_icmp_ne (tgt := 182) X dX10_back_112 (by decide) ⟨by omega, by omega⟩ ⟨by omega, by omega⟩ (fun q112 => ?_) (fun q112 => ?_)
                    · refine g_iinc_6 X dX10_back_182 rfl (fun v6_182 ev6_182 => ?_)
                      subst v6_182
                      refine g_goto (tgt := 81) X dX10_back_185 (by decide) ?_
                      exact g_sub (ih_81 _ _ _ (by omega) (by omega) (by clear X hr hlk hQ ih_81; rw [w6.1]; first | (rw [← b2i_0 (q := bkP M y k) (by unfold bkP; omega)]; simp; exact ha) | (rw [← b2i_1 (q := bkP M y k) (by unfold bkP; omega)]; simp; grind)) (by clear X hr hlk hQ ih_81; rw [w6.2]; first | (rw [← b2i_0 (q := bkP M y k) (by unfold bkP; omega)]; simp; exact hb) | (rw [← b2i_1 (q := bkP M y k) (by unfold bkP; omega)]; simp; grind)) (by omega)) ⟨rfl, rfl, rfl, rfl, rfl, rfl, rfl, trivial⟩
                    · refine g_aload_n X dX10_back_115 rfl rfl ?_
                      refine g_getr (r := 124) X kd_114 fc9 (k := 24) (by decide) rfl wd_851 rfl (by decide) dX10_back_116 ?_
                      refine g_bipush X dX10_back_119 (by decide +kernel) ?_
                      refine g_iload X dX10_back_121 rfl ?_
                      refine g_imul X dX10_back_123 ?_
                      refine g_iconst X dX10_back_124 ?_
                      refine g_iadd X dX10_back_125 ?_
                      refine g_iald X kd_124 (by omega) (by omega) dX10_back_126 ?_
                      refine g_if_ne (tgt := 182) X dX10_back_127 (by decide) ⟨by omega, by omega⟩ (fun q127 => ?_) (fun q127 => ?_)
                      · refine g_iinc_6 X dX10_back_182 rfl (fun v6_182 ev6_182 => ?_)
                        subst v6_182
                        refine g_goto (tgt := 81) X dX10_back_185 (by decide) ?_
                        exact g_sub (ih_81 _ _ _ (by omega) (by omega) (by clear X hr hlk hQ ih_81; rw [w6.1]; first | (rw [← b2i_0 (q := bkP M y k) (by unfold bkP; omega)]; simp; exact ha) | (rw [← b2i_1 (q := bkP M y k) (by unfold bkP; omega)]; simp; grind)) (by clear X hr hlk hQ ih_81; rw [w6.2]; first | (rw [← b2i_0 (q := bkP M y k) (by unfold bkP; omega)]; simp; exact hb) | (rw [← b2i_1 (q := bkP M y k) (by unfold bkP; omega)]; simp; grind)) (by omega)) ⟨rfl, rfl, rfl, rfl, rfl, rfl, rfl, trivial⟩
                      · refine g_aload_n X dX10_back_130 rfl rfl ?_
                        refine g_iload_n X dX10_back_131 rfl rfl ?_
                        refine g_iload X dX10_back_132 rfl ?_
                        refine g_callVI X (c_X10_lowClass lL tT dD al _ _ _ hW (by omega) (by omega) hk (by omega)) kd_114 fc9 lk_RX10_312 rfl rfl ⟨by decide, by decide⟩ rfl (Nat.le_of_ble_eq_true rfl) dX10_back_134 (fun r134 M134 hc134 => ?_)
                        obtain ⟨hr134, hm134⟩ := hc134
                        subst r134
                        subst M134
                        refine g_iload X dX10_back_137 rfl ?_
                        refine g_icmp_le (tgt := 152) X dX10_back_139 (by decide) ⟨by omega, by omega⟩ ⟨by omega, by omega⟩ (fun q139 => ?_) (fun q139 => ?_)
                        · refine g_iload X dX10_back_152 rfl ?_
                          refine g_istore_4 X dX10_back_154 rfl (fun v4_154 ev4_154 => ?_)
                          subst v4_154
                          refine g_aload_n X dX10_back_156 rfl rfl ?_
                          refine g_iload_n X dX10_back_157 rfl rfl ?_
                          refine g_iload X dX10_back_158 rfl ?_
                          refine g_callVI X (c_X10_highClass lL tT dD al _ _ _ hW (by omega) (by omega) hk (by omega)) kd_114 fc9 lk_RX10_315 rfl rfl ⟨by decide, by decide⟩ rfl (Nat.le_of_ble_eq_true rfl) dX10_back_160 (fun r160 M160 hc160 => ?_)
                          obtain ⟨hr160, hm160⟩ := hc160
                          subst r160
                          subst M160
                          refine g_iload X dX10_back_163 rfl ?_
                          refine g_icmp_ge (tgt := 178) X dX10_back_165 (by decide) ⟨by omega, by omega⟩ ⟨by omega, by omega⟩ (fun q165 => ?_) (fun q165 => ?_)
                          · refine g_iload X dX10_back_178 rfl ?_
                            refine g_istore_5 X dX10_back_180 rfl (fun v5_180 ev5_180 => ?_)
                            subst v5_180
                            refine g_iinc_6 X dX10_back_182 rfl (fun v6_182 ev6_182 => ?_)
                            subst v6_182
                            refine g_goto (tgt := 81) X dX10_back_185 (by decide) ?_
                            exact g_sub (ih_81 _ _ _ (by omega) (by omega) (by clear X hr hlk hQ ih_81; rw [w6.1]; first | (rw [← b2i_0 (q := bkP M y k) (by unfold bkP; omega)]; simp; exact ha) | (rw [← b2i_1 (q := bkP M y k) (by unfold bkP; omega)]; simp; grind)) (by clear X hr hlk hQ ih_81; rw [w6.2]; first | (rw [← b2i_0 (q := bkP M y k) (by unfold bkP; omega)]; simp; exact hb) | (rw [← b2i_1 (q := bkP M y k) (by unfold bkP; omega)]; simp; grind)) (by omega)) ⟨rfl, rfl, rfl, rfl, rfl, rfl, rfl, trivial⟩
                          · refine g_aload_n X dX10_back_168 rfl rfl ?_
                            refine g_iload_n X dX10_back_169 rfl rfl ?_
                            refine g_iload X dX10_back_170 rfl ?_
                            refine g_callVI X (c_X10_highClass lL tT dD al _ _ _ (by first | assumption | omega) (by first | assumption | omega) (by first | assumption | omega) (by first | assumption | omega) (by first | assumption | omega)) kd_114 fc9 lk_RX10_315 rfl rfl ⟨by decide, by decide⟩ rfl (Nat.le_of_ble_eq_true rfl) dX10_back_172 (fun r172 M172 hc172 => ?_)
                            obtain ⟨hr172, hm172⟩ := hc172
                            subst r172
                            subst M172
                            refine g_goto (tgt := 180) X dX10_back_175 (by decide) ?_
                            refine g_istore_5 X dX10_back_180 rfl (fun v5_180 ev5_180 => ?_)
                            subst v5_180
                            refine g_iinc_6 X dX10_back_182 rfl (fun v6_182 ev6_182 => ?_)
                            subst v6_182
                            refine g_goto (tgt := 81) X dX10_back_185 (by decide) ?_
                            exact g_sub (ih_81 _ _ _ (by omega) (by omega) (by clear X hr hlk hQ ih_81; rw [w6.1]; first | (rw [← b2i_0 (q := bkP M y k) (by unfold bkP; omega)]; simp; exact ha) | (rw [← b2i_1 (q := bkP M y k) (by unfold bkP; omega)]; simp; grind)) (by clear X hr hlk hQ ih_81; rw [w6.2]; first | (rw [← b2i_0 (q := bkP M y k) (by unfold bkP; omega)]; simp; exact hb) | (rw [← b2i_1 (q := bkP M y k) (by unfold bkP; omega)]; simp; grind)) (by omega)) ⟨rfl, rfl, rfl, rfl, rfl, rfl, rfl, trivial⟩
                        · refine g_aload_n X dX10_back_142 rfl rfl ?_
                          refine g_iload_n X dX10_back_143 rfl rfl ?_
                          refine g_iload X dX10_back_144 rfl ?_
                          refine g_callVI X (c_X10_lowClass lL tT dD al _ _ _ (by first | assumption | omega) (by first | assumption | omega) (by first | assumption | omega) (by first | assumption | omega) (by first | assumption | omega)) kd_114 fc9 lk_RX10_312 rfl rfl ⟨by decide, by decide⟩ rfl (Nat.le_of_ble_eq_true rfl) dX10_back_146 (fun r146 M146 hc146 => ?_)
                          obtain ⟨hr146, hm146⟩ := hc146
                          subst r146
                          subst M146
                          refine g_goto (tgt := 154) X dX10_back_149 (by decide) ?_
                          refine g_istore_4 X dX10_back_154 rfl (fun v4_154 ev4_154 => ?_)
                          subst v4_154
                          refine g_aload_n X dX10_back_156 rfl rfl ?_
                          refine g_iload_n X dX10_back_157 rfl rfl ?_
                          refine g_iload X dX10_back_158 rfl ?_
                          refine g_callVI X (c_X10_highClass lL tT dD al _ _ _ hW (by omega) (by omega) hk (by omega)) kd_114 fc9 lk_RX10_315 rfl rfl ⟨by decide, by decide⟩ rfl (Nat.le_of_ble_eq_true rfl) dX10_back_160 (fun r160 M160 hc160 => ?_)
                          obtain ⟨hr160, hm160⟩ := hc160
                          subst r160
                          subst M160
                          refine g_iload X dX10_back_163 rfl ?_
                          refine g_icmp_ge (tgt := 178) X dX10_back_165 (by decide) ⟨by omega, by omega⟩ ⟨by omega, by omega⟩ (fun q165 => ?_) (fun q165 => ?_)
                          · refine g_iload X dX10_back_178 rfl ?_
                            refine g_istore_5 X dX10_back_180 rfl (fun v5_180 ev5_180 => ?_)
                            subst v5_180
                            refine g_iinc_6 X dX10_back_182 rfl (fun v6_182 ev6_182 => ?_)
                            subst v6_182
                            refine g_goto (tgt := 81) X dX10_back_185 (by decide) ?_
                            exact g_sub (ih_81 _ _ _ (by omega) (by omega) (by clear X hr hlk hQ ih_81; rw [w6.1]; first | (rw [← b2i_0 (q := bkP M y k) (by unfold bkP; omega)]; simp; exact ha) | (rw [← b2i_1 (q := bkP M y k) (by unfold bkP; omega)]; simp; grind)) (by clear X hr hlk hQ ih_81; rw [w6.2]; first | (rw [← b2i_0 (q := bkP M y k) (by unfold bkP; omega)]; simp; exact hb) | (rw [← b2i_1 (q := bkP M y k) (by unfold bkP; omega)]; simp; grind)) (by omega)) ⟨rfl, rfl, rfl, rfl, rfl, rfl, rfl, trivial⟩
                          · refine g_aload_n X dX10_back_168 rfl rfl ?_
                            refine g_iload_n X dX10_back_169 rfl rfl ?_
                            refine g_iload X dX10_back_170 rfl ?_
                            refine g_callVI X (c_X10_highClass lL tT dD al _ _ _ (by first | assumption | omega) (by first | assumption | omega) (by first | assumption | omega) (by first | assumption | omega) (by first | assumption | omega)) kd_114 fc9 lk_RX10_315 rfl rfl ⟨by decide, by decide⟩ rfl (Nat.le_of_ble_eq_true rfl) dX10_back_172 (fun r172 M172 hc172 => ?_)
                            obtain ⟨hr172, hm172⟩ := hc172
                            subst r172
                            subst M172
                            refine g_goto (tgt := 180) X dX10_back_175 (by decide) ?_
                            refine g_istore_5 X dX10_back_180 rfl (fun v5_180 ev5_180 => ?_)
                            subst v5_180
                            refine g_iinc_6 X dX10_back_182 rfl (fun v6_182 ev6_182 => ?_)
                            subst v6_182
                            refine g_goto (tgt := 81) X dX10_back_185 (by decide) ?_
                            exact g_sub (ih_81 _ _ _ (by omega) (by omega) (by clear X hr hlk hQ ih_81; rw [w6.1]; first | (rw [← b2i_0 (q := bkP M y k) (by unfold bkP; omega)]; simp; exact ha) | (rw [← b2i_1 (q := bkP M y k) (by unfold bkP; omega)]; simp; grind)) (by clear X hr hlk hQ ih_81; rw [w6.2]; first | (rw [← b2i_0 (q := bkP M y k) (by unfold bkP; omega)]; simp; exact hb) | (rw [← b2i_1 (q := bkP M y k) (by unfold bkP; omega)]; simp; grind)) (by omega)) ⟨rfl, rfl, rfl, rfl, rfl, rfl, rfl, trivial⟩
            exact g_sub (L_81 _ _ _ _ (by omega) (by omega) (by clear X hr hlk hQ L_81; rw [show (0 : Int).toNat = 0 from rfl, bkL]; grind) (by clear X hr hlk hQ L_81; rw [show (0 : Int).toNat = 0 from rfl, bkH]; grind) (Nat.lt_succ_self _)) ⟨rfl, rfl, rfl, rfl, rfl, rfl, rfl, trivial⟩
          · refine g_aload_n X dX10_back_62 rfl rfl ?_
            refine g_getr (r := 134) X kd_114 fc9 (k := 41) (by decide) rfl wd_868 rfl (by decide) dX10_back_63 ?_
            refine g_iload_n X dX10_back_66 rfl rfl ?_
            refine g_iald X kd_134 (by omega) (by omega) dX10_back_67 ?_
            refine g_istore_4 X dX10_back_68 rfl (fun v4_68 ev4_68 => ?_)
            subst v4_68
            refine g_aload_n X dX10_back_70 rfl rfl ?_
            refine g_getr (r := 135) X kd_114 fc9 (k := 42) (by decide) rfl wd_869 rfl (by decide) dX10_back_71 ?_
            refine g_iload_n X dX10_back_74 rfl rfl ?_
            refine g_iald X kd_135 (by omega) (by omega) dX10_back_75 ?_
            refine g_istore_5 X dX10_back_76 rfl (fun v5_76 ev5_76 => ?_)
            subst v5_76
            refine g_iconst X dX10_back_78 ?_
            refine g_istore_6 X dX10_back_79 rfl (fun v6_79 ev6_79 => ?_)
            subst v6_79
            have L_81 : ∀ (n : Nat) (a : Int) (b : Int) (k : Int), (0 ≤ k) → (k ≤ M 114 23) → (a = bkL M m y k.toNat) → (b = bkH M m y k.toNat) → (16 - k).toNat < n → Gd pP lL eE (rmN 5 115) sS mI aA bB mM cC 0 0 Q tT dD al (fA al) 81 [some (.ref (al 114)), some (.int (iN m)), some (.int (iN y)), some (.int (iN z)), some (.int (iN a)), some (.int (iN b)), some (.int (iN k))] [] M := by
              intro n
              induction n with
              | zero => intro a b k hk hk2 ha hb hm; exact absurd hm (Nat.not_lt_zero _)
              | succ n ih =>
                intro a b k hk hk2 ha hb hm
                have w5 := bk_rng hW m (y := y) (by omega) (by omega) k.toNat
                have w6 := bk_s M m y hk
                have w7 := clsS_rng M (vlu M m k - M 114 19) (by omega)
                have w8 := clsS_rng M (vlu M m k + M 114 19) (by omega)
                have w9 : lowS M m k = clsS M (vlu M m k - M 114 19) := rfl
                have w10 : highS M m k = clsS M (vlu M m k + M 114 19) := rfl
                have ih_81 := ih
                clear ih
                refine g_iload X dX10_back_81 rfl ?_
                refine g_aload_n X dX10_back_83 rfl rfl ?_
                refine g_geti (kz := 23) X kd_114 fc9 (k := 23) (by decide) rfl wd_850 rfl dX10_back_84 ?_
                refine g_icmp_ge (tgt := 188) X dX10_back_87 (by decide) ⟨by omega, by omega⟩ ⟨by omega, by omega⟩ (fun q87 => ?_) (fun q87 => ?_)
                · refine g_iload X dX10_back_188 rfl ?_
                  refine g_iload X dX10_back_190 rfl ?_
                  refine g_icmp_le (tgt := 199) X dX10_back_192 (by decide) ⟨by omega, by omega⟩ ⟨by omega, by omega⟩ (fun q192 => ?_) (fun q192 => ?_)
                  · refine g_iload_n X dX10_back_199 rfl rfl ?_
                    refine g_if_ne (tgt := 208) X dX10_back_200 (by decide) ⟨by omega, by omega⟩ (fun q200 => ?_) (fun q200 => ?_)
                    · refine g_iload X dX10_back_208 rfl ?_
                      rw [hQ]
                      refine g_iret X hr hlk dX10_back_210 ?_
                      clear X hr hlk hQ ih_81
                      first | (obtain rfl : k = M 114 23 := (by omega); exact ⟨by grind, rfl⟩) | exact ⟨by grind, rfl⟩
                    · refine g_iload X dX10_back_203 rfl ?_
                      refine g_goto (tgt := 210) X dX10_back_205 (by decide) ?_
                      rw [hQ]
                      refine g_iret X hr hlk dX10_back_210 ?_
                      clear X hr hlk hQ ih_81
                      first | (obtain rfl : k = M 114 23 := (by omega); exact ⟨by grind, rfl⟩) | exact ⟨by grind, rfl⟩
                  · refine g_iconst X dX10_back_195 ?_
                    refine g_goto (tgt := 210) X dX10_back_196 (by decide) ?_
                    rw [hQ]
                    refine g_iret X hr hlk dX10_back_210 ?_
                    clear X hr hlk hQ ih_81
                    first | (obtain rfl : k = M 114 23 := (by omega); exact ⟨by grind, rfl⟩) | exact ⟨by grind, rfl⟩
                · refine g_aload_n X dX10_back_90 rfl rfl ?_
                  refine g_iload X dX10_back_91 rfl ?_
                  refine g_callVI X (c_X10_isCounted lL tT dD al _ _ hW hk (by omega)) kd_114 fc9 lk_RX10_228 rfl rfl ⟨by decide, by decide⟩ rfl (Nat.le_of_ble_eq_true rfl) dX10_back_93 (fun r93 M93 hc93 => ?_)
                  obtain ⟨hr93, hm93⟩ := hc93
                  subst r93
                  subst M93
                  refine g_if_eq (tgt := 182) X dX10_back_96 (by decide) (b2i_i32 _) (fun q96 => ?_) (fun q96 => ?_)
                  · have q96 := b2i_f q96
                    refine g_iinc_6 X dX10_back_182 rfl (fun v6_182 ev6_182 => ?_)
                    subst v6_182
                    refine g_goto (tgt := 81) X dX10_back_185 (by decide) ?_
                    exact g_sub (ih_81 _ _ _ (by omega) (by omega) (by clear X hr hlk hQ ih_81; rw [w6.1]; first | (rw [← b2i_0 (q := bkP M y k) (by unfold bkP; omega)]; simp; exact ha) | (rw [← b2i_1 (q := bkP M y k) (by unfold bkP; omega)]; simp; grind)) (by clear X hr hlk hQ ih_81; rw [w6.2]; first | (rw [← b2i_0 (q := bkP M y k) (by unfold bkP; omega)]; simp; exact hb) | (rw [← b2i_1 (q := bkP M y k) (by unfold bkP; omega)]; simp; grind)) (by omega)) ⟨rfl, rfl, rfl, rfl, rfl, rfl, rfl, trivial⟩
                  · have q96 := b2i_t q96
                    have w11 := hW.row hk (by omega)
                    refine g_aload_n X dX10_back_99 rfl rfl ?_
                    refine g_getr (r := 124) X kd_114 fc9 (k := 24) (by decide) rfl wd_851 rfl (by decide) dX10_back_100 ?_
                    refine g_bipush X dX10_back_103 (by decide +kernel) ?_
                    refine g_iload X dX10_back_105 rfl ?_
                    refine g_imul X dX10_back_107 ?_
                    refine g_iconst X dX10_back_108 ?_
                    refine g_iadd X dX10_back_109 ?_
                    refine g_iald X kd_124 (by omega) (by omega) dX10_back_110 ?_
                    refine g_iload_n X dX10_back_111 rfl rfl ?_
                    refine g_icmp_ne (tgt := 182) X dX10_back_112 (by decide) ⟨by omega, by omega⟩ ⟨by omega, by omega⟩ (fun q112 => ?_) (fun q112 => ?_)
                    · refine g_iinc_6 X dX10_back_182 rfl (fun v6_182 ev6_182 => ?_)
                      subst v6_182
                      refine g_goto (tgt := 81) X dX10_back_185 (by decide) ?_
                      exact g_sub (ih_81 _ _ _ (by omega) (by omega) (by clear X hr hlk hQ ih_81; rw [w6.1]; first | (rw [← b2i_0 (q := bkP M y k) (by unfold bkP; omega)]; simp; exact ha) | (rw [← b2i_1 (q := bkP M y k) (by unfold bkP; omega)]; simp; grind)) (by clear X hr hlk hQ ih_81; rw [w6.2]; first | (rw [← b2i_0 (q := bkP M y k) (by unfold bkP; omega)]; simp; exact hb) | (rw [← b2i_1 (q := bkP M y k) (by unfold bkP; omega)]; simp; grind)) (by omega)) ⟨rfl, rfl, rfl, rfl, rfl, rfl, rfl, trivial⟩
                    · refine g_aload_n X dX10_back_115 rfl rfl ?_
                      refine g_getr (r := 124) X kd_114 fc9 (k := 24) (by decide) rfl wd_851 rfl (by decide) dX10_back_116 ?_
                      refine g_bipush X dX10_back_119 (by decide +kernel) ?_
                      refine g_iload X dX10_back_121 rfl ?_
                      refine g_imul X dX10_back_123 ?_
                      refine g_iconst X dX10_back_124 ?_
                      refine g_iadd X dX10_back_125 ?_
                      refine g_iald X kd_124 (by omega) (by omega) dX10_back_126 ?_
                      refine g_if_ne (tgt := 182) X dX10_back_127 (by decide) ⟨by omega, by omega⟩ (fun q127 => ?_) (fun q127 => ?_)
                      · refine g_iinc_6 X dX10_back_182 rfl (fun v6_182 ev6_182 => ?_)
                        subst v6_182
                        refine g_goto (tgt := 81) X dX10_back_185 (by decide) ?_
                        exact g_sub (ih_81 _ _ _ (by omega) (by omega) (by clear X hr hlk hQ ih_81; rw [w6.1]; first | (rw [← b2i_0 (q := bkP M y k) (by unfold bkP; omega)]; simp; exact ha) | (rw [← b2i_1 (q := bkP M y k) (by unfold bkP; omega)]; simp; grind)) (by clear X hr hlk hQ ih_81; rw [w6.2]; first | (rw [← b2i_0 (q := bkP M y k) (by unfold bkP; omega)]; simp; exact hb) | (rw [← b2i_1 (q := bkP M y k) (by unfold bkP; omega)]; simp; grind)) (by omega)) ⟨rfl, rfl, rfl, rfl, rfl, rfl, rfl, trivial⟩
                      · refine g_aload_n X dX10_back_130 rfl rfl ?_
                        refine g_iload_n X dX10_back_131 rfl rfl ?_
                        refine g_iload X dX10_back_132 rfl ?_
                        refine g_callVI X (c_X10_lowClass lL tT dD al _ _ _ hW (by omega) (by omega) hk (by omega)) kd_114 fc9 lk_RX10_312 rfl rfl ⟨by decide, by decide⟩ rfl (Nat.le_of_ble_eq_true rfl) dX10_back_134 (fun r134 M134 hc134 => ?_)
                        obtain ⟨hr134, hm134⟩ := hc134
                        subst r134
                        subst M134
                        refine g_iload X dX10_back_137 rfl ?_
                        refine g_icmp_le (tgt := 152) X dX10_back_139 (by decide) ⟨by omega, by omega⟩ ⟨by omega, by omega⟩ (fun q139 => ?_) (fun q139 => ?_)
                        · refine g_iload X dX10_back_152 rfl ?_
                          refine g_istore_4 X dX10_back_154 rfl (fun v4_154 ev4_154 => ?_)
                          subst v4_154
                          refine g_aload_n X dX10_back_156 rfl rfl ?_
                          refine g_iload_n X dX10_back_157 rfl rfl ?_
                          refine g_iload X dX10_back_158 rfl ?_
                          refine g_callVI X (c_X10_highClass lL tT dD al _ _ _ hW (by omega) (by omega) hk (by omega)) kd_114 fc9 lk_RX10_315 rfl rfl ⟨by decide, by decide⟩ rfl (Nat.le_of_ble_eq_true rfl) dX10_back_160 (fun r160 M160 hc160 => ?_)
                          obtain ⟨hr160, hm160⟩ := hc160
                          subst r160
                          subst M160
                          refine g_iload X dX10_back_163 rfl ?_
                          refine g_icmp_ge (tgt := 178) X dX10_back_165 (by decide) ⟨by omega, by omega⟩ ⟨by omega, by omega⟩ (fun q165 => ?_) (fun q165 => ?_)
                          · refine g_iload X dX10_back_178 rfl ?_
                            refine g_istore_5 X dX10_back_180 rfl (fun v5_180 ev5_180 => ?_)
                            subst v5_180
                            refine g_iinc_6 X dX10_back_182 rfl (fun v6_182 ev6_182 => ?_)
                            subst v6_182
                            refine g_goto (tgt := 81) X dX10_back_185 (by decide) ?_
                            exact g_sub (ih_81 _ _ _ (by omega) (by omega) (by clear X hr hlk hQ ih_81; rw [w6.1]; first | (rw [← b2i_0 (q := bkP M y k) (by unfold bkP; omega)]; simp; exact ha) | (rw [← b2i_1 (q := bkP M y k) (by unfold bkP; omega)]; simp; grind)) (by clear X hr hlk hQ ih_81; rw [w6.2]; first | (rw [← b2i_0 (q := bkP M y k) (by unfold bkP; omega)]; simp; exact hb) | (rw [← b2i_1 (q := bkP M y k) (by unfold bkP; omega)]; simp; grind)) (by omega)) ⟨rfl, rfl, rfl, rfl, rfl, rfl, rfl, trivial⟩
                          · refine g_aload_n X dX10_back_168 rfl rfl ?_
                            refine g_iload_n X dX10_back_169 rfl rfl ?_
                            refine g_iload X dX10_back_170 rfl ?_
                            refine g_callVI X (c_X10_highClass lL tT dD al _ _ _ (by first | assumption | omega) (by first | assumption | omega) (by first | assumption | omega) (by first | assumption | omega) (by first | assumption | omega)) kd_114 fc9 lk_RX10_315 rfl rfl ⟨by decide, by decide⟩ rfl (Nat.le_of_ble_eq_true rfl) dX10_back_172 (fun r172 M172 hc172 => ?_)
                            obtain ⟨hr172, hm172⟩ := hc172
                            subst r172
                            subst M172
                            refine g_goto (tgt := 180) X dX10_back_175 (by decide) ?_
                            refine g_istore_5 X dX10_back_180 rfl (fun v5_180 ev5_180 => ?_)
                            subst v5_180
                            refine g_iinc_6 X dX10_back_182 rfl (fun v6_182 ev6_182 => ?_)
                            subst v6_182
                            refine g_goto (tgt := 81) X dX10_back_185 (by decide) ?_
                            exact g_sub (ih_81 _ _ _ (by omega) (by omega) (by clear X hr hlk hQ ih_81; rw [w6.1]; first | (rw [← b2i_0 (q := bkP M y k) (by unfold bkP; omega)]; simp; exact ha) | (rw [← b2i_1 (q := bkP M y k) (by unfold bkP; omega)]; simp; grind)) (by clear X hr hlk hQ ih_81; rw [w6.2]; first | (rw [← b2i_0 (q := bkP M y k) (by unfold bkP; omega)]; simp; exact hb) | (rw [← b2i_1 (q := bkP M y k) (by unfold bkP; omega)]; simp; grind)) (by omega)) ⟨rfl, rfl, rfl, rfl, rfl, rfl, rfl, trivial⟩
                        · refine g_aload_n X dX10_back_142 rfl rfl ?_
                          refine g_iload_n X dX10_back_143 rfl rfl ?_
                          refine g_iload X dX10_back_144 rfl ?_
                          refine g_callVI X (c_X10_lowClass lL tT dD al _ _ _ (by first | assumption | omega) (by first | assumption | omega) (by first | assumption | omega) (by first | assumption | omega) (by first | assumption | omega)) kd_114 fc9 lk_RX10_312 rfl rfl ⟨by decide, by decide⟩ rfl (Nat.le_of_ble_eq_true rfl) dX10_back_146 (fun r146 M146 hc146 => ?_)
                          obtain ⟨hr146, hm146⟩ := hc146
                          subst r146
                          subst M146
                          refine g_goto (tgt := 154) X dX10_back_149 (by decide) ?_
                          refine g_istore_4 X dX10_back_154 rfl (fun v4_154 ev4_154 => ?_)
                          subst v4_154
                          refine g_aload_n X dX10_back_156 rfl rfl ?_
                          refine g_iload_n X dX10_back_157 rfl rfl ?_
                          refine g_iload X dX10_back_158 rfl ?_
                          refine g_callVI X (c_X10_highClass lL tT dD al _ _ _ hW (by omega) (by omega) hk (by omega)) kd_114 fc9 lk_RX10_315 rfl rfl ⟨by decide, by decide⟩ rfl (Nat.le_of_ble_eq_true rfl) dX10_back_160 (fun r160 M160 hc160 => ?_)
                          obtain ⟨hr160, hm160⟩ := hc160
                          subst r160
                          subst M160
                          refine g_iload X dX10_back_163 rfl ?_
                          refine g_icmp_ge (tgt := 178) X dX10_back_165 (by decide) ⟨by omega, by omega⟩ ⟨by omega, by omega⟩ (fun q165 => ?_) (fun q165 => ?_)
                          · refine g_iload X dX10_back_178 rfl ?_
                            refine g_istore_5 X dX10_back_180 rfl (fun v5_180 ev5_180 => ?_)
                            subst v5_180
                            refine g_iinc_6 X dX10_back_182 rfl (fun v6_182 ev6_182 => ?_)
                            subst v6_182
                            refine g_goto (tgt := 81) X dX10_back_185 (by decide) ?_
                            exact g_sub (ih_81 _ _ _ (by omega) (by omega) (by clear X hr hlk hQ ih_81; rw [w6.1]; first | (rw [← b2i_0 (q := bkP M y k) (by unfold bkP; omega)]; simp; exact ha) | (rw [← b2i_1 (q := bkP M y k) (by unfold bkP; omega)]; simp; grind)) (by clear X hr hlk hQ ih_81; rw [w6.2]; first | (rw [← b2i_0 (q := bkP M y k) (by unfold bkP; omega)]; simp; exact hb) | (rw [← b2i_1 (q := bkP M y k) (by unfold bkP; omega)]; simp; grind)) (by omega)) ⟨rfl, rfl, rfl, rfl, rfl, rfl, rfl, trivial⟩
                          · refine g_aload_n X dX10_back_168 rfl rfl ?_
                            refine g_iload_n X dX10_back_169 rfl rfl ?_
                            refine g_iload X dX10_back_170 rfl ?_
                            refine g_callVI X (c_X10_highClass lL tT dD al _ _ _ (by first | assumption | omega) (by first | assumption | omega) (by first | assumption | omega) (by first | assumption | omega) (by first | assumption | omega)) kd_114 fc9 lk_RX10_315 rfl rfl ⟨by decide, by decide⟩ rfl (Nat.le_of_ble_eq_true rfl) dX10_back_172 (fun r172 M172 hc172 => ?_)
                            obtain ⟨hr172, hm172⟩ := hc172
                            subst r172
                            subst M172
                            refine g_goto (tgt := 180) X dX10_back_175 (by decide) ?_
                            refine g_istore_5 X dX10_back_180 rfl (fun v5_180 ev5_180 => ?_)
                            subst v5_180
                            refine g_iinc_6 X dX10_back_182 rfl (fun v6_182 ev6_182 => ?_)
                            subst v6_182
                            refine g_goto (tgt := 81) X dX10_back_185 (by decide) ?_
                            exact g_sub (ih_81 _ _ _ (by omega) (by omega) (by clear X hr hlk hQ ih_81; rw [w6.1]; first | (rw [← b2i_0 (q := bkP M y k) (by unfold bkP; omega)]; simp; exact ha) | (rw [← b2i_1 (q := bkP M y k) (by unfold bkP; omega)]; simp; grind)) (by clear X hr hlk hQ ih_81; rw [w6.2]; first | (rw [← b2i_0 (q := bkP M y k) (by unfold bkP; omega)]; simp; exact hb) | (rw [← b2i_1 (q := bkP M y k) (by unfold bkP; omega)]; simp; grind)) (by omega)) ⟨rfl, rfl, rfl, rfl, rfl, rfl, rfl, trivial⟩
            exact g_sub (L_81 _ _ _ _ (by omega) (by omega) (by clear X hr hlk hQ L_81; rw [show (0 : Int).toNat = 0 from rfl, bkL]; grind) (by clear X hr hlk hQ L_81; rw [show (0 : Int).toNat = 0 from rfl, bkH]; grind) (Nat.lt_succ_self _)) ⟨rfl, rfl, rfl, rfl, rfl, rfl, rfl, trivial⟩
        · refine g_bipush X dX10_back_40 (by decide +kernel) ?_
          rw [hQ]
          refine g_iret X hr hlk dX10_back_42 ?_
          clear X hr hlk hQ
          first | (obtain rfl : k = M 114 23 := (by omega); exact ⟨by grind, rfl⟩) | exact ⟨by grind, rfl⟩
      · have q27 := b2i_f q27
        refine g_bipush X dX10_back_30 (by decide +kernel) ?_
        rw [hQ]
        refine g_iret X hr hlk dX10_back_32 ?_
        clear X hr hlk hQ
        first | (obtain rfl : k = M 114 23 := (by omega); exact ⟨by grind, rfl⟩) | exact ⟨by grind, rfl⟩
  · have q5 := b2i_f q5
    refine g_bipush X dX10_back_8 (by decide +kernel) ?_
    rw [hQ]
    refine g_iret X hr hlk dX10_back_10 ?_
    clear X hr hlk hQ
    first | (obtain rfl : k = M 114 23 := (by omega); exact ⟨by grind, rfl⟩) | exact ⟨by grind, rfl⟩
set_option maxRecDepth 100000 in
set_option maxHeartbeats 4000000 in
theorem c_X10_colour (lL : Launch) (tT : TT) (dD : va_G) (al : Int → Nat) (M : Mem) (q pt cl v : Int) (hW : WV M) (iq : i32 q) (ipt : i32 pt) (icl : i32 cl) (iv : i32 v) : CI lL yX10_colour cX10_colour 7 FieldType.int 2 46 tT dD al [.ref (al 114), .int (iN q), .int (iN pt), .int (iN cl), .int (iN v)] M (fun r M' => r = (if 0 ≤ q ∧ q < M 114 23 then (if (0 ≤ pt ∧ pt ≤ 3) ∧ (0 ≤ cl ∧ cl ≤ 2) ∧ (0 ≤ v ∧ v ≤ 99) then M 125 (12 * q + 3 * pt + cl) else -102) else -101) ∧ M' = (if (0 ≤ q ∧ q < M 114 23) ∧ (0 ≤ pt ∧ pt ≤ 3) ∧ (0 ≤ cl ∧ cl ≤ 2) ∧ (0 ≤ v ∧ v ≤ 99) then mu M 125 (12 * q + 3 * pt + cl) v else M)) := by
  refine CI.of (own := "RedSkiesModel") (ls0 := [some (.ref (al 114)), some (.int (iN q)), some (.int (iN pt)), some (.int (iN cl)), some (.int (iN v)), none, none]) (by decide +kernel) rfl (Nat.le_of_ble_eq_true rfl) rfl ?_
  intro pP eE sS mI aA bB mM cC X hr hlk
  obtain ⟨Q, hQ⟩ : ∃ Q : State → Prop, Q = MQ bB (QI tT dD al (fun r M' => r = (if 0 ≤ q ∧ q < M 114 23 then (if (0 ≤ pt ∧ pt ≤ 3) ∧ (0 ≤ cl ∧ cl ≤ 2) ∧ (0 ≤ v ∧ v ≤ 99) then M 125 (12 * q + 3 * pt + cl) else -102) else -101) ∧ M' = (if (0 ≤ q ∧ q < M 114 23) ∧ (0 ≤ pt ∧ pt ≤ 3) ∧ (0 ≤ cl ∧ cl ≤ 2) ∧ (0 ≤ v ∧ v ≤ 99) then mu M 125 (12 * q + 3 * pt + cl) v else M))) aA sS 0 0 (fA al) := ⟨_, rfl⟩
  rw [← hQ]
  have w2 := hW.n
  refine g_aload_n X dX10_colour_0 rfl rfl ?_
  refine g_iload_n X dX10_colour_1 rfl rfl ?_
  refine g_callVI X (c_X10_isPicture lL tT dD al _ _ iq ⟨by omega, by omega⟩) kd_114 fc9 lk_RX10_191 rfl rfl ⟨by decide, by decide⟩ rfl (Nat.le_of_ble_eq_true rfl) dX10_colour_2 (fun r2 M2 hc2 => ?_)
  obtain ⟨hr2, hm2⟩ := hc2
  subst r2
  subst M2
  refine g_if_ne (tgt := 11) X dX10_colour_5 (by decide) (b2i_i32 _) (fun q5 => ?_) (fun q5 => ?_)
  · have q5 := b2i_t q5
    refine g_iload_n X dX10_colour_11 rfl rfl ?_
    refine g_i2l X dX10_colour_12 ⟨by omega, by omega⟩ ?_
    refine g_lconst X (v := 0) dX10_colour_13 (by decide +kernel) ?_
    refine g_ldc2 X (n := 3) wd_1077 (by decide +kernel) dX10_colour_14 ?_
    refine g_callSI X (c_X10_in lL tT dD al _ _ _ _ ⟨by omega, by omega⟩ (by decide) (by decide)) lk_RX10_98 rfl rfl ⟨by decide, by decide⟩ rfl (Nat.le_of_ble_eq_true rfl) dX10_colour_17 (fun r17 M17 hc17 => ?_)
    obtain ⟨hr17, hm17⟩ := hc17
    subst r17
    subst M17
    refine g_if_eq (tgt := 48) X dX10_colour_20 (by decide) (b2i_i32 _) (fun q20 => ?_) (fun q20 => ?_)
    · have q20 := b2i_f q20
      refine g_bipush X dX10_colour_48 (by decide +kernel) ?_
      rw [hQ]
      refine g_iret X hr hlk dX10_colour_50 ?_
      clear X hr hlk hQ
      exact ⟨by grind, by grind⟩
    · have q20 := b2i_t q20
      refine g_iload_n X dX10_colour_23 rfl rfl ?_
      refine g_i2l X dX10_colour_24 ⟨by omega, by omega⟩ ?_
      refine g_lconst X (v := 0) dX10_colour_25 (by decide +kernel) ?_
      refine g_ldc2 X (n := 2) wd_1007 (by decide +kernel) dX10_colour_26 ?_
      refine g_callSI X (c_X10_in lL tT dD al _ _ _ _ ⟨by omega, by omega⟩ (by decide) (by decide)) lk_RX10_98 rfl rfl ⟨by decide, by decide⟩ rfl (Nat.le_of_ble_eq_true rfl) dX10_colour_29 (fun r29 M29 hc29 => ?_)
      obtain ⟨hr29, hm29⟩ := hc29
      subst r29
      subst M29
      refine g_if_eq (tgt := 48) X dX10_colour_32 (by decide) (b2i_i32 _) (fun q32 => ?_) (fun q32 => ?_)
      · have q32 := b2i_f q32
        refine g_bipush X dX10_colour_48 (by decide +kernel) ?_
        rw [hQ]
        refine g_iret X hr hlk dX10_colour_50 ?_
        clear X hr hlk hQ
        exact ⟨by grind, by grind⟩
      · have q32 := b2i_t q32
        refine g_iload X dX10_colour_35 rfl ?_
        refine g_i2l X dX10_colour_37 ⟨by omega, by omega⟩ ?_
        refine g_lconst X (v := 0) dX10_colour_38 (by decide +kernel) ?_
        refine g_ldc2 X (n := 99) wd_1078 (by decide +kernel) dX10_colour_39 ?_
        refine g_callSI X (c_X10_in lL tT dD al _ _ _ _ ⟨by omega, by omega⟩ (by decide) (by decide)) lk_RX10_98 rfl rfl ⟨by decide, by decide⟩ rfl (Nat.le_of_ble_eq_true rfl) dX10_colour_42 (fun r42 M42 hc42 => ?_)
        obtain ⟨hr42, hm42⟩ := hc42
        subst r42
        subst M42
        refine g_if_ne (tgt := 51) X dX10_colour_45 (by decide) (b2i_i32 _) (fun q45 => ?_) (fun q45 => ?_)
        · have q45 := b2i_t q45
          refine g_bipush X dX10_colour_51 (by decide +kernel) ?_
          refine g_iload_n X dX10_colour_53 rfl rfl ?_
          refine g_imul X dX10_colour_54 ?_
          refine g_iconst X dX10_colour_55 ?_
          refine g_iload_n X dX10_colour_56 rfl rfl ?_
          refine g_imul X dX10_colour_57 ?_
          refine g_iadd X dX10_colour_58 ?_
          refine g_iload_n X dX10_colour_59 rfl rfl ?_
          refine g_iadd X dX10_colour_60 ?_
          refine g_istore_5 X dX10_colour_61 rfl (fun v5_61 ev5_61 => ?_)
          subst v5_61
          refine g_aload_n X dX10_colour_63 rfl rfl ?_
          refine g_getr (r := 125) X kd_114 fc9 (k := 25) (by decide) rfl wd_852 rfl (by decide) dX10_colour_64 ?_
          refine g_iload X dX10_colour_67 rfl ?_
          refine g_iald X kd_125 (by omega) (by omega) dX10_colour_69 ?_
          refine g_istore_6 X dX10_colour_70 rfl (fun v6_70 ev6_70 => ?_)
          subst v6_70
          refine g_aload_n X dX10_colour_72 rfl rfl ?_
          refine g_getr (r := 125) X kd_114 fc9 (k := 25) (by decide) rfl wd_852 rfl (by decide) dX10_colour_73 ?_
          refine g_iload X dX10_colour_76 rfl ?_
          refine g_iload X dX10_colour_78 rfl ?_
          refine g_iast X kd_125 (by omega) (by omega) dX10_colour_80 ?_
          refine g_iload X dX10_colour_81 rfl ?_
          rw [hQ]
          refine g_iret X hr hlk dX10_colour_83 ?_
          clear X hr hlk hQ
          exact ⟨by grind, by grind⟩
        · have q45 := b2i_f q45
          refine g_bipush X dX10_colour_48 (by decide +kernel) ?_
          rw [hQ]
          refine g_iret X hr hlk dX10_colour_50 ?_
          clear X hr hlk hQ
          exact ⟨by grind, by grind⟩
  · have q5 := b2i_f q5
    refine g_bipush X dX10_colour_8 (by decide +kernel) ?_
    rw [hQ]
    refine g_iret X hr hlk dX10_colour_10 ?_
    clear X hr hlk hQ
    exact ⟨by grind, by grind⟩
set_option maxRecDepth 100000 in
set_option maxHeartbeats 4000000 in
theorem c_X10_pigment (lL : Launch) (tT : TT) (dD : va_G) (al : Int → Nat) (M : Mem) (a b : Int) (hp : 0 ≤ M 114 20 ∧ M 114 20 ≤ 4) (ia : i32 a) (ib : i32 b) : CI lL yX10_pigment cX10_pigment 3 FieldType.int 1 25 tT dD al [.ref (al 114), .int (iN a), .int (iN b)] M (fun r M' => r = (if (0 ≤ a ∧ a ≤ 400) ∧ (0 ≤ b ∧ b ≤ 9) then (if M 114 20 = 4 then -104 else M 114 20) else -102) ∧ M' = (if ((0 ≤ a ∧ a ≤ 400) ∧ (0 ≤ b ∧ b ≤ 9)) ∧ M 114 20 ≠ 4 then mu (mu (mu M 122 (M 114 20) a) 123 (M 114 20) b) 114 20 (M 114 20 + 1) else M)) := by
  refine CI.of (own := "RedSkiesModel") (ls0 := [some (.ref (al 114)), some (.int (iN a)), some (.int (iN b))]) (by decide +kernel) rfl (Nat.le_of_ble_eq_true rfl) rfl ?_
  intro pP eE sS mI aA bB mM cC X hr hlk
  obtain ⟨Q, hQ⟩ : ∃ Q : State → Prop, Q = MQ bB (QI tT dD al (fun r M' => r = (if (0 ≤ a ∧ a ≤ 400) ∧ (0 ≤ b ∧ b ≤ 9) then (if M 114 20 = 4 then -104 else M 114 20) else -102) ∧ M' = (if ((0 ≤ a ∧ a ≤ 400) ∧ (0 ≤ b ∧ b ≤ 9)) ∧ M 114 20 ≠ 4 then mu (mu (mu M 122 (M 114 20) a) 123 (M 114 20) b) 114 20 (M 114 20 + 1) else M))) aA sS 0 0 (fA al) := ⟨_, rfl⟩
  rw [← hQ]
  refine g_iload_n X dX10_pigment_0 rfl rfl ?_
  refine g_i2l X dX10_pigment_1 ⟨by omega, by omega⟩ ?_
  refine g_lconst X (v := 0) dX10_pigment_2 (by decide +kernel) ?_
  refine g_ldc2 X (n := 400) wd_1056 (by decide +kernel) dX10_pigment_3 ?_
  refine g_callSI X (c_X10_in lL tT dD al _ _ _ _ ⟨by omega, by omega⟩ (by decide) (by decide)) lk_RX10_98 rfl rfl ⟨by decide, by decide⟩ rfl (Nat.le_of_ble_eq_true rfl) dX10_pigment_6 (fun r6 M6 hc6 => ?_)
  obtain ⟨hr6, hm6⟩ := hc6
  subst r6
  subst M6
  refine g_if_eq (tgt := 24) X dX10_pigment_9 (by decide) (b2i_i32 _) (fun q9 => ?_) (fun q9 => ?_)
  · have q9 := b2i_f q9
    refine g_bipush X dX10_pigment_24 (by decide +kernel) ?_
    rw [hQ]
    refine g_iret X hr hlk dX10_pigment_26 ?_
    clear X hr hlk hQ
    exact ⟨by grind, by grind⟩
  · have q9 := b2i_t q9
    refine g_iload_n X dX10_pigment_12 rfl rfl ?_
    refine g_i2l X dX10_pigment_13 ⟨by omega, by omega⟩ ?_
    refine g_lconst X (v := 0) dX10_pigment_14 (by decide +kernel) ?_
    refine g_ldc2 X (n := 9) wd_1057 (by decide +kernel) dX10_pigment_15 ?_
    refine g_callSI X (c_X10_in lL tT dD al _ _ _ _ ⟨by omega, by omega⟩ (by decide) (by decide)) lk_RX10_98 rfl rfl ⟨by decide, by decide⟩ rfl (Nat.le_of_ble_eq_true rfl) dX10_pigment_18 (fun r18 M18 hc18 => ?_)
    obtain ⟨hr18, hm18⟩ := hc18
    subst r18
    subst M18
    refine g_if_ne (tgt := 27) X dX10_pigment_21 (by decide) (b2i_i32 _) (fun q21 => ?_) (fun q21 => ?_)
    · have q21 := b2i_t q21
      refine g_aload_n X dX10_pigment_27 rfl rfl ?_
      refine g_geti (kz := 20) X kd_114 fc9 (k := 20) (by decide) rfl wd_847 rfl dX10_pigment_28 ?_
      refine g_iconst X dX10_pigment_31 ?_
      refine g_icmp_ne (tgt := 38) X dX10_pigment_32 (by decide) ⟨by omega, by omega⟩ (by decide) (fun q32 => ?_) (fun q32 => ?_)
      · refine g_aload_n X dX10_pigment_38 rfl rfl ?_
        refine g_getr (r := 122) X kd_114 fc9 (k := 21) (by decide) rfl wd_848 rfl (by decide) dX10_pigment_39 ?_
        refine g_aload_n X dX10_pigment_42 rfl rfl ?_
        refine g_geti (kz := 20) X kd_114 fc9 (k := 20) (by decide) rfl wd_847 rfl dX10_pigment_43 ?_
        refine g_iload_n X dX10_pigment_46 rfl rfl ?_
        refine g_iast X kd_122 (by omega) (by omega) dX10_pigment_47 ?_
        refine g_aload_n X dX10_pigment_48 rfl rfl ?_
        refine g_getr (r := 123) X kd_114 fc9 (k := 22) (by decide) rfl wd_849 rfl (by decide) dX10_pigment_49 ?_
        refine g_aload_n X dX10_pigment_52 rfl rfl ?_
        refine g_geti (kz := 20) X kd_114 fc9 (k := 20) (by decide) rfl wd_847 rfl dX10_pigment_53 ?_
        refine g_teq (b := (M 114 20)) (by first | (simp [mu]; done) | (simp only [mu]; repeat (first | rw [if_pos (⟨rfl, rfl⟩)] | rw [if_neg (by omega)]))) ?_
        refine g_iload_n X dX10_pigment_56 rfl rfl ?_
        refine g_iast X kd_123 (by omega) (by omega) dX10_pigment_57 ?_
        refine g_aload_n X dX10_pigment_58 rfl rfl ?_
        refine g_dup X dX10_pigment_59 rfl ?_
        refine g_geti (kz := 20) X kd_114 fc9 (k := 20) (by decide) rfl wd_847 rfl dX10_pigment_60 ?_
        refine g_teq (b := (M 114 20)) (by first | (simp [mu]; done) | (simp only [mu]; repeat (first | rw [if_pos (⟨rfl, rfl⟩)] | rw [if_neg (by omega)]))) ?_
        refine g_iconst X dX10_pigment_63 ?_
        refine g_iadd X dX10_pigment_64 ?_
        refine g_puti (kz := 20) X kd_114 fc9 (k := 20) (by decide) rfl wd_847 rfl rfl rfl dX10_pigment_65 ?_
        refine g_aload_n X dX10_pigment_68 rfl rfl ?_
        refine g_geti (kz := 20) X kd_114 fc9 (k := 20) (by decide) rfl wd_847 rfl dX10_pigment_69 ?_
        refine g_teq (b := ((M 114 20) + 1)) (by first | (simp [mu]; done) | (simp only [mu]; repeat (first | rw [if_pos (⟨rfl, rfl⟩)] | rw [if_neg (by omega)]))) ?_
        refine g_iconst X dX10_pigment_72 ?_
        refine g_isub X dX10_pigment_73 ?_
        rw [hQ]
        refine g_iret X hr hlk dX10_pigment_74 ?_
        clear X hr hlk hQ
        exact ⟨by grind, by grind⟩
      · refine g_bipush X dX10_pigment_35 (by decide +kernel) ?_
        rw [hQ]
        refine g_iret X hr hlk dX10_pigment_37 ?_
        clear X hr hlk hQ
        exact ⟨by grind, by grind⟩
    · have q21 := b2i_f q21
      refine g_bipush X dX10_pigment_24 (by decide +kernel) ?_
      rw [hQ]
      refine g_iret X hr hlk dX10_pigment_26 ?_
      clear X hr hlk hQ
      exact ⟨by grind, by grind⟩
set_option maxRecDepth 100000 in
set_option maxHeartbeats 4000000 in
theorem c_X10_mountain (lL : Launch) (tT : TT) (dD : va_G) (al : Int → Nat) (M : Mem) (a : Int) (hp : 0 ≤ M 114 26 ∧ M 114 26 ≤ 6) (ia : i32 a) : CI lL yX10_mountain cX10_mountain 2 FieldType.int 1 25 tT dD al [.ref (al 114), .int (iN a)] M (fun r M' => r = (if 0 ≤ a ∧ a ≤ 400 then (if M 114 26 = 6 then -104 else M 114 26) else -102) ∧ M' = (if (0 ≤ a ∧ a ≤ 400) ∧ M 114 26 ≠ 6 then mu (mu M 126 (M 114 26) a) 114 26 (M 114 26 + 1) else M)) := by
  refine CI.of (own := "RedSkiesModel") (ls0 := [some (.ref (al 114)), some (.int (iN a))]) (by decide +kernel) rfl (Nat.le_of_ble_eq_true rfl) rfl ?_
  intro pP eE sS mI aA bB mM cC X hr hlk
  obtain ⟨Q, hQ⟩ : ∃ Q : State → Prop, Q = MQ bB (QI tT dD al (fun r M' => r = (if 0 ≤ a ∧ a ≤ 400 then (if M 114 26 = 6 then -104 else M 114 26) else -102) ∧ M' = (if (0 ≤ a ∧ a ≤ 400) ∧ M 114 26 ≠ 6 then mu (mu M 126 (M 114 26) a) 114 26 (M 114 26 + 1) else M))) aA sS 0 0 (fA al) := ⟨_, rfl⟩
  rw [← hQ]
  refine g_iload_n X dX10_mountain_0 rfl rfl ?_
  refine g_i2l X dX10_mountain_1 ⟨by omega, by omega⟩ ?_
  refine g_lconst X (v := 0) dX10_mountain_2 (by decide +kernel) ?_
  refine g_ldc2 X (n := 400) wd_1056 (by decide +kernel) dX10_mountain_3 ?_
  refine g_callSI X (c_X10_in lL tT dD al _ _ _ _ ⟨by omega, by omega⟩ (by decide) (by decide)) lk_RX10_98 rfl rfl ⟨by decide, by decide⟩ rfl (Nat.le_of_ble_eq_true rfl) dX10_mountain_6 (fun r6 M6 hc6 => ?_)
  obtain ⟨hr6, hm6⟩ := hc6
  subst r6
  subst M6
  refine g_if_ne (tgt := 15) X dX10_mountain_9 (by decide) (b2i_i32 _) (fun q9 => ?_) (fun q9 => ?_)
  · have q9 := b2i_t q9
    refine g_aload_n X dX10_mountain_15 rfl rfl ?_
    refine g_geti (kz := 26) X kd_114 fc9 (k := 26) (by decide) rfl wd_853 rfl dX10_mountain_16 ?_
    refine g_bipush X dX10_mountain_19 (by decide +kernel) ?_
    refine g_icmp_ne (tgt := 27) X dX10_mountain_21 (by decide) ⟨by omega, by omega⟩ (by decide) (fun q21 => ?_) (fun q21 => ?_)
    · refine g_aload_n X dX10_mountain_27 rfl rfl ?_
      refine g_getr (r := 126) X kd_114 fc9 (k := 27) (by decide) rfl wd_854 rfl (by decide) dX10_mountain_28 ?_
      refine g_aload_n X dX10_mountain_31 rfl rfl ?_
      refine g_geti (kz := 26) X kd_114 fc9 (k := 26) (by decide) rfl wd_853 rfl dX10_mountain_32 ?_
      refine g_iload_n X dX10_mountain_35 rfl rfl ?_
      refine g_iast X kd_126 (by omega) (by omega) dX10_mountain_36 ?_
      refine g_aload_n X dX10_mountain_37 rfl rfl ?_
      refine g_dup X dX10_mountain_38 rfl ?_
      refine g_geti (kz := 26) X kd_114 fc9 (k := 26) (by decide) rfl wd_853 rfl dX10_mountain_39 ?_
      refine g_teq (b := (M 114 26)) (by first | (simp [mu]; done) | (simp only [mu]; repeat (first | rw [if_pos (⟨rfl, rfl⟩)] | rw [if_neg (by omega)]))) ?_
      refine g_iconst X dX10_mountain_42 ?_
      refine g_iadd X dX10_mountain_43 ?_
      refine g_puti (kz := 26) X kd_114 fc9 (k := 26) (by decide) rfl wd_853 rfl rfl rfl dX10_mountain_44 ?_
      refine g_aload_n X dX10_mountain_47 rfl rfl ?_
      refine g_geti (kz := 26) X kd_114 fc9 (k := 26) (by decide) rfl wd_853 rfl dX10_mountain_48 ?_
      refine g_teq (b := ((M 114 26) + 1)) (by first | (simp [mu]; done) | (simp only [mu]; repeat (first | rw [if_pos (⟨rfl, rfl⟩)] | rw [if_neg (by omega)]))) ?_
      refine g_iconst X dX10_mountain_51 ?_
      refine g_isub X dX10_mountain_52 ?_
      rw [hQ]
      refine g_iret X hr hlk dX10_mountain_53 ?_
      clear X hr hlk hQ
      exact ⟨by grind, by grind⟩
    · refine g_bipush X dX10_mountain_24 (by decide +kernel) ?_
      rw [hQ]
      refine g_iret X hr hlk dX10_mountain_26 ?_
      clear X hr hlk hQ
      exact ⟨by grind, by grind⟩
  · have q9 := b2i_f q9
    refine g_bipush X dX10_mountain_12 (by decide +kernel) ?_
    rw [hQ]
    refine g_iret X hr hlk dX10_mountain_14 ?_
    clear X hr hlk hQ
    exact ⟨by grind, by grind⟩
set_option maxRecDepth 100000 in
set_option maxHeartbeats 4000000 in
theorem c_X10_add (lL : Launch) (tT : TT) (dD : va_G) (al : Int → Nat) (M : Mem) (kind hand year span lamp pig : Int) (hn : 0 ≤ M 114 23 ∧ M 114 23 < 16) (hkind : i32 kind) : CV lL yX10_add cX10_add 9 0 0 tT dD al [.ref (al 114), .int (iN kind), .int (iN hand), .int (iN year), .int (iN span), .int (iN lamp), .int (iN pig)] M (fun M' => M' = addM M kind hand year span lamp pig) := by
  refine CV.of (own := "RedSkiesModel") (ls0 := [some (.ref (al 114)), some (.int (iN kind)), some (.int (iN hand)), some (.int (iN year)), some (.int (iN span)), some (.int (iN lamp)), some (.int (iN pig)), none, none]) (by decide +kernel) rfl (Nat.le_of_ble_eq_true rfl) rfl ?_
  intro pP eE sS mI aA bB mM cC X hr hlk
  obtain ⟨Q, hQ⟩ : ∃ Q : State → Prop, Q = MQ bB (QV tT dD al (fun M' => M' = addM M kind hand year span lamp pig)) aA sS 0 0 (fA al) := ⟨_, rfl⟩
  rw [← hQ]
  refine g_bipush X dX10_add_0 (by decide +kernel) ?_
  refine g_aload_n X dX10_add_2 rfl rfl ?_
  refine g_geti (kz := 23) X kd_114 fc9 (k := 23) (by decide) rfl wd_850 rfl dX10_add_3 ?_
  refine g_imul X dX10_add_6 ?_
  refine g_istore_7 X dX10_add_7 rfl (fun v7_7 ev7_7 => ?_)
  subst v7_7
  refine g_aload_n X dX10_add_9 rfl rfl ?_
  refine g_getr (r := 124) X kd_114 fc9 (k := 24) (by decide) rfl wd_851 rfl (by decide) dX10_add_10 ?_
  refine g_iload X dX10_add_13 rfl ?_
  refine g_iload_n X dX10_add_15 rfl rfl ?_
  refine g_iast X kd_124 (by omega) (by omega) dX10_add_16 ?_
  refine g_aload_n X dX10_add_17 rfl rfl ?_
  refine g_getr (r := 124) X kd_114 fc9 (k := 24) (by decide) rfl wd_851 rfl (by decide) dX10_add_18 ?_
  refine g_iload X dX10_add_21 rfl ?_
  refine g_iconst X dX10_add_23 ?_
  refine g_iadd X dX10_add_24 ?_
  refine g_iload_n X dX10_add_25 rfl rfl ?_
  refine g_iast X kd_124 (by omega) (by omega) dX10_add_26 ?_
  refine g_aload_n X dX10_add_27 rfl rfl ?_
  refine g_getr (r := 124) X kd_114 fc9 (k := 24) (by decide) rfl wd_851 rfl (by decide) dX10_add_28 ?_
  refine g_iload X dX10_add_31 rfl ?_
  refine g_iconst X dX10_add_33 ?_
  refine g_iadd X dX10_add_34 ?_
  refine g_iload_n X dX10_add_35 rfl rfl ?_
  refine g_iast X kd_124 (by omega) (by omega) dX10_add_36 ?_
  refine g_aload_n X dX10_add_37 rfl rfl ?_
  refine g_getr (r := 124) X kd_114 fc9 (k := 24) (by decide) rfl wd_851 rfl (by decide) dX10_add_38 ?_
  refine g_iload X dX10_add_41 rfl ?_
  refine g_iconst X dX10_add_43 ?_
  refine g_iadd X dX10_add_44 ?_
  refine g_iload_n X dX10_add_45 rfl rfl ?_
  refine g_iconst X dX10_add_46 ?_
  refine g_icmp_eq (tgt := 55) X dX10_add_47 (by decide) ⟨by omega, by omega⟩ (by decide) (fun q47 => ?_) (fun q47 => ?_)
  · refine g_iconst X dX10_add_55 ?_
    refine g_goto (tgt := 61) X dX10_add_56 (by decide) ?_
    refine g_iast X kd_124 (by omega) (by omega) dX10_add_61 ?_
    refine g_aload_n X dX10_add_62 rfl rfl ?_
    refine g_getr (r := 124) X kd_114 fc9 (k := 24) (by decide) rfl wd_851 rfl (by decide) dX10_add_63 ?_
    refine g_iload X dX10_add_66 rfl ?_
    refine g_iconst X dX10_add_68 ?_
    refine g_iadd X dX10_add_69 ?_
    refine g_iload X dX10_add_70 rfl ?_
    refine g_iast X kd_124 (by omega) (by omega) dX10_add_72 ?_
    refine g_aload_n X dX10_add_73 rfl rfl ?_
    refine g_getr (r := 124) X kd_114 fc9 (k := 24) (by decide) rfl wd_851 rfl (by decide) dX10_add_74 ?_
    refine g_iload X dX10_add_77 rfl ?_
    refine g_iconst X dX10_add_79 ?_
    refine g_iadd X dX10_add_80 ?_
    refine g_iload X dX10_add_81 rfl ?_
    refine g_iast X kd_124 (by omega) (by omega) dX10_add_83 ?_
    refine g_iconst X dX10_add_84 ?_
    refine g_istore_8 X dX10_add_85 rfl (fun v8_85 ev8_85 => ?_)
    subst v8_85
    have L_87 : ∀ (n : Nat) (k : Int) (M1 : Mem), (0 ≤ k) → (k ≤ 12) → (M1 = addL M kind hand year span lamp pig k) → (12 - k).toNat < n → Gd pP lL eE (rmN 0 0) sS mI aA bB mM cC 0 0 Q tT dD al (fA al) 87 [some (.ref (al 114)), none, none, none, none, none, none, none, some (.int (iN k))] [] M1 := by
      intro n
      induction n with
      | zero => intro k M1 hk hk2 hM hm; exact absurd hm (Nat.not_lt_zero _)
      | succ n ih =>
        intro k M1 hk hk2 hM hm
        have r1 : M1 114 23 = M 114 23 := by rw [hM]; simp [addL]
        have ih_87 := ih
        clear ih
        refine g_iload X dX10_add_87 rfl ?_
        refine g_bipush X dX10_add_89 (by decide +kernel) ?_
        refine g_icmp_ge (tgt := 116) X dX10_add_91 (by decide) ⟨by omega, by omega⟩ (by decide) (fun q91 => ?_) (fun q91 => ?_)
        · refine g_aload_n X dX10_add_116 rfl rfl ?_
          refine g_dup X dX10_add_117 rfl ?_
          refine g_geti (kz := 23) X kd_114 fc9 (k := 23) (by decide) rfl wd_850 rfl dX10_add_118 ?_
          refine g_iconst X dX10_add_121 ?_
          refine g_iadd X dX10_add_122 ?_
          refine g_puti (kz := 23) X kd_114 fc9 (k := 23) (by decide) rfl wd_850 rfl rfl rfl dX10_add_123 ?_
          rw [hQ]
          refine g_vret X hr hlk dX10_add_126 ?_
          obtain rfl : k = 12 := by omega
          unfold addM
          rw [hM]
          simp [addL]
        · refine g_aload_n X dX10_add_94 rfl rfl ?_
          refine g_getr (r := 125) X kd_114 fc9 (k := 25) (by decide) rfl wd_852 rfl (by decide) dX10_add_95 ?_
          refine g_bipush X dX10_add_98 (by decide +kernel) ?_
          refine g_aload_n X dX10_add_100 rfl rfl ?_
          refine g_geti (kz := 23) X kd_114 fc9 (k := 23) (by decide) rfl wd_850 rfl dX10_add_101 ?_
          refine g_imul X dX10_add_104 ?_
          refine g_iload X dX10_add_105 rfl ?_
          refine g_iadd X dX10_add_107 ?_
          refine g_iconst X dX10_add_108 ?_
          refine g_iast X kd_125 (by omega) (by omega) dX10_add_109 ?_
          refine g_iinc_8 X dX10_add_110 trivial (fun v8_110 ev8_110 => ?_)
          subst v8_110
          refine g_goto (tgt := 87) X dX10_add_113 (by decide) ?_
          exact g_sub (ih_87 _ _ (by omega) (by omega) (by clear X hr hlk hQ ih_87; rw [hM]; funext o j; simp only [mu, addL]; grind) (by omega)) ⟨rfl, rfl, trivial⟩
    exact g_sub (L_87 _ _ _ (by omega) (by omega) (by clear X hr hlk hQ L_87; funext o j; simp only [mu, addL]; grind) (Nat.lt_succ_self _)) ⟨rfl, rfl, trivial⟩
  · refine g_iload_n X dX10_add_50 rfl rfl ?_
    refine g_iconst X dX10_add_51 ?_
    refine g_icmp_ne (tgt := 59) X dX10_add_52 (by decide) ⟨by omega, by omega⟩ (by decide) (fun q52 => ?_) (fun q52 => ?_)
    · refine g_iload X dX10_add_59 rfl ?_
      refine g_iast X kd_124 (by omega) (by omega) dX10_add_61 ?_
      refine g_aload_n X dX10_add_62 rfl rfl ?_
      refine g_getr (r := 124) X kd_114 fc9 (k := 24) (by decide) rfl wd_851 rfl (by decide) dX10_add_63 ?_
      refine g_iload X dX10_add_66 rfl ?_
      refine g_iconst X dX10_add_68 ?_
      refine g_iadd X dX10_add_69 ?_
      refine g_iload X dX10_add_70 rfl ?_
      refine g_iast X kd_124 (by omega) (by omega) dX10_add_72 ?_
      refine g_aload_n X dX10_add_73 rfl rfl ?_
      refine g_getr (r := 124) X kd_114 fc9 (k := 24) (by decide) rfl wd_851 rfl (by decide) dX10_add_74 ?_
      refine g_iload X dX10_add_77 rfl ?_
      refine g_iconst X dX10_add_79 ?_
      refine g_iadd X dX10_add_80 ?_
      refine g_iload X dX10_add_81 rfl ?_
      refine g_iast X kd_124 (by omega) (by omega) dX10_add_83 ?_
      refine g_iconst X dX10_add_84 ?_
      refine g_istore_8 X dX10_add_85 rfl (fun v8_85 ev8_85 => ?_)
      subst v8_85
      have L_87 : ∀ (n : Nat) (k : Int) (M1 : Mem), (0 ≤ k) → (k ≤ 12) → (M1 = addL M kind hand year span lamp pig k) → (12 - k).toNat < n → Gd pP lL eE (rmN 0 0) sS mI aA bB mM cC 0 0 Q tT dD al (fA al) 87 [some (.ref (al 114)), none, none, none, none, none, none, none, some (.int (iN k))] [] M1 := by
        intro n
        induction n with
        | zero => intro k M1 hk hk2 hM hm; exact absurd hm (Nat.not_lt_zero _)
        | succ n ih =>
          intro k M1 hk hk2 hM hm
          have r1 : M1 114 23 = M 114 23 := by rw [hM]; simp [addL]
          have ih_87 := ih
          clear ih
          refine g_iload X dX10_add_87 rfl ?_
          refine g_bipush X dX10_add_89 (by decide +kernel) ?_
          refine g_icmp_ge (tgt := 116) X dX10_add_91 (by decide) ⟨by omega, by omega⟩ (by decide) (fun q91 => ?_) (fun q91 => ?_)
          · refine g_aload_n X dX10_add_116 rfl rfl ?_
            refine g_dup X dX10_add_117 rfl ?_
            refine g_geti (kz := 23) X kd_114 fc9 (k := 23) (by decide) rfl wd_850 rfl dX10_add_118 ?_
            refine g_iconst X dX10_add_121 ?_
            refine g_iadd X dX10_add_122 ?_
            refine g_puti (kz := 23) X kd_114 fc9 (k := 23) (by decide) rfl wd_850 rfl rfl rfl dX10_add_123 ?_
            rw [hQ]
            refine g_vret X hr hlk dX10_add_126 ?_
            obtain rfl : k = 12 := by omega
            unfold addM
            rw [hM]
            simp [addL]
          · refine g_aload_n X dX10_add_94 rfl rfl ?_
            refine g_getr (r := 125) X kd_114 fc9 (k := 25) (by decide) rfl wd_852 rfl (by decide) dX10_add_95 ?_
            refine g_bipush X dX10_add_98 (by decide +kernel) ?_
            refine g_aload_n X dX10_add_100 rfl rfl ?_
            refine g_geti (kz := 23) X kd_114 fc9 (k := 23) (by decide) rfl wd_850 rfl dX10_add_101 ?_
            refine g_imul X dX10_add_104 ?_
            refine g_iload X dX10_add_105 rfl ?_
            refine g_iadd X dX10_add_107 ?_
            refine g_iconst X dX10_add_108 ?_
            refine g_iast X kd_125 (by omega) (by omega) dX10_add_109 ?_
            refine g_iinc_8 X dX10_add_110 trivial (fun v8_110 ev8_110 => ?_)
            subst v8_110
            refine g_goto (tgt := 87) X dX10_add_113 (by decide) ?_
            exact g_sub (ih_87 _ _ (by omega) (by omega) (by clear X hr hlk hQ ih_87; rw [hM]; funext o j; simp only [mu, addL]; grind) (by omega)) ⟨rfl, rfl, trivial⟩
      exact g_sub (L_87 _ _ _ (by omega) (by omega) (by clear X hr hlk hQ L_87; funext o j; simp only [mu, addL]; grind) (Nat.lt_succ_self _)) ⟨rfl, rfl, trivial⟩
    · refine g_iconst X dX10_add_55 ?_
      refine g_goto (tgt := 61) X dX10_add_56 (by decide) ?_
      refine g_iast X kd_124 (by omega) (by omega) dX10_add_61 ?_
      refine g_aload_n X dX10_add_62 rfl rfl ?_
      refine g_getr (r := 124) X kd_114 fc9 (k := 24) (by decide) rfl wd_851 rfl (by decide) dX10_add_63 ?_
      refine g_iload X dX10_add_66 rfl ?_
      refine g_iconst X dX10_add_68 ?_
      refine g_iadd X dX10_add_69 ?_
      refine g_iload X dX10_add_70 rfl ?_
      refine g_iast X kd_124 (by omega) (by omega) dX10_add_72 ?_
      refine g_aload_n X dX10_add_73 rfl rfl ?_
      refine g_getr (r := 124) X kd_114 fc9 (k := 24) (by decide) rfl wd_851 rfl (by decide) dX10_add_74 ?_
      refine g_iload X dX10_add_77 rfl ?_
      refine g_iconst X dX10_add_79 ?_
      refine g_iadd X dX10_add_80 ?_
      refine g_iload X dX10_add_81 rfl ?_
      refine g_iast X kd_124 (by omega) (by omega) dX10_add_83 ?_
      refine g_iconst X dX10_add_84 ?_
      refine g_istore_8 X dX10_add_85 rfl (fun v8_85 ev8_85 => ?_)
      subst v8_85
      have L_87 : ∀ (n : Nat) (k : Int) (M1 : Mem), (0 ≤ k) → (k ≤ 12) → (M1 = addL M kind hand year span lamp pig k) → (12 - k).toNat < n → Gd pP lL eE (rmN 0 0) sS mI aA bB mM cC 0 0 Q tT dD al (fA al) 87 [some (.ref (al 114)), none, none, none, none, none, none, none, some (.int (iN k))] [] M1 := by
        intro n
        induction n with
        | zero => intro k M1 hk hk2 hM hm; exact absurd hm (Nat.not_lt_zero _)
        | succ n ih =>
          intro k M1 hk hk2 hM hm
          have r1 : M1 114 23 = M 114 23 := by rw [hM]; simp [addL]
          have ih_87 := ih
          clear ih
          refine g_iload X dX10_add_87 rfl ?_
          refine g_bipush X dX10_add_89 (by decide +kernel) ?_
          refine g_icmp_ge (tgt := 116) X dX10_add_91 (by decide) ⟨by omega, by omega⟩ (by decide) (fun q91 => ?_) (fun q91 => ?_)
          · refine g_aload_n X dX10_add_116 rfl rfl ?_
            refine g_dup X dX10_add_117 rfl ?_
            refine g_geti (kz := 23) X kd_114 fc9 (k := 23) (by decide) rfl wd_850 rfl dX10_add_118 ?_
            refine g_iconst X dX10_add_121 ?_
            refine g_iadd X dX10_add_122 ?_
            refine g_puti (kz := 23) X kd_114 fc9 (k := 23) (by decide) rfl wd_850 rfl rfl rfl dX10_add_123 ?_
            rw [hQ]
            refine g_vret X hr hlk dX10_add_126 ?_
            obtain rfl : k = 12 := by omega
            unfold addM
            rw [hM]
            simp [addL]
          · refine g_aload_n X dX10_add_94 rfl rfl ?_
            refine g_getr (r := 125) X kd_114 fc9 (k := 25) (by decide) rfl wd_852 rfl (by decide) dX10_add_95 ?_
            refine g_bipush X dX10_add_98 (by decide +kernel) ?_
            refine g_aload_n X dX10_add_100 rfl rfl ?_
            refine g_geti (kz := 23) X kd_114 fc9 (k := 23) (by decide) rfl wd_850 rfl dX10_add_101 ?_
            refine g_imul X dX10_add_104 ?_
            refine g_iload X dX10_add_105 rfl ?_
            refine g_iadd X dX10_add_107 ?_
            refine g_iconst X dX10_add_108 ?_
            refine g_iast X kd_125 (by omega) (by omega) dX10_add_109 ?_
            refine g_iinc_8 X dX10_add_110 trivial (fun v8_110 ev8_110 => ?_)
            subst v8_110
            refine g_goto (tgt := 87) X dX10_add_113 (by decide) ?_
            exact g_sub (ih_87 _ _ (by omega) (by omega) (by clear X hr hlk hQ ih_87; rw [hM]; funext o j; simp only [mu, addL]; grind) (by omega)) ⟨rfl, rfl, trivial⟩
      exact g_sub (L_87 _ _ _ (by omega) (by omega) (by clear X hr hlk hQ L_87; funext o j; simp only [mu, addL]; grind) (Nat.lt_succ_self _)) ⟨rfl, rfl, trivial⟩
set_option maxRecDepth 100000 in
set_option maxHeartbeats 4000000 in
theorem c_X10_picture (lL : Launch) (tT : TT) (dD : va_G) (al : Int → Nat) (M : Mem) (kind hand year span lamp pig : Int) (hW : WV M) (ikind : i32 kind) (ihand : i32 hand) (iyear : i32 year) (ispan : i32 span) (ilamp : i32 lamp) (ipig : i32 pig) : CI lL yX10_picture cX10_picture 7 FieldType.int 1 28 tT dD al [.ref (al 114), .int (iN kind), .int (iN hand), .int (iN year), .int (iN span), .int (iN lamp), .int (iN pig)] M (fun r M' => r = (if b2i (picRng kind hand year span) = 1 then (if b2i (picUnk M lamp pig) = 1 then (if M 114 23 = 16 then -104 else M 114 23) else -101) else -102) ∧ M' = (if b2i (picRng kind hand year span ∧ picUnk M lamp pig ∧ M 114 23 ≠ 16) = 1 then addM M kind hand year span lamp pig else M)) := by
  refine CI.of (own := "RedSkiesModel") (ls0 := [some (.ref (al 114)), some (.int (iN kind)), some (.int (iN hand)), some (.int (iN year)), some (.int (iN span)), some (.int (iN lamp)), some (.int (iN pig))]) (by decide +kernel) rfl (Nat.le_of_ble_eq_true rfl) rfl ?_
  intro pP eE sS mI aA bB mM cC X hr hlk
  obtain ⟨Q, hQ⟩ : ∃ Q : State → Prop, Q = MQ bB (QI tT dD al (fun r M' => r = (if b2i (picRng kind hand year span) = 1 then (if b2i (picUnk M lamp pig) = 1 then (if M 114 23 = 16 then -104 else M 114 23) else -101) else -102) ∧ M' = (if b2i (picRng kind hand year span ∧ picUnk M lamp pig ∧ M 114 23 ≠ 16) = 1 then addM M kind hand year span lamp pig else M))) aA sS 0 0 (fA al) := ⟨_, rfl⟩
  rw [← hQ]
  have w2 := hW.n
  have w3 := hW.lam
  have w4 := hW.pig
  refine g_iload_n X dX10_picture_0 rfl rfl ?_
  refine g_i2l X dX10_picture_1 ⟨by omega, by omega⟩ ?_
  refine g_lconst X (v := 0) dX10_picture_2 (by decide +kernel) ?_
  refine g_ldc2 X (n := 4) wd_1062 (by decide +kernel) dX10_picture_3 ?_
  refine g_callSI X (c_X10_in lL tT dD al _ _ _ _ ⟨by omega, by omega⟩ (by decide) (by decide)) lk_RX10_98 rfl rfl ⟨by decide, by decide⟩ rfl (Nat.le_of_ble_eq_true rfl) dX10_picture_6 (fun r6 M6 hc6 => ?_)
  obtain ⟨hr6, hm6⟩ := hc6
  subst r6
  subst M6
  refine g_if_eq (tgt := 49) X dX10_picture_9 (by decide) (b2i_i32 _) (fun q9 => ?_) (fun q9 => ?_)
  · have q9 := b2i_f q9
    refine g_bipush X dX10_picture_49 (by decide +kernel) ?_
    rw [hQ]
    refine g_iret X hr hlk dX10_picture_51 ?_
    clear X hr hlk hQ
    have pR : picRng kind hand year span ↔ ((0 ≤ kind ∧ kind ≤ 4) ∧ (0 ≤ hand ∧ hand ≤ 4) ∧ (0 ≤ year ∧ year ≤ 400) ∧ (0 ≤ span ∧ span ≤ 20)) := Iff.rfl
    have pU : picUnk M lamp pig ↔ ((-1 ≤ lamp ∧ lamp ≤ M 114 13 - 1) ∧ (-1 ≤ pig ∧ pig ≤ M 114 20 - 1)) := Iff.rfl
    have b1 := b2i_eq (b := b2i (picRng kind hand year span)) rfl
    have b2 := b2i_eq (b := b2i (picUnk M lamp pig)) rfl
    have b3 := b2i_eq (b := b2i (picRng kind hand year span ∧ picUnk M lamp pig ∧ M 114 23 ≠ 16)) rfl
    exact ⟨by grind, by grind⟩
  · have q9 := b2i_t q9
    refine g_iload_n X dX10_picture_12 rfl rfl ?_
    refine g_i2l X dX10_picture_13 ⟨by omega, by omega⟩ ?_
    refine g_lconst X (v := 0) dX10_picture_14 (by decide +kernel) ?_
    refine g_ldc2 X (n := 4) wd_1062 (by decide +kernel) dX10_picture_15 ?_
    refine g_callSI X (c_X10_in lL tT dD al _ _ _ _ ⟨by omega, by omega⟩ (by decide) (by decide)) lk_RX10_98 rfl rfl ⟨by decide, by decide⟩ rfl (Nat.le_of_ble_eq_true rfl) dX10_picture_18 (fun r18 M18 hc18 => ?_)
    obtain ⟨hr18, hm18⟩ := hc18
    subst r18
    subst M18
    refine g_if_eq (tgt := 49) X dX10_picture_21 (by decide) (b2i_i32 _) (fun q21 => ?_) (fun q21 => ?_)
    · have q21 := b2i_f q21
      refine g_bipush X dX10_picture_49 (by decide +kernel) ?_
      rw [hQ]
      refine g_iret X hr hlk dX10_picture_51 ?_
      clear X hr hlk hQ
      have pR : picRng kind hand year span ↔ ((0 ≤ kind ∧ kind ≤ 4) ∧ (0 ≤ hand ∧ hand ≤ 4) ∧ (0 ≤ year ∧ year ≤ 400) ∧ (0 ≤ span ∧ span ≤ 20)) := Iff.rfl
      have pU : picUnk M lamp pig ↔ ((-1 ≤ lamp ∧ lamp ≤ M 114 13 - 1) ∧ (-1 ≤ pig ∧ pig ≤ M 114 20 - 1)) := Iff.rfl
      have b1 := b2i_eq (b := b2i (picRng kind hand year span)) rfl
      have b2 := b2i_eq (b := b2i (picUnk M lamp pig)) rfl
      have b3 := b2i_eq (b := b2i (picRng kind hand year span ∧ picUnk M lamp pig ∧ M 114 23 ≠ 16)) rfl
      exact ⟨by grind, by grind⟩
    · have q21 := b2i_t q21
      refine g_iload_n X dX10_picture_24 rfl rfl ?_
      refine g_i2l X dX10_picture_25 ⟨by omega, by omega⟩ ?_
      refine g_lconst X (v := 0) dX10_picture_26 (by decide +kernel) ?_
      refine g_ldc2 X (n := 400) wd_1056 (by decide +kernel) dX10_picture_27 ?_
      refine g_callSI X (c_X10_in lL tT dD al _ _ _ _ ⟨by omega, by omega⟩ (by decide) (by decide)) lk_RX10_98 rfl rfl ⟨by decide, by decide⟩ rfl (Nat.le_of_ble_eq_true rfl) dX10_picture_30 (fun r30 M30 hc30 => ?_)
      obtain ⟨hr30, hm30⟩ := hc30
      subst r30
      subst M30
      refine g_if_eq (tgt := 49) X dX10_picture_33 (by decide) (b2i_i32 _) (fun q33 => ?_) (fun q33 => ?_)
      · have q33 := b2i_f q33
        refine g_bipush X dX10_picture_49 (by decide +kernel) ?_
        rw [hQ]
        refine g_iret X hr hlk dX10_picture_51 ?_
        clear X hr hlk hQ
        have pR : picRng kind hand year span ↔ ((0 ≤ kind ∧ kind ≤ 4) ∧ (0 ≤ hand ∧ hand ≤ 4) ∧ (0 ≤ year ∧ year ≤ 400) ∧ (0 ≤ span ∧ span ≤ 20)) := Iff.rfl
        have pU : picUnk M lamp pig ↔ ((-1 ≤ lamp ∧ lamp ≤ M 114 13 - 1) ∧ (-1 ≤ pig ∧ pig ≤ M 114 20 - 1)) := Iff.rfl
        have b1 := b2i_eq (b := b2i (picRng kind hand year span)) rfl
        have b2 := b2i_eq (b := b2i (picUnk M lamp pig)) rfl
        have b3 := b2i_eq (b := b2i (picRng kind hand year span ∧ picUnk M lamp pig ∧ M 114 23 ≠ 16)) rfl
        exact ⟨by grind, by grind⟩
      · have q33 := b2i_t q33
        refine g_iload X dX10_picture_36 rfl ?_
        refine g_i2l X dX10_picture_38 ⟨by omega, by omega⟩ ?_
        refine g_lconst X (v := 0) dX10_picture_39 (by decide +kernel) ?_
        refine g_ldc2 X (n := 20) wd_1063 (by decide +kernel) dX10_picture_40 ?_
        refine g_callSI X (c_X10_in lL tT dD al _ _ _ _ ⟨by omega, by omega⟩ (by decide) (by decide)) lk_RX10_98 rfl rfl ⟨by decide, by decide⟩ rfl (Nat.le_of_ble_eq_true rfl) dX10_picture_43 (fun r43 M43 hc43 => ?_)
        obtain ⟨hr43, hm43⟩ := hc43
        subst r43
        subst M43
        refine g_if_ne (tgt := 52) X dX10_picture_46 (by decide) (b2i_i32 _) (fun q46 => ?_) (fun q46 => ?_)
        · have q46 := b2i_t q46
          refine g_iload X dX10_picture_52 rfl ?_
          refine g_i2l X dX10_picture_54 ⟨by omega, by omega⟩ ?_
          refine g_ldc2 X (n := (-1)) wd_1064 (by decide +kernel) dX10_picture_55 ?_
          refine g_aload_n X dX10_picture_58 rfl rfl ?_
          refine g_geti (kz := 13) X kd_114 fc9 (k := 13) (by decide) rfl wd_840 rfl dX10_picture_59 ?_
          refine g_iconst X dX10_picture_62 ?_
          refine g_isub X dX10_picture_63 ?_
          refine g_i2l X dX10_picture_64 ⟨by omega, by omega⟩ ?_
          refine g_callSI X (c_X10_in lL tT dD al _ _ _ _ ⟨by omega, by omega⟩ (by decide) ⟨by omega, by omega⟩) lk_RX10_98 rfl rfl ⟨by decide, by decide⟩ rfl (Nat.le_of_ble_eq_true rfl) dX10_picture_65 (fun r65 M65 hc65 => ?_)
          obtain ⟨hr65, hm65⟩ := hc65
          subst r65
          subst M65
          refine g_if_eq (tgt := 90) X dX10_picture_68 (by decide) (b2i_i32 _) (fun q68 => ?_) (fun q68 => ?_)
          · have q68 := b2i_f q68
            refine g_bipush X dX10_picture_90 (by decide +kernel) ?_
            rw [hQ]
            refine g_iret X hr hlk dX10_picture_92 ?_
            clear X hr hlk hQ
            have pR : picRng kind hand year span ↔ ((0 ≤ kind ∧ kind ≤ 4) ∧ (0 ≤ hand ∧ hand ≤ 4) ∧ (0 ≤ year ∧ year ≤ 400) ∧ (0 ≤ span ∧ span ≤ 20)) := Iff.rfl
            have pU : picUnk M lamp pig ↔ ((-1 ≤ lamp ∧ lamp ≤ M 114 13 - 1) ∧ (-1 ≤ pig ∧ pig ≤ M 114 20 - 1)) := Iff.rfl
            have b1 := b2i_eq (b := b2i (picRng kind hand year span)) rfl
            have b2 := b2i_eq (b := b2i (picUnk M lamp pig)) rfl
            have b3 := b2i_eq (b := b2i (picRng kind hand year span ∧ picUnk M lamp pig ∧ M 114 23 ≠ 16)) rfl
            exact ⟨by grind, by grind⟩
          · have q68 := b2i_t q68
            refine g_iload X dX10_picture_71 rfl ?_
            refine g_i2l X dX10_picture_73 ⟨by omega, by omega⟩ ?_
            refine g_ldc2 X (n := (-1)) wd_1064 (by decide +kernel) dX10_picture_74 ?_
            refine g_aload_n X dX10_picture_77 rfl rfl ?_
            refine g_geti (kz := 20) X kd_114 fc9 (k := 20) (by decide) rfl wd_847 rfl dX10_picture_78 ?_
            refine g_iconst X dX10_picture_81 ?_
            refine g_isub X dX10_picture_82 ?_
            refine g_i2l X dX10_picture_83 ⟨by omega, by omega⟩ ?_
            refine g_callSI X (c_X10_in lL tT dD al _ _ _ _ ⟨by omega, by omega⟩ (by decide) ⟨by omega, by omega⟩) lk_RX10_98 rfl rfl ⟨by decide, by decide⟩ rfl (Nat.le_of_ble_eq_true rfl) dX10_picture_84 (fun r84 M84 hc84 => ?_)
            obtain ⟨hr84, hm84⟩ := hc84
            subst r84
            subst M84
            refine g_if_ne (tgt := 93) X dX10_picture_87 (by decide) (b2i_i32 _) (fun q87 => ?_) (fun q87 => ?_)
            · have q87 := b2i_t q87
              refine g_aload_n X dX10_picture_93 rfl rfl ?_
              refine g_geti (kz := 23) X kd_114 fc9 (k := 23) (by decide) rfl wd_850 rfl dX10_picture_94 ?_
              refine g_bipush X dX10_picture_97 (by decide +kernel) ?_
              refine g_icmp_ne (tgt := 105) X dX10_picture_99 (by decide) ⟨by omega, by omega⟩ (by decide) (fun q99 => ?_) (fun q99 => ?_)
              · refine g_aload_n X dX10_picture_105 rfl rfl ?_
                refine g_iload_n X dX10_picture_106 rfl rfl ?_
                refine g_iload_n X dX10_picture_107 rfl rfl ?_
                refine g_iload_n X dX10_picture_108 rfl rfl ?_
                refine g_iload X dX10_picture_109 rfl ?_
                refine g_iload X dX10_picture_111 rfl ?_
                refine g_iload X dX10_picture_113 rfl ?_
                refine g_callVV X (c_X10_add lL tT dD al _ _ _ _ _ _ _ (by omega) ikind) kd_114 fc9 lk_RX10_187 rfl rfl ⟨by decide, by decide⟩ rfl (Nat.le_of_ble_eq_true rfl) dX10_picture_115 (fun M115 hc115 => ?_)
                subst hc115
                have e118 : addM M kind hand year span lamp pig 114 23 = M 114 23 + 1 := by unfold addM; exact mu_same _ _ _ _
                refine g_aload_n X dX10_picture_118 rfl rfl ?_
                refine g_geti (kz := 23) X kd_114 fc9 (k := 23) (by decide) rfl wd_850 rfl dX10_picture_119 ?_
                refine g_iconst X dX10_picture_122 ?_
                refine g_isub X dX10_picture_123 ?_
                rw [hQ]
                refine g_iret X hr hlk dX10_picture_124 ?_
                clear X hr hlk hQ
                have pR : picRng kind hand year span ↔ ((0 ≤ kind ∧ kind ≤ 4) ∧ (0 ≤ hand ∧ hand ≤ 4) ∧ (0 ≤ year ∧ year ≤ 400) ∧ (0 ≤ span ∧ span ≤ 20)) := Iff.rfl
                have pU : picUnk M lamp pig ↔ ((-1 ≤ lamp ∧ lamp ≤ M 114 13 - 1) ∧ (-1 ≤ pig ∧ pig ≤ M 114 20 - 1)) := Iff.rfl
                have b1 := b2i_eq (b := b2i (picRng kind hand year span)) rfl
                have b2 := b2i_eq (b := b2i (picUnk M lamp pig)) rfl
                have b3 := b2i_eq (b := b2i (picRng kind hand year span ∧ picUnk M lamp pig ∧ M 114 23 ≠ 16)) rfl
                exact ⟨by grind, by grind⟩
              · refine g_bipush X dX10_picture_102 (by decide +kernel) ?_
                rw [hQ]
                refine g_iret X hr hlk dX10_picture_104 ?_
                clear X hr hlk hQ
                have pR : picRng kind hand year span ↔ ((0 ≤ kind ∧ kind ≤ 4) ∧ (0 ≤ hand ∧ hand ≤ 4) ∧ (0 ≤ year ∧ year ≤ 400) ∧ (0 ≤ span ∧ span ≤ 20)) := Iff.rfl
                have pU : picUnk M lamp pig ↔ ((-1 ≤ lamp ∧ lamp ≤ M 114 13 - 1) ∧ (-1 ≤ pig ∧ pig ≤ M 114 20 - 1)) := Iff.rfl
                have b1 := b2i_eq (b := b2i (picRng kind hand year span)) rfl
                have b2 := b2i_eq (b := b2i (picUnk M lamp pig)) rfl
                have b3 := b2i_eq (b := b2i (picRng kind hand year span ∧ picUnk M lamp pig ∧ M 114 23 ≠ 16)) rfl
                exact ⟨by grind, by grind⟩
            · have q87 := b2i_f q87
              refine g_bipush X dX10_picture_90 (by decide +kernel) ?_
              rw [hQ]
              refine g_iret X hr hlk dX10_picture_92 ?_
              clear X hr hlk hQ
              have pR : picRng kind hand year span ↔ ((0 ≤ kind ∧ kind ≤ 4) ∧ (0 ≤ hand ∧ hand ≤ 4) ∧ (0 ≤ year ∧ year ≤ 400) ∧ (0 ≤ span ∧ span ≤ 20)) := Iff.rfl
              have pU : picUnk M lamp pig ↔ ((-1 ≤ lamp ∧ lamp ≤ M 114 13 - 1) ∧ (-1 ≤ pig ∧ pig ≤ M 114 20 - 1)) := Iff.rfl
              have b1 := b2i_eq (b := b2i (picRng kind hand year span)) rfl
              have b2 := b2i_eq (b := b2i (picUnk M lamp pig)) rfl
              have b3 := b2i_eq (b := b2i (picRng kind hand year span ∧ picUnk M lamp pig ∧ M 114 23 ≠ 16)) rfl
              exact ⟨by grind, by grind⟩
        · have q46 := b2i_f q46
          refine g_bipush X dX10_picture_49 (by decide +kernel) ?_
          rw [hQ]
          refine g_iret X hr hlk dX10_picture_51 ?_
          clear X hr hlk hQ
          have pR : picRng kind hand year span ↔ ((0 ≤ kind ∧ kind ≤ 4) ∧ (0 ≤ hand ∧ hand ≤ 4) ∧ (0 ≤ year ∧ year ≤ 400) ∧ (0 ≤ span ∧ span ≤ 20)) := Iff.rfl
          have pU : picUnk M lamp pig ↔ ((-1 ≤ lamp ∧ lamp ≤ M 114 13 - 1) ∧ (-1 ≤ pig ∧ pig ≤ M 114 20 - 1)) := Iff.rfl
          have b1 := b2i_eq (b := b2i (picRng kind hand year span)) rfl
          have b2 := b2i_eq (b := b2i (picUnk M lamp pig)) rfl
          have b3 := b2i_eq (b := b2i (picRng kind hand year span ∧ picUnk M lamp pig ∧ M 114 23 ≠ 16)) rfl
          exact ⟨by grind, by grind⟩
set_option maxRecDepth 100000 in
set_option maxHeartbeats 4000000 in
theorem c_X10_ice (lL : Launch) (tT : TT) (dD : va_G) (al : Int → Nat) (M : Mem) (y a b : Int) (hW : WV M) (iy : i32 y) (ia : i32 a) (ib : i32 b) : CI lL yX10_ice cX10_ice 4 FieldType.int 1 25 tT dD al [.ref (al 114), .int (iN y), .int (iN a), .int (iN b)] M (fun r M' => r = (if b2i (iceOut y a b) = 1 then -102 else if b2i (iceFul M y a) = 1 then -104 else M 114 40 + ((if a = -1 then 0 else 1) - (if M 134 y = -1 then 0 else 1))) ∧ M' = (if b2i (iceOut y a b) = 1 then M else if b2i (iceFul M y a) = 1 then M else iceM M y a b)) := by
  refine CI.of (own := "RedSkiesModel") (ls0 := [some (.ref (al 114)), some (.int (iN y)), some (.int (iN a)), some (.int (iN b))]) (by decide +kernel) rfl (Nat.le_of_ble_eq_true rfl) rfl ?_
  intro pP eE sS mI aA bB mM cC X hr hlk
  obtain ⟨Q, hQ⟩ : ∃ Q : State → Prop, Q = MQ bB (QI tT dD al (fun r M' => r = (if b2i (iceOut y a b) = 1 then -102 else if b2i (iceFul M y a) = 1 then -104 else M 114 40 + ((if a = -1 then 0 else 1) - (if M 134 y = -1 then 0 else 1))) ∧ M' = (if b2i (iceOut y a b) = 1 then M else if b2i (iceFul M y a) = 1 then M else iceM M y a b))) aA sS 0 0 (fA al) := ⟨_, rfl⟩
  rw [← hQ]
  have w2 := hW.n
  refine g_iload_n X dX10_ice_0 rfl rfl ?_
  refine g_i2l X dX10_ice_1 ⟨by omega, by omega⟩ ?_
  refine g_lconst X (v := 0) dX10_ice_2 (by decide +kernel) ?_
  refine g_ldc2 X (n := 400) wd_1056 (by decide +kernel) dX10_ice_3 ?_
  refine g_callSI X (c_X10_in lL tT dD al _ _ _ _ ⟨by omega, by omega⟩ (by decide) (by decide)) lk_RX10_98 rfl rfl ⟨by decide, by decide⟩ rfl (Nat.le_of_ble_eq_true rfl) dX10_ice_6 (fun r6 M6 hc6 => ?_)
  obtain ⟨hr6, hm6⟩ := hc6
  subst r6
  subst M6
  refine g_if_eq (tgt := 44) X dX10_ice_9 (by decide) (b2i_i32 _) (fun q9 => ?_) (fun q9 => ?_)
  · have q9 := b2i_f q9
    refine g_bipush X dX10_ice_44 (by decide +kernel) ?_
    rw [hQ]
    refine g_iret X hr hlk dX10_ice_46 ?_
    clear X hr hlk hQ
    have pR : iceOut y a b ↔ (¬ (0 ≤ y ∧ y ≤ 400) ∨ ¬ (-1 ≤ a ∧ a ≤ 5) ∨ (a ≠ -1 ∧ ¬ (a ≤ b ∧ b ≤ 5))) := Iff.rfl
    have pU : iceFul M y a ↔ (a ≠ -1 ∧ M 134 y = -1 ∧ M 114 40 = 40) := Iff.rfl
    have b1 := b2i_eq (b := b2i (iceOut y a b)) rfl
    have b2 := b2i_eq (b := b2i (iceFul M y a)) rfl
    exact ⟨by grind, by unfold iceM; grind⟩
  · have q9 := b2i_t q9
    refine g_iload_n X dX10_ice_12 rfl rfl ?_
    refine g_i2l X dX10_ice_13 ⟨by omega, by omega⟩ ?_
    refine g_ldc2 X (n := (-1)) wd_1064 (by decide +kernel) dX10_ice_14 ?_
    refine g_ldc2 X (n := 5) wd_1087 (by decide +kernel) dX10_ice_17 ?_
    refine g_callSI X (c_X10_in lL tT dD al _ _ _ _ ⟨by omega, by omega⟩ (by decide) (by decide)) lk_RX10_98 rfl rfl ⟨by decide, by decide⟩ rfl (Nat.le_of_ble_eq_true rfl) dX10_ice_20 (fun r20 M20 hc20 => ?_)
    obtain ⟨hr20, hm20⟩ := hc20
    subst r20
    subst M20
    refine g_if_eq (tgt := 44) X dX10_ice_23 (by decide) (b2i_i32 _) (fun q23 => ?_) (fun q23 => ?_)
    · have q23 := b2i_f q23
      refine g_bipush X dX10_ice_44 (by decide +kernel) ?_
      rw [hQ]
      refine g_iret X hr hlk dX10_ice_46 ?_
      clear X hr hlk hQ
      have pR : iceOut y a b ↔ (¬ (0 ≤ y ∧ y ≤ 400) ∨ ¬ (-1 ≤ a ∧ a ≤ 5) ∨ (a ≠ -1 ∧ ¬ (a ≤ b ∧ b ≤ 5))) := Iff.rfl
      have pU : iceFul M y a ↔ (a ≠ -1 ∧ M 134 y = -1 ∧ M 114 40 = 40) := Iff.rfl
      have b1 := b2i_eq (b := b2i (iceOut y a b)) rfl
      have b2 := b2i_eq (b := b2i (iceFul M y a)) rfl
      exact ⟨by grind, by unfold iceM; grind⟩
    · have q23 := b2i_t q23
      refine g_iload_n X dX10_ice_26 rfl rfl ?_
      refine g_iconst X dX10_ice_27 ?_
      refine g_icmp_eq (tgt := 47) X dX10_ice_28 (by decide) ⟨by omega, by omega⟩ (by decide) (fun q28 => ?_) (fun q28 => ?_)
      · have w4 := hW.ice (y := y) (by omega) (by omega)
        refine g_iload_n X dX10_ice_47 rfl rfl ?_
        refine g_iconst X dX10_ice_48 ?_
        refine g_icmp_eq (tgt := 74) X dX10_ice_49 (by decide) ⟨by omega, by omega⟩ (by decide) (fun q49 => ?_) (fun q49 => ?_)
        · refine g_aload_n X dX10_ice_74 rfl rfl ?_
          refine g_dup X dX10_ice_75 rfl ?_
          refine g_geti (kz := 40) X kd_114 fc9 (k := 40) (by decide) rfl wd_867 rfl dX10_ice_76 ?_
          refine g_iload_n X dX10_ice_79 rfl rfl ?_
          refine g_iconst X dX10_ice_80 ?_
          refine g_icmp_ne (tgt := 88) X dX10_ice_81 (by decide) ⟨by omega, by omega⟩ (by decide) (fun q81 => ?_) (fun q81 => ?_)
          · refine g_iconst X dX10_ice_88 ?_
            refine g_aload_n X dX10_ice_89 rfl rfl ?_
            refine g_getr (r := 134) X kd_114 fc9 (k := 41) (by decide) rfl wd_868 rfl (by decide) dX10_ice_90 ?_
            refine g_iload_n X dX10_ice_93 rfl rfl ?_
            refine g_iald X kd_134 (by omega) (by omega) dX10_ice_94 ?_
            refine g_iconst X dX10_ice_95 ?_
            refine g_icmp_ne (tgt := 103) X dX10_ice_96 (by decide) ⟨by omega, by omega⟩ (by decide) (fun q96 => ?_) (fun q96 => ?_)
            · refine g_iconst X dX10_ice_103 ?_
              refine g_isub X dX10_ice_104 ?_
              refine g_iadd X dX10_ice_105 ?_
              refine g_puti (kz := 40) X kd_114 fc9 (k := 40) (by decide) rfl wd_867 rfl rfl rfl dX10_ice_106 ?_
              refine g_aload_n X dX10_ice_109 rfl rfl ?_
              refine g_getr (r := 134) X kd_114 fc9 (k := 41) (by decide) rfl wd_868 rfl (by decide) dX10_ice_110 ?_
              refine g_iload_n X dX10_ice_113 rfl rfl ?_
              refine g_iload_n X dX10_ice_114 rfl rfl ?_
              refine g_iast X kd_134 (by omega) (by omega) dX10_ice_115 ?_
              refine g_aload_n X dX10_ice_116 rfl rfl ?_
              refine g_getr (r := 135) X kd_114 fc9 (k := 42) (by decide) rfl wd_869 rfl (by decide) dX10_ice_117 ?_
              refine g_iload_n X dX10_ice_120 rfl rfl ?_
              refine g_iload_n X dX10_ice_121 rfl rfl ?_
              refine g_iconst X dX10_ice_122 ?_
              refine g_icmp_ne (tgt := 130) X dX10_ice_123 (by decide) ⟨by omega, by omega⟩ (by decide) (fun q123 => ?_) (fun q123 => ?_)
              · refine g_iload_n X dX10_ice_130 rfl rfl ?_
                refine g_iast X kd_135 (by omega) (by omega) dX10_ice_131 ?_
                refine g_aload_n X dX10_ice_132 rfl rfl ?_
                refine g_geti (kz := 40) X kd_114 fc9 (k := 40) (by decide) rfl wd_867 rfl dX10_ice_133 ?_
                refine g_teq (b := ((M 114 40) + (1 - 1))) (by first | (simp [mu]; done) | (simp only [mu]; repeat (first | rw [if_pos (⟨rfl, rfl⟩)] | rw [if_neg (by omega)]))) ?_
                rw [hQ]
                refine g_iret X hr hlk dX10_ice_136 ?_
                clear X hr hlk hQ
                have pR : iceOut y a b ↔ (¬ (0 ≤ y ∧ y ≤ 400) ∨ ¬ (-1 ≤ a ∧ a ≤ 5) ∨ (a ≠ -1 ∧ ¬ (a ≤ b ∧ b ≤ 5))) := Iff.rfl
                have pU : iceFul M y a ↔ (a ≠ -1 ∧ M 134 y = -1 ∧ M 114 40 = 40) := Iff.rfl
                have b1 := b2i_eq (b := b2i (iceOut y a b)) rfl
                have b2 := b2i_eq (b := b2i (iceFul M y a)) rfl
                exact ⟨by grind, by unfold iceM; grind⟩
              · refine g_iconst X dX10_ice_126 ?_
                refine g_goto (tgt := 131) X dX10_ice_127 (by decide) ?_
                refine g_iast X kd_135 (by omega) (by omega) dX10_ice_131 ?_
                refine g_aload_n X dX10_ice_132 rfl rfl ?_
                refine g_geti (kz := 40) X kd_114 fc9 (k := 40) (by decide) rfl wd_867 rfl dX10_ice_133 ?_
                refine g_teq (b := ((M 114 40) + (1 - 1))) (by first | (simp [mu]; done) | (simp only [mu]; repeat (first | rw [if_pos (⟨rfl, rfl⟩)] | rw [if_neg (by omega)]))) ?_
                rw [hQ]
                refine g_iret X hr hlk dX10_ice_136 ?_
                clear X hr hlk hQ
                have pR : iceOut y a b ↔ (¬ (0 ≤ y ∧ y ≤ 400) ∨ ¬ (-1 ≤ a ∧ a ≤ 5) ∨ (a ≠ -1 ∧ ¬ (a ≤ b ∧ b ≤ 5))) := Iff.rfl
                have pU : iceFul M y a ↔ (a ≠ -1 ∧ M 134 y = -1 ∧ M 114 40 = 40) := Iff.rfl
                have b1 := b2i_eq (b := b2i (iceOut y a b)) rfl
                have b2 := b2i_eq (b := b2i (iceFul M y a)) rfl
                exact ⟨by grind, by unfold iceM; grind⟩
            · refine g_iconst X dX10_ice_99 ?_
              refine g_goto (tgt := 104) X dX10_ice_100 (by decide) ?_
              refine g_isub X dX10_ice_104 ?_
              refine g_iadd X dX10_ice_105 ?_
              refine g_puti (kz := 40) X kd_114 fc9 (k := 40) (by decide) rfl wd_867 rfl rfl rfl dX10_ice_106 ?_
              refine g_aload_n X dX10_ice_109 rfl rfl ?_
              refine g_getr (r := 134) X kd_114 fc9 (k := 41) (by decide) rfl wd_868 rfl (by decide) dX10_ice_110 ?_
              refine g_iload_n X dX10_ice_113 rfl rfl ?_
              refine g_iload_n X dX10_ice_114 rfl rfl ?_
              refine g_iast X kd_134 (by omega) (by omega) dX10_ice_115 ?_
              refine g_aload_n X dX10_ice_116 rfl rfl ?_
              refine g_getr (r := 135) X kd_114 fc9 (k := 42) (by decide) rfl wd_869 rfl (by decide) dX10_ice_117 ?_
              refine g_iload_n X dX10_ice_120 rfl rfl ?_
              refine g_iload_n X dX10_ice_121 rfl rfl ?_
              refine g_iconst X dX10_ice_122 ?_
              refine g_icmp_ne (tgt := 130) X dX10_ice_123 (by decide) ⟨by omega, by omega⟩ (by decide) (fun q123 => ?_) (fun q123 => ?_)
              · refine g_iload_n X dX10_ice_130 rfl rfl ?_
                refine g_iast X kd_135 (by omega) (by omega) dX10_ice_131 ?_
                refine g_aload_n X dX10_ice_132 rfl rfl ?_
                refine g_geti (kz := 40) X kd_114 fc9 (k := 40) (by decide) rfl wd_867 rfl dX10_ice_133 ?_
                refine g_teq (b := ((M 114 40) + (1 - 0))) (by first | (simp [mu]; done) | (simp only [mu]; repeat (first | rw [if_pos (⟨rfl, rfl⟩)] | rw [if_neg (by omega)]))) ?_
                rw [hQ]
                refine g_iret X hr hlk dX10_ice_136 ?_
                clear X hr hlk hQ
                have pR : iceOut y a b ↔ (¬ (0 ≤ y ∧ y ≤ 400) ∨ ¬ (-1 ≤ a ∧ a ≤ 5) ∨ (a ≠ -1 ∧ ¬ (a ≤ b ∧ b ≤ 5))) := Iff.rfl
                have pU : iceFul M y a ↔ (a ≠ -1 ∧ M 134 y = -1 ∧ M 114 40 = 40) := Iff.rfl
                have b1 := b2i_eq (b := b2i (iceOut y a b)) rfl
                have b2 := b2i_eq (b := b2i (iceFul M y a)) rfl
                exact ⟨by grind, by unfold iceM; grind⟩
              · refine g_iconst X dX10_ice_126 ?_
                refine g_goto (tgt := 131) X dX10_ice_127 (by decide) ?_
                refine g_iast X kd_135 (by omega) (by omega) dX10_ice_131 ?_
                refine g_aload_n X dX10_ice_132 rfl rfl ?_
                refine g_geti (kz := 40) X kd_114 fc9 (k := 40) (by decide) rfl wd_867 rfl dX10_ice_133 ?_
                refine g_teq (b := ((M 114 40) + (1 - 0))) (by first | (simp [mu]; done) | (simp only [mu]; repeat (first | rw [if_pos (⟨rfl, rfl⟩)] | rw [if_neg (by omega)]))) ?_
                rw [hQ]
                refine g_iret X hr hlk dX10_ice_136 ?_
                clear X hr hlk hQ
                have pR : iceOut y a b ↔ (¬ (0 ≤ y ∧ y ≤ 400) ∨ ¬ (-1 ≤ a ∧ a ≤ 5) ∨ (a ≠ -1 ∧ ¬ (a ≤ b ∧ b ≤ 5))) := Iff.rfl
                have pU : iceFul M y a ↔ (a ≠ -1 ∧ M 134 y = -1 ∧ M 114 40 = 40) := Iff.rfl
                have b1 := b2i_eq (b := b2i (iceOut y a b)) rfl
                have b2 := b2i_eq (b := b2i (iceFul M y a)) rfl
                exact ⟨by grind, by unfold iceM; grind⟩
          · refine g_iconst X dX10_ice_84 ?_
            refine g_goto (tgt := 89) X dX10_ice_85 (by decide) ?_
            refine g_aload_n X dX10_ice_89 rfl rfl ?_
            refine g_getr (r := 134) X kd_114 fc9 (k := 41) (by decide) rfl wd_868 rfl (by decide) dX10_ice_90 ?_
            refine g_iload_n X dX10_ice_93 rfl rfl ?_
            refine g_iald X kd_134 (by omega) (by omega) dX10_ice_94 ?_
            refine g_iconst X dX10_ice_95 ?_
            refine g_icmp_ne (tgt := 103) X dX10_ice_96 (by decide) ⟨by omega, by omega⟩ (by decide) (fun q96 => ?_) (fun q96 => ?_)
            · refine g_iconst X dX10_ice_103 ?_
              refine g_isub X dX10_ice_104 ?_
              refine g_iadd X dX10_ice_105 ?_
              refine g_puti (kz := 40) X kd_114 fc9 (k := 40) (by decide) rfl wd_867 rfl rfl rfl dX10_ice_106 ?_
              refine g_aload_n X dX10_ice_109 rfl rfl ?_
              refine g_getr (r := 134) X kd_114 fc9 (k := 41) (by decide) rfl wd_868 rfl (by decide) dX10_ice_110 ?_
              refine g_iload_n X dX10_ice_113 rfl rfl ?_
              refine g_iload_n X dX10_ice_114 rfl rfl ?_
              refine g_iast X kd_134 (by omega) (by omega) dX10_ice_115 ?_
              refine g_aload_n X dX10_ice_116 rfl rfl ?_
              refine g_getr (r := 135) X kd_114 fc9 (k := 42) (by decide) rfl wd_869 rfl (by decide) dX10_ice_117 ?_
              refine g_iload_n X dX10_ice_120 rfl rfl ?_
              refine g_iload_n X dX10_ice_121 rfl rfl ?_
              refine g_iconst X dX10_ice_122 ?_
              refine g_icmp_ne (tgt := 130) X dX10_ice_123 (by decide) ⟨by omega, by omega⟩ (by decide) (fun q123 => ?_) (fun q123 => ?_)
              · refine g_iload_n X dX10_ice_130 rfl rfl ?_
                refine g_iast X kd_135 (by omega) (by omega) dX10_ice_131 ?_
                refine g_aload_n X dX10_ice_132 rfl rfl ?_
                refine g_geti (kz := 40) X kd_114 fc9 (k := 40) (by decide) rfl wd_867 rfl dX10_ice_133 ?_
                refine g_teq (b := ((M 114 40) + (0 - 1))) (by first | (simp [mu]; done) | (simp only [mu]; repeat (first | rw [if_pos (⟨rfl, rfl⟩)] | rw [if_neg (by omega)]))) ?_
                rw [hQ]
                refine g_iret X hr hlk dX10_ice_136 ?_
                clear X hr hlk hQ
                have pR : iceOut y a b ↔ (¬ (0 ≤ y ∧ y ≤ 400) ∨ ¬ (-1 ≤ a ∧ a ≤ 5) ∨ (a ≠ -1 ∧ ¬ (a ≤ b ∧ b ≤ 5))) := Iff.rfl
                have pU : iceFul M y a ↔ (a ≠ -1 ∧ M 134 y = -1 ∧ M 114 40 = 40) := Iff.rfl
                have b1 := b2i_eq (b := b2i (iceOut y a b)) rfl
                have b2 := b2i_eq (b := b2i (iceFul M y a)) rfl
                exact ⟨by grind, by unfold iceM; grind⟩
              · refine g_iconst X dX10_ice_126 ?_
                refine g_goto (tgt := 131) X dX10_ice_127 (by decide) ?_
                refine g_iast X kd_135 (by omega) (by omega) dX10_ice_131 ?_
                refine g_aload_n X dX10_ice_132 rfl rfl ?_
                refine g_geti (kz := 40) X kd_114 fc9 (k := 40) (by decide) rfl wd_867 rfl dX10_ice_133 ?_
                refine g_teq (b := ((M 114 40) + (0 - 1))) (by first | (simp [mu]; done) | (simp only [mu]; repeat (first | rw [if_pos (⟨rfl, rfl⟩)] | rw [if_neg (by omega)]))) ?_
                rw [hQ]
                refine g_iret X hr hlk dX10_ice_136 ?_
                clear X hr hlk hQ
                have pR : iceOut y a b ↔ (¬ (0 ≤ y ∧ y ≤ 400) ∨ ¬ (-1 ≤ a ∧ a ≤ 5) ∨ (a ≠ -1 ∧ ¬ (a ≤ b ∧ b ≤ 5))) := Iff.rfl
                have pU : iceFul M y a ↔ (a ≠ -1 ∧ M 134 y = -1 ∧ M 114 40 = 40) := Iff.rfl
                have b1 := b2i_eq (b := b2i (iceOut y a b)) rfl
                have b2 := b2i_eq (b := b2i (iceFul M y a)) rfl
                exact ⟨by grind, by unfold iceM; grind⟩
            · refine g_iconst X dX10_ice_99 ?_
              refine g_goto (tgt := 104) X dX10_ice_100 (by decide) ?_
              refine g_isub X dX10_ice_104 ?_
              refine g_iadd X dX10_ice_105 ?_
              refine g_puti (kz := 40) X kd_114 fc9 (k := 40) (by decide) rfl wd_867 rfl rfl rfl dX10_ice_106 ?_
              refine g_aload_n X dX10_ice_109 rfl rfl ?_
              refine g_getr (r := 134) X kd_114 fc9 (k := 41) (by decide) rfl wd_868 rfl (by decide) dX10_ice_110 ?_
              refine g_iload_n X dX10_ice_113 rfl rfl ?_
              refine g_iload_n X dX10_ice_114 rfl rfl ?_
              refine g_iast X kd_134 (by omega) (by omega) dX10_ice_115 ?_
              refine g_aload_n X dX10_ice_116 rfl rfl ?_
              refine g_getr (r := 135) X kd_114 fc9 (k := 42) (by decide) rfl wd_869 rfl (by decide) dX10_ice_117 ?_
              refine g_iload_n X dX10_ice_120 rfl rfl ?_
              refine g_iload_n X dX10_ice_121 rfl rfl ?_
              refine g_iconst X dX10_ice_122 ?_
              refine g_icmp_ne (tgt := 130) X dX10_ice_123 (by decide) ⟨by omega, by omega⟩ (by decide) (fun q123 => ?_) (fun q123 => ?_)
              · refine g_iload_n X dX10_ice_130 rfl rfl ?_
                refine g_iast X kd_135 (by omega) (by omega) dX10_ice_131 ?_
                refine g_aload_n X dX10_ice_132 rfl rfl ?_
                refine g_geti (kz := 40) X kd_114 fc9 (k := 40) (by decide) rfl wd_867 rfl dX10_ice_133 ?_
                refine g_teq (b := ((M 114 40) + (0 - 0))) (by first | (simp [mu]; done) | (simp only [mu]; repeat (first | rw [if_pos (⟨rfl, rfl⟩)] | rw [if_neg (by omega)]))) ?_
                rw [hQ]
                refine g_iret X hr hlk dX10_ice_136 ?_
                clear X hr hlk hQ
                have pR : iceOut y a b ↔ (¬ (0 ≤ y ∧ y ≤ 400) ∨ ¬ (-1 ≤ a ∧ a ≤ 5) ∨ (a ≠ -1 ∧ ¬ (a ≤ b ∧ b ≤ 5))) := Iff.rfl
                have pU : iceFul M y a ↔ (a ≠ -1 ∧ M 134 y = -1 ∧ M 114 40 = 40) := Iff.rfl
                have b1 := b2i_eq (b := b2i (iceOut y a b)) rfl
                have b2 := b2i_eq (b := b2i (iceFul M y a)) rfl
                exact ⟨by grind, by unfold iceM; grind⟩
              · refine g_iconst X dX10_ice_126 ?_
                refine g_goto (tgt := 131) X dX10_ice_127 (by decide) ?_
                refine g_iast X kd_135 (by omega) (by omega) dX10_ice_131 ?_
                refine g_aload_n X dX10_ice_132 rfl rfl ?_
                refine g_geti (kz := 40) X kd_114 fc9 (k := 40) (by decide) rfl wd_867 rfl dX10_ice_133 ?_
                refine g_teq (b := ((M 114 40) + (0 - 0))) (by first | (simp [mu]; done) | (simp only [mu]; repeat (first | rw [if_pos (⟨rfl, rfl⟩)] | rw [if_neg (by omega)]))) ?_
                rw [hQ]
                refine g_iret X hr hlk dX10_ice_136 ?_
                clear X hr hlk hQ
                have pR : iceOut y a b ↔ (¬ (0 ≤ y ∧ y ≤ 400) ∨ ¬ (-1 ≤ a ∧ a ≤ 5) ∨ (a ≠ -1 ∧ ¬ (a ≤ b ∧ b ≤ 5))) := Iff.rfl
                have pU : iceFul M y a ↔ (a ≠ -1 ∧ M 134 y = -1 ∧ M 114 40 = 40) := Iff.rfl
                have b1 := b2i_eq (b := b2i (iceOut y a b)) rfl
                have b2 := b2i_eq (b := b2i (iceFul M y a)) rfl
                exact ⟨by grind, by unfold iceM; grind⟩
        · refine g_aload_n X dX10_ice_52 rfl rfl ?_
          refine g_getr (r := 134) X kd_114 fc9 (k := 41) (by decide) rfl wd_868 rfl (by decide) dX10_ice_53 ?_
          refine g_iload_n X dX10_ice_56 rfl rfl ?_
          refine g_iald X kd_134 (by omega) (by omega) dX10_ice_57 ?_
          refine g_iconst X dX10_ice_58 ?_
          refine g_icmp_ne (tgt := 74) X dX10_ice_59 (by decide) ⟨by omega, by omega⟩ (by decide) (fun q59 => ?_) (fun q59 => ?_)
          · refine g_aload_n X dX10_ice_74 rfl rfl ?_
            refine g_dup X dX10_ice_75 rfl ?_
            refine g_geti (kz := 40) X kd_114 fc9 (k := 40) (by decide) rfl wd_867 rfl dX10_ice_76 ?_
            refine g_iload_n X dX10_ice_79 rfl rfl ?_
            refine g_iconst X dX10_ice_80 ?_
            refine g_icmp_ne (tgt := 88) X dX10_ice_81 (by decide) ⟨by omega, by omega⟩ (by decide) (fun q81 => ?_) (fun q81 => ?_)
            · refine g_iconst X dX10_ice_88 ?_
              refine g_aload_n X dX10_ice_89 rfl rfl ?_
              refine g_getr (r := 134) X kd_114 fc9 (k := 41) (by decide) rfl wd_868 rfl (by decide) dX10_ice_90 ?_
              refine g_iload_n X dX10_ice_93 rfl rfl ?_
              refine g_iald X kd_134 (by omega) (by omega) dX10_ice_94 ?_
              refine g_iconst X dX10_ice_95 ?_
              refine g_icmp_ne (tgt := 103) X dX10_ice_96 (by decide) ⟨by omega, by omega⟩ (by decide) (fun q96 => ?_) (fun q96 => ?_)
              · refine g_iconst X dX10_ice_103 ?_
                refine g_isub X dX10_ice_104 ?_
                refine g_iadd X dX10_ice_105 ?_
                refine g_puti (kz := 40) X kd_114 fc9 (k := 40) (by decide) rfl wd_867 rfl rfl rfl dX10_ice_106 ?_
                refine g_aload_n X dX10_ice_109 rfl rfl ?_
                refine g_getr (r := 134) X kd_114 fc9 (k := 41) (by decide) rfl wd_868 rfl (by decide) dX10_ice_110 ?_
                refine g_iload_n X dX10_ice_113 rfl rfl ?_
                refine g_iload_n X dX10_ice_114 rfl rfl ?_
                refine g_iast X kd_134 (by omega) (by omega) dX10_ice_115 ?_
                refine g_aload_n X dX10_ice_116 rfl rfl ?_
                refine g_getr (r := 135) X kd_114 fc9 (k := 42) (by decide) rfl wd_869 rfl (by decide) dX10_ice_117 ?_
                refine g_iload_n X dX10_ice_120 rfl rfl ?_
                refine g_iload_n X dX10_ice_121 rfl rfl ?_
                refine g_iconst X dX10_ice_122 ?_
                refine g_icmp_ne (tgt := 130) X dX10_ice_123 (by decide) ⟨by omega, by omega⟩ (by decide) (fun q123 => ?_) (fun q123 => ?_)
                · refine g_iload_n X dX10_ice_130 rfl rfl ?_
                  refine g_iast X kd_135 (by omega) (by omega) dX10_ice_131 ?_
                  refine g_aload_n X dX10_ice_132 rfl rfl ?_
                  refine g_geti (kz := 40) X kd_114 fc9 (k := 40) (by decide) rfl wd_867 rfl dX10_ice_133 ?_
                  refine g_teq (b := ((M 114 40) + (1 - 1))) (by first | (simp [mu]; done) | (simp only [mu]; repeat (first | rw [if_pos (⟨rfl, rfl⟩)] | rw [if_neg (by omega)]))) ?_
                  rw [hQ]
                  refine g_iret X hr hlk dX10_ice_136 ?_
                  clear X hr hlk hQ
                  have pR : iceOut y a b ↔ (¬ (0 ≤ y ∧ y ≤ 400) ∨ ¬ (-1 ≤ a ∧ a ≤ 5) ∨ (a ≠ -1 ∧ ¬ (a ≤ b ∧ b ≤ 5))) := Iff.rfl
                  have pU : iceFul M y a ↔ (a ≠ -1 ∧ M 134 y = -1 ∧ M 114 40 = 40) := Iff.rfl
                  have b1 := b2i_eq (b := b2i (iceOut y a b)) rfl
                  have b2 := b2i_eq (b := b2i (iceFul M y a)) rfl
                  exact ⟨by grind, by unfold iceM; grind⟩
                · refine g_iconst X dX10_ice_126 ?_
                  refine g_goto (tgt := 131) X dX10_ice_127 (by decide) ?_
                  refine g_iast X kd_135 (by omega) (by omega) dX10_ice_131 ?_
                  refine g_aload_n X dX10_ice_132 rfl rfl ?_
                  refine g_geti (kz := 40) X kd_114 fc9 (k := 40) (by decide) rfl wd_867 rfl dX10_ice_133 ?_
                  refine g_teq (b := ((M 114 40) + (1 - 1))) (by first | (simp [mu]; done) | (simp only [mu]; repeat (first | rw [if_pos (⟨rfl, rfl⟩)] | rw [if_neg (by omega)]))) ?_
                  rw [hQ]
                  refine g_iret X hr hlk dX10_ice_136 ?_
                  clear X hr hlk hQ
                  have pR : iceOut y a b ↔ (¬ (0 ≤ y ∧ y ≤ 400) ∨ ¬ (-1 ≤ a ∧ a ≤ 5) ∨ (a ≠ -1 ∧ ¬ (a ≤ b ∧ b ≤ 5))) := Iff.rfl
                  have pU : iceFul M y a ↔ (a ≠ -1 ∧ M 134 y = -1 ∧ M 114 40 = 40) := Iff.rfl
                  have b1 := b2i_eq (b := b2i (iceOut y a b)) rfl
                  have b2 := b2i_eq (b := b2i (iceFul M y a)) rfl
                  exact ⟨by grind, by unfold iceM; grind⟩
              · refine g_iconst X dX10_ice_99 ?_
                refine g_goto (tgt := 104) X dX10_ice_100 (by decide) ?_
                refine g_isub X dX10_ice_104 ?_
                refine g_iadd X dX10_ice_105 ?_
                refine g_puti (kz := 40) X kd_114 fc9 (k := 40) (by decide) rfl wd_867 rfl rfl rfl dX10_ice_106 ?_
                refine g_aload_n X dX10_ice_109 rfl rfl ?_
                refine g_getr (r := 134) X kd_114 fc9 (k := 41) (by decide) rfl wd_868 rfl (by decide) dX10_ice_110 ?_
                refine g_iload_n X dX10_ice_113 rfl rfl ?_
                refine g_iload_n X dX10_ice_114 rfl rfl ?_
                refine g_iast X kd_134 (by omega) (by omega) dX10_ice_115 ?_
                refine g_aload_n X dX10_ice_116 rfl rfl ?_
                refine g_getr (r := 135) X kd_114 fc9 (k := 42) (by decide) rfl wd_869 rfl (by decide) dX10_ice_117 ?_
                refine g_iload_n X dX10_ice_120 rfl rfl ?_
                refine g_iload_n X dX10_ice_121 rfl rfl ?_
                refine g_iconst X dX10_ice_122 ?_
                refine g_icmp_ne (tgt := 130) X dX10_ice_123 (by decide) ⟨by omega, by omega⟩ (by decide) (fun q123 => ?_) (fun q123 => ?_)
                · refine g_iload_n X dX10_ice_130 rfl rfl ?_
                  refine g_iast X kd_135 (by omega) (by omega) dX10_ice_131 ?_
                  refine g_aload_n X dX10_ice_132 rfl rfl ?_
                  refine g_geti (kz := 40) X kd_114 fc9 (k := 40) (by decide) rfl wd_867 rfl dX10_ice_133 ?_
                  refine g_teq (b := ((M 114 40) + (1 - 0))) (by first | (simp [mu]; done) | (simp only [mu]; repeat (first | rw [if_pos (⟨rfl, rfl⟩)] | rw [if_neg (by omega)]))) ?_
                  rw [hQ]
                  refine g_iret X hr hlk dX10_ice_136 ?_
                  clear X hr hlk hQ
                  have pR : iceOut y a b ↔ (¬ (0 ≤ y ∧ y ≤ 400) ∨ ¬ (-1 ≤ a ∧ a ≤ 5) ∨ (a ≠ -1 ∧ ¬ (a ≤ b ∧ b ≤ 5))) := Iff.rfl
                  have pU : iceFul M y a ↔ (a ≠ -1 ∧ M 134 y = -1 ∧ M 114 40 = 40) := Iff.rfl
                  have b1 := b2i_eq (b := b2i (iceOut y a b)) rfl
                  have b2 := b2i_eq (b := b2i (iceFul M y a)) rfl
                  exact ⟨by grind, by unfold iceM; grind⟩
                · refine g_iconst X dX10_ice_126 ?_
                  refine g_goto (tgt := 131) X dX10_ice_127 (by decide) ?_
                  refine g_iast X kd_135 (by omega) (by omega) dX10_ice_131 ?_
                  refine g_aload_n X dX10_ice_132 rfl rfl ?_
                  refine g_geti (kz := 40) X kd_114 fc9 (k := 40) (by decide) rfl wd_867 rfl dX10_ice_133 ?_
                  refine g_teq (b := ((M 114 40) + (1 - 0))) (by first | (simp [mu]; done) | (simp only [mu]; repeat (first | rw [if_pos (⟨rfl, rfl⟩)] | rw [if_neg (by omega)]))) ?_
                  rw [hQ]
                  refine g_iret X hr hlk dX10_ice_136 ?_
                  clear X hr hlk hQ
                  have pR : iceOut y a b ↔ (¬ (0 ≤ y ∧ y ≤ 400) ∨ ¬ (-1 ≤ a ∧ a ≤ 5) ∨ (a ≠ -1 ∧ ¬ (a ≤ b ∧ b ≤ 5))) := Iff.rfl
                  have pU : iceFul M y a ↔ (a ≠ -1 ∧ M 134 y = -1 ∧ M 114 40 = 40) := Iff.rfl
                  have b1 := b2i_eq (b := b2i (iceOut y a b)) rfl
                  have b2 := b2i_eq (b := b2i (iceFul M y a)) rfl
                  exact ⟨by grind, by unfold iceM; grind⟩
            · refine g_iconst X dX10_ice_84 ?_
              refine g_goto (tgt := 89) X dX10_ice_85 (by decide) ?_
              refine g_aload_n X dX10_ice_89 rfl rfl ?_
              refine g_getr (r := 134) X kd_114 fc9 (k := 41) (by decide) rfl wd_868 rfl (by decide) dX10_ice_90 ?_
              refine g_iload_n X dX10_ice_93 rfl rfl ?_
              refine g_iald X kd_134 (by omega) (by omega) dX10_ice_94 ?_
              refine g_iconst X dX10_ice_95 ?_
              refine g_icmp_ne (tgt := 103) X dX10_ice_96 (by decide) ⟨by omega, by omega⟩ (by decide) (fun q96 => ?_) (fun q96 => ?_)
              · refine g_iconst X dX10_ice_103 ?_
                refine g_isub X dX10_ice_104 ?_
                refine g_iadd X dX10_ice_105 ?_
                refine g_puti (kz := 40) X kd_114 fc9 (k := 40) (by decide) rfl wd_867 rfl rfl rfl dX10_ice_106 ?_
                refine g_aload_n X dX10_ice_109 rfl rfl ?_
                refine g_getr (r := 134) X kd_114 fc9 (k := 41) (by decide) rfl wd_868 rfl (by decide) dX10_ice_110 ?_
                refine g_iload_n X dX10_ice_113 rfl rfl ?_
                refine g_iload_n X dX10_ice_114 rfl rfl ?_
                refine g_iast X kd_134 (by omega) (by omega) dX10_ice_115 ?_
                refine g_aload_n X dX10_ice_116 rfl rfl ?_
                refine g_getr (r := 135) X kd_114 fc9 (k := 42) (by decide) rfl wd_869 rfl (by decide) dX10_ice_117 ?_
                refine g_iload_n X dX10_ice_120 rfl rfl ?_
                refine g_iload_n X dX10_ice_121 rfl rfl ?_
                refine g_iconst X dX10_ice_122 ?_
                refine g_icmp_ne (tgt := 130) X dX10_ice_123 (by decide) ⟨by omega, by omega⟩ (by decide) (fun q123 => ?_) (fun q123 => ?_)
                · refine g_iload_n X dX10_ice_130 rfl rfl ?_
                  refine g_iast X kd_135 (by omega) (by omega) dX10_ice_131 ?_
                  refine g_aload_n X dX10_ice_132 rfl rfl ?_
                  refine g_geti (kz := 40) X kd_114 fc9 (k := 40) (by decide) rfl wd_867 rfl dX10_ice_133 ?_
                  refine g_teq (b := ((M 114 40) + (0 - 1))) (by first | (simp [mu]; done) | (simp only [mu]; repeat (first | rw [if_pos (⟨rfl, rfl⟩)] | rw [if_neg (by omega)]))) ?_
                  rw [hQ]
                  refine g_iret X hr hlk dX10_ice_136 ?_
                  clear X hr hlk hQ
                  have pR : iceOut y a b ↔ (¬ (0 ≤ y ∧ y ≤ 400) ∨ ¬ (-1 ≤ a ∧ a ≤ 5) ∨ (a ≠ -1 ∧ ¬ (a ≤ b ∧ b ≤ 5))) := Iff.rfl
                  have pU : iceFul M y a ↔ (a ≠ -1 ∧ M 134 y = -1 ∧ M 114 40 = 40) := Iff.rfl
                  have b1 := b2i_eq (b := b2i (iceOut y a b)) rfl
                  have b2 := b2i_eq (b := b2i (iceFul M y a)) rfl
                  exact ⟨by grind, by unfold iceM; grind⟩
                · refine g_iconst X dX10_ice_126 ?_
                  refine g_goto (tgt := 131) X dX10_ice_127 (by decide) ?_
                  refine g_iast X kd_135 (by omega) (by omega) dX10_ice_131 ?_
                  refine g_aload_n X dX10_ice_132 rfl rfl ?_
                  refine g_geti (kz := 40) X kd_114 fc9 (k := 40) (by decide) rfl wd_867 rfl dX10_ice_133 ?_
                  refine g_teq (b := ((M 114 40) + (0 - 1))) (by first | (simp [mu]; done) | (simp only [mu]; repeat (first | rw [if_pos (⟨rfl, rfl⟩)] | rw [if_neg (by omega)]))) ?_
                  rw [hQ]
                  refine g_iret X hr hlk dX10_ice_136 ?_
                  clear X hr hlk hQ
                  have pR : iceOut y a b ↔ (¬ (0 ≤ y ∧ y ≤ 400) ∨ ¬ (-1 ≤ a ∧ a ≤ 5) ∨ (a ≠ -1 ∧ ¬ (a ≤ b ∧ b ≤ 5))) := Iff.rfl
                  have pU : iceFul M y a ↔ (a ≠ -1 ∧ M 134 y = -1 ∧ M 114 40 = 40) := Iff.rfl
                  have b1 := b2i_eq (b := b2i (iceOut y a b)) rfl
                  have b2 := b2i_eq (b := b2i (iceFul M y a)) rfl
                  exact ⟨by grind, by unfold iceM; grind⟩
              · refine g_iconst X dX10_ice_99 ?_
                refine g_goto (tgt := 104) X dX10_ice_100 (by decide) ?_
                refine g_isub X dX10_ice_104 ?_
                refine g_iadd X dX10_ice_105 ?_
                refine g_puti (kz := 40) X kd_114 fc9 (k := 40) (by decide) rfl wd_867 rfl rfl rfl dX10_ice_106 ?_
                refine g_aload_n X dX10_ice_109 rfl rfl ?_
                refine g_getr (r := 134) X kd_114 fc9 (k := 41) (by decide) rfl wd_868 rfl (by decide) dX10_ice_110 ?_
                refine g_iload_n X dX10_ice_113 rfl rfl ?_
                refine g_iload_n X dX10_ice_114 rfl rfl ?_
                refine g_iast X kd_134 (by omega) (by omega) dX10_ice_115 ?_
                refine g_aload_n X dX10_ice_116 rfl rfl ?_
                refine g_getr (r := 135) X kd_114 fc9 (k := 42) (by decide) rfl wd_869 rfl (by decide) dX10_ice_117 ?_
                refine g_iload_n X dX10_ice_120 rfl rfl ?_
                refine g_iload_n X dX10_ice_121 rfl rfl ?_
                refine g_iconst X dX10_ice_122 ?_
                refine g_icmp_ne (tgt := 130) X dX10_ice_123 (by decide) ⟨by omega, by omega⟩ (by decide) (fun q123 => ?_) (fun q123 => ?_)
                · refine g_iload_n X dX10_ice_130 rfl rfl ?_
                  refine g_iast X kd_135 (by omega) (by omega) dX10_ice_131 ?_
                  refine g_aload_n X dX10_ice_132 rfl rfl ?_
                  refine g_geti (kz := 40) X kd_114 fc9 (k := 40) (by decide) rfl wd_867 rfl dX10_ice_133 ?_
                  refine g_teq (b := ((M 114 40) + (0 - 0))) (by first | (simp [mu]; done) | (simp only [mu]; repeat (first | rw [if_pos (⟨rfl, rfl⟩)] | rw [if_neg (by omega)]))) ?_
                  rw [hQ]
                  refine g_iret X hr hlk dX10_ice_136 ?_
                  clear X hr hlk hQ
                  have pR : iceOut y a b ↔ (¬ (0 ≤ y ∧ y ≤ 400) ∨ ¬ (-1 ≤ a ∧ a ≤ 5) ∨ (a ≠ -1 ∧ ¬ (a ≤ b ∧ b ≤ 5))) := Iff.rfl
                  have pU : iceFul M y a ↔ (a ≠ -1 ∧ M 134 y = -1 ∧ M 114 40 = 40) := Iff.rfl
                  have b1 := b2i_eq (b := b2i (iceOut y a b)) rfl
                  have b2 := b2i_eq (b := b2i (iceFul M y a)) rfl
                  exact ⟨by grind, by unfold iceM; grind⟩
                · refine g_iconst X dX10_ice_126 ?_
                  refine g_goto (tgt := 131) X dX10_ice_127 (by decide) ?_
                  refine g_iast X kd_135 (by omega) (by omega) dX10_ice_131 ?_
                  refine g_aload_n X dX10_ice_132 rfl rfl ?_
                  refine g_geti (kz := 40) X kd_114 fc9 (k := 40) (by decide) rfl wd_867 rfl dX10_ice_133 ?_
                  refine g_teq (b := ((M 114 40) + (0 - 0))) (by first | (simp [mu]; done) | (simp only [mu]; repeat (first | rw [if_pos (⟨rfl, rfl⟩)] | rw [if_neg (by omega)]))) ?_
                  rw [hQ]
                  refine g_iret X hr hlk dX10_ice_136 ?_
                  clear X hr hlk hQ
                  have pR : iceOut y a b ↔ (¬ (0 ≤ y ∧ y ≤ 400) ∨ ¬ (-1 ≤ a ∧ a ≤ 5) ∨ (a ≠ -1 ∧ ¬ (a ≤ b ∧ b ≤ 5))) := Iff.rfl
                  have pU : iceFul M y a ↔ (a ≠ -1 ∧ M 134 y = -1 ∧ M 114 40 = 40) := Iff.rfl
                  have b1 := b2i_eq (b := b2i (iceOut y a b)) rfl
                  have b2 := b2i_eq (b := b2i (iceFul M y a)) rfl
                  exact ⟨by grind, by unfold iceM; grind⟩
          · refine g_aload_n X dX10_ice_62 rfl rfl ?_
            refine g_geti (kz := 40) X kd_114 fc9 (k := 40) (by decide) rfl wd_867 rfl dX10_ice_63 ?_
            refine g_bipush X dX10_ice_66 (by decide +kernel) ?_
            refine g_icmp_ne (tgt := 74) X dX10_ice_68 (by decide) ⟨by omega, by omega⟩ (by decide) (fun q68 => ?_) (fun q68 => ?_)
            · refine g_aload_n X dX10_ice_74 rfl rfl ?_
              refine g_dup X dX10_ice_75 rfl ?_
              refine g_geti (kz := 40) X kd_114 fc9 (k := 40) (by decide) rfl wd_867 rfl dX10_ice_76 ?_
              refine g_iload_n X dX10_ice_79 rfl rfl ?_
              refine g_iconst X dX10_ice_80 ?_
              refine g_icmp_ne (tgt := 88) X dX10_ice_81 (by decide) ⟨by omega, by omega⟩ (by decide) (fun q81 => ?_) (fun q81 => ?_)
              · refine g_iconst X dX10_ice_88 ?_
                refine g_aload_n X dX10_ice_89 rfl rfl ?_
                refine g_getr (r := 134) X kd_114 fc9 (k := 41) (by decide) rfl wd_868 rfl (by decide) dX10_ice_90 ?_
                refine g_iload_n X dX10_ice_93 rfl rfl ?_
                refine g_iald X kd_134 (by omega) (by omega) dX10_ice_94 ?_
                refine g_iconst X dX10_ice_95 ?_
                refine g_icmp_ne (tgt := 103) X dX10_ice_96 (by decide) ⟨by omega, by omega⟩ (by decide) (fun q96 => ?_) (fun q96 => ?_)
                · refine g_iconst X dX10_ice_103 ?_
                  refine g_isub X dX10_ice_104 ?_
                  refine g_iadd X dX10_ice_105 ?_
                  refine g_puti (kz := 40) X kd_114 fc9 (k := 40) (by decide) rfl wd_867 rfl rfl rfl dX10_ice_106 ?_
                  refine g_aload_n X dX10_ice_109 rfl rfl ?_
                  refine g_getr (r := 134) X kd_114 fc9 (k := 41) (by decide) rfl wd_868 rfl (by decide) dX10_ice_110 ?_
                  refine g_iload_n X dX10_ice_113 rfl rfl ?_
                  refine g_iload_n X dX10_ice_114 rfl rfl ?_
                  refine g_iast X kd_134 (by omega) (by omega) dX10_ice_115 ?_
                  refine g_aload_n X dX10_ice_116 rfl rfl ?_
                  refine g_getr (r := 135) X kd_114 fc9 (k := 42) (by decide) rfl wd_869 rfl (by decide) dX10_ice_117 ?_
                  refine g_iload_n X dX10_ice_120 rfl rfl ?_
                  refine g_iload_n X dX10_ice_121 rfl rfl ?_
                  refine g_iconst X dX10_ice_122 ?_
                  refine g_icmp_ne (tgt := 130) X dX10_ice_123 (by decide) ⟨by omega, by omega⟩ (by decide) (fun q123 => ?_) (fun q123 => ?_)
                  · refine g_iload_n X dX10_ice_130 rfl rfl ?_
                    refine g_iast X kd_135 (by omega) (by omega) dX10_ice_131 ?_
                    refine g_aload_n X dX10_ice_132 rfl rfl ?_
                    refine g_geti (kz := 40) X kd_114 fc9 (k := 40) (by decide) rfl wd_867 rfl dX10_ice_133 ?_
                    refine g_teq (b := ((M 114 40) + (1 - 1))) (by first | (simp [mu]; done) | (simp only [mu]; repeat (first | rw [if_pos (⟨rfl, rfl⟩)] | rw [if_neg (by omega)]))) ?_
                    rw [hQ]
                    refine g_iret X hr hlk dX10_ice_136 ?_
                    clear X hr hlk hQ
                    have pR : iceOut y a b ↔ (¬ (0 ≤ y ∧ y ≤ 400) ∨ ¬ (-1 ≤ a ∧ a ≤ 5) ∨ (a ≠ -1 ∧ ¬ (a ≤ b ∧ b ≤ 5))) := Iff.rfl
                    have pU : iceFul M y a ↔ (a ≠ -1 ∧ M 134 y = -1 ∧ M 114 40 = 40) := Iff.rfl
                    have b1 := b2i_eq (b := b2i (iceOut y a b)) rfl
                    have b2 := b2i_eq (b := b2i (iceFul M y a)) rfl
                    exact ⟨by grind, by unfold iceM; grind⟩
                  · refine g_iconst X dX10_ice_126 ?_
                    refine g_goto (tgt := 131) X dX10_ice_127 (by decide) ?_
                    refine g_iast X kd_135 (by omega) (by omega) dX10_ice_131 ?_
                    refine g_aload_n X dX10_ice_132 rfl rfl ?_
                    refine g_geti (kz := 40) X kd_114 fc9 (k := 40) (by decide) rfl wd_867 rfl dX10_ice_133 ?_
                    refine g_teq (b := ((M 114 40) + (1 - 1))) (by first | (simp [mu]; done) | (simp only [mu]; repeat (first | rw [if_pos (⟨rfl, rfl⟩)] | rw [if_neg (by omega)]))) ?_
                    rw [hQ]
                    refine g_iret X hr hlk dX10_ice_136 ?_
                    clear X hr hlk hQ
                    have pR : iceOut y a b ↔ (¬ (0 ≤ y ∧ y ≤ 400) ∨ ¬ (-1 ≤ a ∧ a ≤ 5) ∨ (a ≠ -1 ∧ ¬ (a ≤ b ∧ b ≤ 5))) := Iff.rfl
                    have pU : iceFul M y a ↔ (a ≠ -1 ∧ M 134 y = -1 ∧ M 114 40 = 40) := Iff.rfl
                    have b1 := b2i_eq (b := b2i (iceOut y a b)) rfl
                    have b2 := b2i_eq (b := b2i (iceFul M y a)) rfl
                    exact ⟨by grind, by unfold iceM; grind⟩
                · refine g_iconst X dX10_ice_99 ?_
                  refine g_goto (tgt := 104) X dX10_ice_100 (by decide) ?_
                  refine g_isub X dX10_ice_104 ?_
                  refine g_iadd X dX10_ice_105 ?_
                  refine g_puti (kz := 40) X kd_114 fc9 (k := 40) (by decide) rfl wd_867 rfl rfl rfl dX10_ice_106 ?_
                  refine g_aload_n X dX10_ice_109 rfl rfl ?_
                  refine g_getr (r := 134) X kd_114 fc9 (k := 41) (by decide) rfl wd_868 rfl (by decide) dX10_ice_110 ?_
                  refine g_iload_n X dX10_ice_113 rfl rfl ?_
                  refine g_iload_n X dX10_ice_114 rfl rfl ?_
                  refine g_iast X kd_134 (by omega) (by omega) dX10_ice_115 ?_
                  refine g_aload_n X dX10_ice_116 rfl rfl ?_
                  refine g_getr (r := 135) X kd_114 fc9 (k := 42) (by decide) rfl wd_869 rfl (by decide) dX10_ice_117 ?_
                  refine g_iload_n X dX10_ice_120 rfl rfl ?_
                  refine g_iload_n X dX10_ice_121 rfl rfl ?_
                  refine g_iconst X dX10_ice_122 ?_
                  refine g_icmp_ne (tgt := 130) X dX10_ice_123 (by decide) ⟨by omega, by omega⟩ (by decide) (fun q123 => ?_) (fun q123 => ?_)
                  · refine g_iload_n X dX10_ice_130 rfl rfl ?_
                    refine g_iast X kd_135 (by omega) (by omega) dX10_ice_131 ?_
                    refine g_aload_n X dX10_ice_132 rfl rfl ?_
                    refine g_geti (kz := 40) X kd_114 fc9 (k := 40) (by decide) rfl wd_867 rfl dX10_ice_133 ?_
                    refine g_teq (b := ((M 114 40) + (1 - 0))) (by first | (simp [mu]; done) | (simp only [mu]; repeat (first | rw [if_pos (⟨rfl, rfl⟩)] | rw [if_neg (by omega)]))) ?_
                    rw [hQ]
                    refine g_iret X hr hlk dX10_ice_136 ?_
                    clear X hr hlk hQ
                    have pR : iceOut y a b ↔ (¬ (0 ≤ y ∧ y ≤ 400) ∨ ¬ (-1 ≤ a ∧ a ≤ 5) ∨ (a ≠ -1 ∧ ¬ (a ≤ b ∧ b ≤ 5))) := Iff.rfl
                    have pU : iceFul M y a ↔ (a ≠ -1 ∧ M 134 y = -1 ∧ M 114 40 = 40) := Iff.rfl
                    have b1 := b2i_eq (b := b2i (iceOut y a b)) rfl
                    have b2 := b2i_eq (b := b2i (iceFul M y a)) rfl
                    exact ⟨by grind, by unfold iceM; grind⟩
                  · refine g_iconst X dX10_ice_126 ?_
                    refine g_goto (tgt := 131) X dX10_ice_127 (by decide) ?_
                    refine g_iast X kd_135 (by omega) (by omega) dX10_ice_131 ?_
                    refine g_aload_n X dX10_ice_132 rfl rfl ?_
                    refine g_geti (kz := 40) X kd_114 fc9 (k := 40) (by decide) rfl wd_867 rfl dX10_ice_133 ?_
                    refine g_teq (b := ((M 114 40) + (1 - 0))) (by first | (simp [mu]; done) | (simp only [mu]; repeat (first | rw [if_pos (⟨rfl, rfl⟩)] | rw [if_neg (by omega)]))) ?_
                    rw [hQ]
                    refine g_iret X hr hlk dX10_ice_136 ?_
                    clear X hr hlk hQ
                    have pR : iceOut y a b ↔ (¬ (0 ≤ y ∧ y ≤ 400) ∨ ¬ (-1 ≤ a ∧ a ≤ 5) ∨ (a ≠ -1 ∧ ¬ (a ≤ b ∧ b ≤ 5))) := Iff.rfl
                    have pU : iceFul M y a ↔ (a ≠ -1 ∧ M 134 y = -1 ∧ M 114 40 = 40) := Iff.rfl
                    have b1 := b2i_eq (b := b2i (iceOut y a b)) rfl
                    have b2 := b2i_eq (b := b2i (iceFul M y a)) rfl
                    exact ⟨by grind, by unfold iceM; grind⟩
              · refine g_iconst X dX10_ice_84 ?_
                refine g_goto (tgt := 89) X dX10_ice_85 (by decide) ?_
                refine g_aload_n X dX10_ice_89 rfl rfl ?_
                refine g_getr (r := 134) X kd_114 fc9 (k := 41) (by decide) rfl wd_868 rfl (by decide) dX10_ice_90 ?_
                refine g_iload_n X dX10_ice_93 rfl rfl ?_
                refine g_iald X kd_134 (by omega) (by omega) dX10_ice_94 ?_
                refine g_iconst X dX10_ice_95 ?_
                refine g_icmp_ne (tgt := 103) X dX10_ice_96 (by decide) ⟨by omega, by omega⟩ (by decide) (fun q96 => ?_) (fun q96 => ?_)
                · refine g_iconst X dX10_ice_103 ?_
                  refine g_isub X dX10_ice_104 ?_
                  refine g_iadd X dX10_ice_105 ?_
                  refine g_puti (kz := 40) X kd_114 fc9 (k := 40) (by decide) rfl wd_867 rfl rfl rfl dX10_ice_106 ?_
                  refine g_aload_n X dX10_ice_109 rfl rfl ?_
                  refine g_getr (r := 134) X kd_114 fc9 (k := 41) (by decide) rfl wd_868 rfl (by decide) dX10_ice_110 ?_
                  refine g_iload_n X dX10_ice_113 rfl rfl ?_
                  refine g_iload_n X dX10_ice_114 rfl rfl ?_
                  refine g_iast X kd_134 (by omega) (by omega) dX10_ice_115 ?_
                  refine g_aload_n X dX10_ice_116 rfl rfl ?_
                  refine g_getr (r := 135) X kd_114 fc9 (k := 42) (by decide) rfl wd_869 rfl (by decide) dX10_ice_117 ?_
                  refine g_iload_n X dX10_ice_120 rfl rfl ?_
                  refine g_iload_n X dX10_ice_121 rfl rfl ?_
                  refine g_iconst X dX10_ice_122 ?_
                  refine g_icmp_ne (tgt := 130) X dX10_ice_123 (by decide) ⟨by omega, by omega⟩ (by decide) (fun q123 => ?_) (fun q123 => ?_)
                  · refine g_iload_n X dX10_ice_130 rfl rfl ?_
                    refine g_iast X kd_135 (by omega) (by omega) dX10_ice_131 ?_
                    refine g_aload_n X dX10_ice_132 rfl rfl ?_
                    refine g_geti (kz := 40) X kd_114 fc9 (k := 40) (by decide) rfl wd_867 rfl dX10_ice_133 ?_
                    refine g_teq (b := ((M 114 40) + (0 - 1))) (by first | (simp [mu]; done) | (simp only [mu]; repeat (first | rw [if_pos (⟨rfl, rfl⟩)] | rw [if_neg (by omega)]))) ?_
                    rw [hQ]
                    refine g_iret X hr hlk dX10_ice_136 ?_
                    clear X hr hlk hQ
                    have pR : iceOut y a b ↔ (¬ (0 ≤ y ∧ y ≤ 400) ∨ ¬ (-1 ≤ a ∧ a ≤ 5) ∨ (a ≠ -1 ∧ ¬ (a ≤ b ∧ b ≤ 5))) := Iff.rfl
                    have pU : iceFul M y a ↔ (a ≠ -1 ∧ M 134 y = -1 ∧ M 114 40 = 40) := Iff.rfl
                    have b1 := b2i_eq (b := b2i (iceOut y a b)) rfl
                    have b2 := b2i_eq (b := b2i (iceFul M y a)) rfl
                    exact ⟨by grind, by unfold iceM; grind⟩
                  · refine g_iconst X dX10_ice_126 ?_
                    refine g_goto (tgt := 131) X dX10_ice_127 (by decide) ?_
                    refine g_iast X kd_135 (by omega) (by omega) dX10_ice_131 ?_
                    refine g_aload_n X dX10_ice_132 rfl rfl ?_
                    refine g_geti (kz := 40) X kd_114 fc9 (k := 40) (by decide) rfl wd_867 rfl dX10_ice_133 ?_
                    refine g_teq (b := ((M 114 40) + (0 - 1))) (by first | (simp [mu]; done) | (simp only [mu]; repeat (first | rw [if_pos (⟨rfl, rfl⟩)] | rw [if_neg (by omega)]))) ?_
                    rw [hQ]
                    refine g_iret X hr hlk dX10_ice_136 ?_
                    clear X hr hlk hQ
                    have pR : iceOut y a b ↔ (¬ (0 ≤ y ∧ y ≤ 400) ∨ ¬ (-1 ≤ a ∧ a ≤ 5) ∨ (a ≠ -1 ∧ ¬ (a ≤ b ∧ b ≤ 5))) := Iff.rfl
                    have pU : iceFul M y a ↔ (a ≠ -1 ∧ M 134 y = -1 ∧ M 114 40 = 40) := Iff.rfl
                    have b1 := b2i_eq (b := b2i (iceOut y a b)) rfl
                    have b2 := b2i_eq (b := b2i (iceFul M y a)) rfl
                    exact ⟨by grind, by unfold iceM; grind⟩
                · refine g_iconst X dX10_ice_99 ?_
                  refine g_goto (tgt := 104) X dX10_ice_100 (by decide) ?_
                  refine g_isub X dX10_ice_104 ?_
                  refine g_iadd X dX10_ice_105 ?_
                  refine g_puti (kz := 40) X kd_114 fc9 (k := 40) (by decide) rfl wd_867 rfl rfl rfl dX10_ice_106 ?_
                  refine g_aload_n X dX10_ice_109 rfl rfl ?_
                  refine g_getr (r := 134) X kd_114 fc9 (k := 41) (by decide) rfl wd_868 rfl (by decide) dX10_ice_110 ?_
                  refine g_iload_n X dX10_ice_113 rfl rfl ?_
                  refine g_iload_n X dX10_ice_114 rfl rfl ?_
                  refine g_iast X kd_134 (by omega) (by omega) dX10_ice_115 ?_
                  refine g_aload_n X dX10_ice_116 rfl rfl ?_
                  refine g_getr (r := 135) X kd_114 fc9 (k := 42) (by decide) rfl wd_869 rfl (by decide) dX10_ice_117 ?_
                  refine g_iload_n X dX10_ice_120 rfl rfl ?_
                  refine g_iload_n X dX10_ice_121 rfl rfl ?_
                  refine g_iconst X dX10_ice_122 ?_
                  refine g_icmp_ne (tgt := 130) X dX10_ice_123 (by decide) ⟨by omega, by omega⟩ (by decide) (fun q123 => ?_) (fun q123 => ?_)
                  · refine g_iload_n X dX10_ice_130 rfl rfl ?_
                    refine g_iast X kd_135 (by omega) (by omega) dX10_ice_131 ?_
                    refine g_aload_n X dX10_ice_132 rfl rfl ?_
                    refine g_geti (kz := 40) X kd_114 fc9 (k := 40) (by decide) rfl wd_867 rfl dX10_ice_133 ?_
                    refine g_teq (b := ((M 114 40) + (0 - 0))) (by first | (simp [mu]; done) | (simp only [mu]; repeat (first | rw [if_pos (⟨rfl, rfl⟩)] | rw [if_neg (by omega)]))) ?_
                    rw [hQ]
                    refine g_iret X hr hlk dX10_ice_136 ?_
                    clear X hr hlk hQ
                    have pR : iceOut y a b ↔ (¬ (0 ≤ y ∧ y ≤ 400) ∨ ¬ (-1 ≤ a ∧ a ≤ 5) ∨ (a ≠ -1 ∧ ¬ (a ≤ b ∧ b ≤ 5))) := Iff.rfl
                    have pU : iceFul M y a ↔ (a ≠ -1 ∧ M 134 y = -1 ∧ M 114 40 = 40) := Iff.rfl
                    have b1 := b2i_eq (b := b2i (iceOut y a b)) rfl
                    have b2 := b2i_eq (b := b2i (iceFul M y a)) rfl
                    exact ⟨by grind, by unfold iceM; grind⟩
                  · refine g_iconst X dX10_ice_126 ?_
                    refine g_goto (tgt := 131) X dX10_ice_127 (by decide) ?_
                    refine g_iast X kd_135 (by omega) (by omega) dX10_ice_131 ?_
                    refine g_aload_n X dX10_ice_132 rfl rfl ?_
                    refine g_geti (kz := 40) X kd_114 fc9 (k := 40) (by decide) rfl wd_867 rfl dX10_ice_133 ?_
                    refine g_teq (b := ((M 114 40) + (0 - 0))) (by first | (simp [mu]; done) | (simp only [mu]; repeat (first | rw [if_pos (⟨rfl, rfl⟩)] | rw [if_neg (by omega)]))) ?_
                    rw [hQ]
                    refine g_iret X hr hlk dX10_ice_136 ?_
                    clear X hr hlk hQ
                    have pR : iceOut y a b ↔ (¬ (0 ≤ y ∧ y ≤ 400) ∨ ¬ (-1 ≤ a ∧ a ≤ 5) ∨ (a ≠ -1 ∧ ¬ (a ≤ b ∧ b ≤ 5))) := Iff.rfl
                    have pU : iceFul M y a ↔ (a ≠ -1 ∧ M 134 y = -1 ∧ M 114 40 = 40) := Iff.rfl
                    have b1 := b2i_eq (b := b2i (iceOut y a b)) rfl
                    have b2 := b2i_eq (b := b2i (iceFul M y a)) rfl
                    exact ⟨by grind, by unfold iceM; grind⟩
            · refine g_bipush X dX10_ice_71 (by decide +kernel) ?_
              rw [hQ]
              refine g_iret X hr hlk dX10_ice_73 ?_
              clear X hr hlk hQ
              have pR : iceOut y a b ↔ (¬ (0 ≤ y ∧ y ≤ 400) ∨ ¬ (-1 ≤ a ∧ a ≤ 5) ∨ (a ≠ -1 ∧ ¬ (a ≤ b ∧ b ≤ 5))) := Iff.rfl
              have pU : iceFul M y a ↔ (a ≠ -1 ∧ M 134 y = -1 ∧ M 114 40 = 40) := Iff.rfl
              have b1 := b2i_eq (b := b2i (iceOut y a b)) rfl
              have b2 := b2i_eq (b := b2i (iceFul M y a)) rfl
              exact ⟨by grind, by unfold iceM; grind⟩
      · refine g_iload_n X dX10_ice_31 rfl rfl ?_
        refine g_i2l X dX10_ice_32 ⟨by omega, by omega⟩ ?_
        refine g_iload_n X dX10_ice_33 rfl rfl ?_
        refine g_i2l X dX10_ice_34 ⟨by omega, by omega⟩ ?_
        refine g_ldc2 X (n := 5) wd_1087 (by decide +kernel) dX10_ice_35 ?_
        refine g_callSI X (c_X10_in lL tT dD al _ _ _ _ ⟨by omega, by omega⟩ ⟨by omega, by omega⟩ (by decide)) lk_RX10_98 rfl rfl ⟨by decide, by decide⟩ rfl (Nat.le_of_ble_eq_true rfl) dX10_ice_38 (fun r38 M38 hc38 => ?_)
        obtain ⟨hr38, hm38⟩ := hc38
        subst r38
        subst M38
        refine g_if_ne (tgt := 47) X dX10_ice_41 (by decide) (b2i_i32 _) (fun q41 => ?_) (fun q41 => ?_)
        · have q41 := b2i_t q41
          have w4 := hW.ice (y := y) (by omega) (by omega)
          refine g_iload_n X dX10_ice_47 rfl rfl ?_
          refine g_iconst X dX10_ice_48 ?_
          refine g_icmp_eq (tgt := 74) X dX10_ice_49 (by decide) ⟨by omega, by omega⟩ (by decide) (fun q49 => ?_) (fun q49 => ?_)
          · refine g_aload_n X dX10_ice_74 rfl rfl ?_
            refine g_dup X dX10_ice_75 rfl ?_
            refine g_geti (kz := 40) X kd_114 fc9 (k := 40) (by decide) rfl wd_867 rfl dX10_ice_76 ?_
            refine g_iload_n X dX10_ice_79 rfl rfl ?_
            refine g_iconst X dX10_ice_80 ?_
            refine g_icmp_ne (tgt := 88) X dX10_ice_81 (by decide) ⟨by omega, by omega⟩ (by decide) (fun q81 => ?_) (fun q81 => ?_)
            · refine g_iconst X dX10_ice_88 ?_
              refine g_aload_n X dX10_ice_89 rfl rfl ?_
              refine g_getr (r := 134) X kd_114 fc9 (k := 41) (by decide) rfl wd_868 rfl (by decide) dX10_ice_90 ?_
              refine g_iload_n X dX10_ice_93 rfl rfl ?_
              refine g_iald X kd_134 (by omega) (by omega) dX10_ice_94 ?_
              refine g_iconst X dX10_ice_95 ?_
              refine g_icmp_ne (tgt := 103) X dX10_ice_96 (by decide) ⟨by omega, by omega⟩ (by decide) (fun q96 => ?_) (fun q96 => ?_)
              · refine g_iconst X dX10_ice_103 ?_
                refine g_isub X dX10_ice_104 ?_
                refine g_iadd X dX10_ice_105 ?_
                refine g_puti (kz := 40) X kd_114 fc9 (k := 40) (by decide) rfl wd_867 rfl rfl rfl dX10_ice_106 ?_
                refine g_aload_n X dX10_ice_109 rfl rfl ?_
                refine g_getr (r := 134) X kd_114 fc9 (k := 41) (by decide) rfl wd_868 rfl (by decide) dX10_ice_110 ?_
                refine g_iload_n X dX10_ice_113 rfl rfl ?_
                refine g_iload_n X dX10_ice_114 rfl rfl ?_
                refine g_iast X kd_134 (by omega) (by omega) dX10_ice_115 ?_
                refine g_aload_n X dX10_ice_116 rfl rfl ?_
                refine g_getr (r := 135) X kd_114 fc9 (k := 42) (by decide) rfl wd_869 rfl (by decide) dX10_ice_117 ?_
                refine g_iload_n X dX10_ice_120 rfl rfl ?_
                refine g_iload_n X dX10_ice_121 rfl rfl ?_
                refine g_iconst X dX10_ice_122 ?_
                refine g_icmp_ne (tgt := 130) X dX10_ice_123 (by decide) ⟨by omega, by omega⟩ (by decide) (fun q123 => ?_) (fun q123 => ?_)
                · refine g_iload_n X dX10_ice_130 rfl rfl ?_
                  refine g_iast X kd_135 (by omega) (by omega) dX10_ice_131 ?_
                  refine g_aload_n X dX10_ice_132 rfl rfl ?_
                  refine g_geti (kz := 40) X kd_114 fc9 (k := 40) (by decide) rfl wd_867 rfl dX10_ice_133 ?_
                  refine g_teq (b := ((M 114 40) + (1 - 1))) (by first | (simp [mu]; done) | (simp only [mu]; repeat (first | rw [if_pos (⟨rfl, rfl⟩)] | rw [if_neg (by omega)]))) ?_
                  rw [hQ]
                  refine g_iret X hr hlk dX10_ice_136 ?_
                  clear X hr hlk hQ
                  have pR : iceOut y a b ↔ (¬ (0 ≤ y ∧ y ≤ 400) ∨ ¬ (-1 ≤ a ∧ a ≤ 5) ∨ (a ≠ -1 ∧ ¬ (a ≤ b ∧ b ≤ 5))) := Iff.rfl
                  have pU : iceFul M y a ↔ (a ≠ -1 ∧ M 134 y = -1 ∧ M 114 40 = 40) := Iff.rfl
                  have b1 := b2i_eq (b := b2i (iceOut y a b)) rfl
                  have b2 := b2i_eq (b := b2i (iceFul M y a)) rfl
                  exact ⟨by grind, by unfold iceM; grind⟩
                · refine g_iconst X dX10_ice_126 ?_
                  refine g_goto (tgt := 131) X dX10_ice_127 (by decide) ?_
                  refine g_iast X kd_135 (by omega) (by omega) dX10_ice_131 ?_
                  refine g_aload_n X dX10_ice_132 rfl rfl ?_
                  refine g_geti (kz := 40) X kd_114 fc9 (k := 40) (by decide) rfl wd_867 rfl dX10_ice_133 ?_
                  refine g_teq (b := ((M 114 40) + (1 - 1))) (by first | (simp [mu]; done) | (simp only [mu]; repeat (first | rw [if_pos (⟨rfl, rfl⟩)] | rw [if_neg (by omega)]))) ?_
                  rw [hQ]
                  refine g_iret X hr hlk dX10_ice_136 ?_
                  clear X hr hlk hQ
                  have pR : iceOut y a b ↔ (¬ (0 ≤ y ∧ y ≤ 400) ∨ ¬ (-1 ≤ a ∧ a ≤ 5) ∨ (a ≠ -1 ∧ ¬ (a ≤ b ∧ b ≤ 5))) := Iff.rfl
                  have pU : iceFul M y a ↔ (a ≠ -1 ∧ M 134 y = -1 ∧ M 114 40 = 40) := Iff.rfl
                  have b1 := b2i_eq (b := b2i (iceOut y a b)) rfl
                  have b2 := b2i_eq (b := b2i (iceFul M y a)) rfl
                  exact ⟨by grind, by unfold iceM; grind⟩
              · refine g_iconst X dX10_ice_99 ?_
                refine g_goto (tgt := 104) X dX10_ice_100 (by decide) ?_
                refine g_isub X dX10_ice_104 ?_
                refine g_iadd X dX10_ice_105 ?_
                refine g_puti (kz := 40) X kd_114 fc9 (k := 40) (by decide) rfl wd_867 rfl rfl rfl dX10_ice_106 ?_
                refine g_aload_n X dX10_ice_109 rfl rfl ?_
                refine g_getr (r := 134) X kd_114 fc9 (k := 41) (by decide) rfl wd_868 rfl (by decide) dX10_ice_110 ?_
                refine g_iload_n X dX10_ice_113 rfl rfl ?_
                refine g_iload_n X dX10_ice_114 rfl rfl ?_
                refine g_iast X kd_134 (by omega) (by omega) dX10_ice_115 ?_
                refine g_aload_n X dX10_ice_116 rfl rfl ?_
                refine g_getr (r := 135) X kd_114 fc9 (k := 42) (by decide) rfl wd_869 rfl (by decide) dX10_ice_117 ?_
                refine g_iload_n X dX10_ice_120 rfl rfl ?_
                refine g_iload_n X dX10_ice_121 rfl rfl ?_
                refine g_iconst X dX10_ice_122 ?_
                refine g_icmp_ne (tgt := 130) X dX10_ice_123 (by decide) ⟨by omega, by omega⟩ (by decide) (fun q123 => ?_) (fun q123 => ?_)
                · refine g_iload_n X dX10_ice_130 rfl rfl ?_
                  refine g_iast X kd_135 (by omega) (by omega) dX10_ice_131 ?_
                  refine g_aload_n X dX10_ice_132 rfl rfl ?_
                  refine g_geti (kz := 40) X kd_114 fc9 (k := 40) (by decide) rfl wd_867 rfl dX10_ice_133 ?_
                  refine g_teq (b := ((M 114 40) + (1 - 0))) (by first | (simp [mu]; done) | (simp only [mu]; repeat (first | rw [if_pos (⟨rfl, rfl⟩)] | rw [if_neg (by omega)]))) ?_
                  rw [hQ]
                  refine g_iret X hr hlk dX10_ice_136 ?_
                  clear X hr hlk hQ
                  have pR : iceOut y a b ↔ (¬ (0 ≤ y ∧ y ≤ 400) ∨ ¬ (-1 ≤ a ∧ a ≤ 5) ∨ (a ≠ -1 ∧ ¬ (a ≤ b ∧ b ≤ 5))) := Iff.rfl
                  have pU : iceFul M y a ↔ (a ≠ -1 ∧ M 134 y = -1 ∧ M 114 40 = 40) := Iff.rfl
                  have b1 := b2i_eq (b := b2i (iceOut y a b)) rfl
                  have b2 := b2i_eq (b := b2i (iceFul M y a)) rfl
                  exact ⟨by grind, by unfold iceM; grind⟩
                · refine g_iconst X dX10_ice_126 ?_
                  refine g_goto (tgt := 131) X dX10_ice_127 (by decide) ?_
                  refine g_iast X kd_135 (by omega) (by omega) dX10_ice_131 ?_
                  refine g_aload_n X dX10_ice_132 rfl rfl ?_
                  refine g_geti (kz := 40) X kd_114 fc9 (k := 40) (by decide) rfl wd_867 rfl dX10_ice_133 ?_
                  refine g_teq (b := ((M 114 40) + (1 - 0))) (by first | (simp [mu]; done) | (simp only [mu]; repeat (first | rw [if_pos (⟨rfl, rfl⟩)] | rw [if_neg (by omega)]))) ?_
                  rw [hQ]
                  refine g_iret X hr hlk dX10_ice_136 ?_
                  clear X hr hlk hQ
                  have pR : iceOut y a b ↔ (¬ (0 ≤ y ∧ y ≤ 400) ∨ ¬ (-1 ≤ a ∧ a ≤ 5) ∨ (a ≠ -1 ∧ ¬ (a ≤ b ∧ b ≤ 5))) := Iff.rfl
                  have pU : iceFul M y a ↔ (a ≠ -1 ∧ M 134 y = -1 ∧ M 114 40 = 40) := Iff.rfl
                  have b1 := b2i_eq (b := b2i (iceOut y a b)) rfl
                  have b2 := b2i_eq (b := b2i (iceFul M y a)) rfl
                  exact ⟨by grind, by unfold iceM; grind⟩
            · refine g_iconst X dX10_ice_84 ?_
              refine g_goto (tgt := 89) X dX10_ice_85 (by decide) ?_
              refine g_aload_n X dX10_ice_89 rfl rfl ?_
              refine g_getr (r := 134) X kd_114 fc9 (k := 41) (by decide) rfl wd_868 rfl (by decide) dX10_ice_90 ?_
              refine g_iload_n X dX10_ice_93 rfl rfl ?_
              refine g_iald X kd_134 (by omega) (by omega) dX10_ice_94 ?_
              refine g_iconst X dX10_ice_95 ?_
              refine g_icmp_ne (tgt := 103) X dX10_ice_96 (by decide) ⟨by omega, by omega⟩ (by decide) (fun q96 => ?_) (fun q96 => ?_)
              · refine g_iconst X dX10_ice_103 ?_
                refine g_isub X dX10_ice_104 ?_
                refine g_iadd X dX10_ice_105 ?_
                refine g_puti (kz := 40) X kd_114 fc9 (k := 40) (by decide) rfl wd_867 rfl rfl rfl dX10_ice_106 ?_
                refine g_aload_n X dX10_ice_109 rfl rfl ?_
                refine g_getr (r := 134) X kd_114 fc9 (k := 41) (by decide) rfl wd_868 rfl (by decide) dX10_ice_110 ?_
                refine g_iload_n X dX10_ice_113 rfl rfl ?_
                refine g_iload_n X dX10_ice_114 rfl rfl ?_
                refine g_iast X kd_134 (by omega) (by omega) dX10_ice_115 ?_
                refine g_aload_n X dX10_ice_116 rfl rfl ?_
                refine g_getr (r := 135) X kd_114 fc9 (k := 42) (by decide) rfl wd_869 rfl (by decide) dX10_ice_117 ?_
                refine g_iload_n X dX10_ice_120 rfl rfl ?_
                refine g_iload_n X dX10_ice_121 rfl rfl ?_
                refine g_iconst X dX10_ice_122 ?_
                refine g_icmp_ne (tgt := 130) X dX10_ice_123 (by decide) ⟨by omega, by omega⟩ (by decide) (fun q123 => ?_) (fun q123 => ?_)
                · refine g_iload_n X dX10_ice_130 rfl rfl ?_
                  refine g_iast X kd_135 (by omega) (by omega) dX10_ice_131 ?_
                  refine g_aload_n X dX10_ice_132 rfl rfl ?_
                  refine g_geti (kz := 40) X kd_114 fc9 (k := 40) (by decide) rfl wd_867 rfl dX10_ice_133 ?_
                  refine g_teq (b := ((M 114 40) + (0 - 1))) (by first | (simp [mu]; done) | (simp only [mu]; repeat (first | rw [if_pos (⟨rfl, rfl⟩)] | rw [if_neg (by omega)]))) ?_
                  rw [hQ]
                  refine g_iret X hr hlk dX10_ice_136 ?_
                  clear X hr hlk hQ
                  have pR : iceOut y a b ↔ (¬ (0 ≤ y ∧ y ≤ 400) ∨ ¬ (-1 ≤ a ∧ a ≤ 5) ∨ (a ≠ -1 ∧ ¬ (a ≤ b ∧ b ≤ 5))) := Iff.rfl
                  have pU : iceFul M y a ↔ (a ≠ -1 ∧ M 134 y = -1 ∧ M 114 40 = 40) := Iff.rfl
                  have b1 := b2i_eq (b := b2i (iceOut y a b)) rfl
                  have b2 := b2i_eq (b := b2i (iceFul M y a)) rfl
                  exact ⟨by grind, by unfold iceM; grind⟩
                · refine g_iconst X dX10_ice_126 ?_
                  refine g_goto (tgt := 131) X dX10_ice_127 (by decide) ?_
                  refine g_iast X kd_135 (by omega) (by omega) dX10_ice_131 ?_
                  refine g_aload_n X dX10_ice_132 rfl rfl ?_
                  refine g_geti (kz := 40) X kd_114 fc9 (k := 40) (by decide) rfl wd_867 rfl dX10_ice_133 ?_
                  refine g_teq (b := ((M 114 40) + (0 - 1))) (by first | (simp [mu]; done) | (simp only [mu]; repeat (first | rw [if_pos (⟨rfl, rfl⟩)] | rw [if_neg (by omega)]))) ?_
                  rw [hQ]
                  refine g_iret X hr hlk dX10_ice_136 ?_
                  clear X hr hlk hQ
                  have pR : iceOut y a b ↔ (¬ (0 ≤ y ∧ y ≤ 400) ∨ ¬ (-1 ≤ a ∧ a ≤ 5) ∨ (a ≠ -1 ∧ ¬ (a ≤ b ∧ b ≤ 5))) := Iff.rfl
                  have pU : iceFul M y a ↔ (a ≠ -1 ∧ M 134 y = -1 ∧ M 114 40 = 40) := Iff.rfl
                  have b1 := b2i_eq (b := b2i (iceOut y a b)) rfl
                  have b2 := b2i_eq (b := b2i (iceFul M y a)) rfl
                  exact ⟨by grind, by unfold iceM; grind⟩
              · refine g_iconst X dX10_ice_99 ?_
                refine g_goto (tgt := 104) X dX10_ice_100 (by decide) ?_
                refine g_isub X dX10_ice_104 ?_
                refine g_iadd X dX10_ice_105 ?_
                refine g_puti (kz := 40) X kd_114 fc9 (k := 40) (by decide) rfl wd_867 rfl rfl rfl dX10_ice_106 ?_
                refine g_aload_n X dX10_ice_109 rfl rfl ?_
                refine g_getr (r := 134) X kd_114 fc9 (k := 41) (by decide) rfl wd_868 rfl (by decide) dX10_ice_110 ?_
                refine g_iload_n X dX10_ice_113 rfl rfl ?_
                refine g_iload_n X dX10_ice_114 rfl rfl ?_
                refine g_iast X kd_134 (by omega) (by omega) dX10_ice_115 ?_
                refine g_aload_n X dX10_ice_116 rfl rfl ?_
                refine g_getr (r := 135) X kd_114 fc9 (k := 42) (by decide) rfl wd_869 rfl (by decide) dX10_ice_117 ?_
                refine g_iload_n X dX10_ice_120 rfl rfl ?_
                refine g_iload_n X dX10_ice_121 rfl rfl ?_
                refine g_iconst X dX10_ice_122 ?_
                refine g_icmp_ne (tgt := 130) X dX10_ice_123 (by decide) ⟨by omega, by omega⟩ (by decide) (fun q123 => ?_) (fun q123 => ?_)
                · refine g_iload_n X dX10_ice_130 rfl rfl ?_
                  refine g_iast X kd_135 (by omega) (by omega) dX10_ice_131 ?_
                  refine g_aload_n X dX10_ice_132 rfl rfl ?_
                  refine g_geti (kz := 40) X kd_114 fc9 (k := 40) (by decide) rfl wd_867 rfl dX10_ice_133 ?_
                  refine g_teq (b := ((M 114 40) + (0 - 0))) (by first | (simp [mu]; done) | (simp only [mu]; repeat (first | rw [if_pos (⟨rfl, rfl⟩)] | rw [if_neg (by omega)]))) ?_
                  rw [hQ]
                  refine g_iret X hr hlk dX10_ice_136 ?_
                  clear X hr hlk hQ
                  have pR : iceOut y a b ↔ (¬ (0 ≤ y ∧ y ≤ 400) ∨ ¬ (-1 ≤ a ∧ a ≤ 5) ∨ (a ≠ -1 ∧ ¬ (a ≤ b ∧ b ≤ 5))) := Iff.rfl
                  have pU : iceFul M y a ↔ (a ≠ -1 ∧ M 134 y = -1 ∧ M 114 40 = 40) := Iff.rfl
                  have b1 := b2i_eq (b := b2i (iceOut y a b)) rfl
                  have b2 := b2i_eq (b := b2i (iceFul M y a)) rfl
                  exact ⟨by grind, by unfold iceM; grind⟩
                · refine g_iconst X dX10_ice_126 ?_
                  refine g_goto (tgt := 131) X dX10_ice_127 (by decide) ?_
                  refine g_iast X kd_135 (by omega) (by omega) dX10_ice_131 ?_
                  refine g_aload_n X dX10_ice_132 rfl rfl ?_
                  refine g_geti (kz := 40) X kd_114 fc9 (k := 40) (by decide) rfl wd_867 rfl dX10_ice_133 ?_
                  refine g_teq (b := ((M 114 40) + (0 - 0))) (by first | (simp [mu]; done) | (simp only [mu]; repeat (first | rw [if_pos (⟨rfl, rfl⟩)] | rw [if_neg (by omega)]))) ?_
                  rw [hQ]
                  refine g_iret X hr hlk dX10_ice_136 ?_
                  clear X hr hlk hQ
                  have pR : iceOut y a b ↔ (¬ (0 ≤ y ∧ y ≤ 400) ∨ ¬ (-1 ≤ a ∧ a ≤ 5) ∨ (a ≠ -1 ∧ ¬ (a ≤ b ∧ b ≤ 5))) := Iff.rfl
                  have pU : iceFul M y a ↔ (a ≠ -1 ∧ M 134 y = -1 ∧ M 114 40 = 40) := Iff.rfl
                  have b1 := b2i_eq (b := b2i (iceOut y a b)) rfl
                  have b2 := b2i_eq (b := b2i (iceFul M y a)) rfl
                  exact ⟨by grind, by unfold iceM; grind⟩
          · refine g_aload_n X dX10_ice_52 rfl rfl ?_
            refine g_getr (r := 134) X kd_114 fc9 (k := 41) (by decide) rfl wd_868 rfl (by decide) dX10_ice_53 ?_
            refine g_iload_n X dX10_ice_56 rfl rfl ?_
            refine g_iald X kd_134 (by omega) (by omega) dX10_ice_57 ?_
            refine g_iconst X dX10_ice_58 ?_
            refine g_icmp_ne (tgt := 74) X dX10_ice_59 (by decide) ⟨by omega, by omega⟩ (by decide) (fun q59 => ?_) (fun q59 => ?_)
            · refine g_aload_n X dX10_ice_74 rfl rfl ?_
              refine g_dup X dX10_ice_75 rfl ?_
              refine g_geti (kz := 40) X kd_114 fc9 (k := 40) (by decide) rfl wd_867 rfl dX10_ice_76 ?_
              refine g_iload_n X dX10_ice_79 rfl rfl ?_
              refine g_iconst X dX10_ice_80 ?_
              refine g_icmp_ne (tgt := 88) X dX10_ice_81 (by decide) ⟨by omega, by omega⟩ (by decide) (fun q81 => ?_) (fun q81 => ?_)
              · refine g_iconst X dX10_ice_88 ?_
                refine g_aload_n X dX10_ice_89 rfl rfl ?_
                refine g_getr (r := 134) X kd_114 fc9 (k := 41) (by decide) rfl wd_868 rfl (by decide) dX10_ice_90 ?_
                refine g_iload_n X dX10_ice_93 rfl rfl ?_
                refine g_iald X kd_134 (by omega) (by omega) dX10_ice_94 ?_
                refine g_iconst X dX10_ice_95 ?_
                refine g_icmp_ne (tgt := 103) X dX10_ice_96 (by decide) ⟨by omega, by omega⟩ (by decide) (fun q96 => ?_) (fun q96 => ?_)
                · refine g_iconst X dX10_ice_103 ?_
                  refine g_isub X dX10_ice_104 ?_
                  refine g_iadd X dX10_ice_105 ?_
                  refine g_puti (kz := 40) X kd_114 fc9 (k := 40) (by decide) rfl wd_867 rfl rfl rfl dX10_ice_106 ?_
                  refine g_aload_n X dX10_ice_109 rfl rfl ?_
                  refine g_getr (r := 134) X kd_114 fc9 (k := 41) (by decide) rfl wd_868 rfl (by decide) dX10_ice_110 ?_
                  refine g_iload_n X dX10_ice_113 rfl rfl ?_
                  refine g_iload_n X dX10_ice_114 rfl rfl ?_
                  refine g_iast X kd_134 (by omega) (by omega) dX10_ice_115 ?_
                  refine g_aload_n X dX10_ice_116 rfl rfl ?_
                  refine g_getr (r := 135) X kd_114 fc9 (k := 42) (by decide) rfl wd_869 rfl (by decide) dX10_ice_117 ?_
                  refine g_iload_n X dX10_ice_120 rfl rfl ?_
                  refine g_iload_n X dX10_ice_121 rfl rfl ?_
                  refine g_iconst X dX10_ice_122 ?_
                  refine g_icmp_ne (tgt := 130) X dX10_ice_123 (by decide) ⟨by omega, by omega⟩ (by decide) (fun q123 => ?_) (fun q123 => ?_)
                  · refine g_iload_n X dX10_ice_130 rfl rfl ?_
                    refine g_iast X kd_135 (by omega) (by omega) dX10_ice_131 ?_
                    refine g_aload_n X dX10_ice_132 rfl rfl ?_
                    refine g_geti (kz := 40) X kd_114 fc9 (k := 40) (by decide) rfl wd_867 rfl dX10_ice_133 ?_
                    refine g_teq (b := ((M 114 40) + (1 - 1))) (by first | (simp [mu]; done) | (simp only [mu]; repeat (first | rw [if_pos (⟨rfl, rfl⟩)] | rw [if_neg (by omega)]))) ?_
                    rw [hQ]
                    refine g_iret X hr hlk dX10_ice_136 ?_
                    clear X hr hlk hQ
                    have pR : iceOut y a b ↔ (¬ (0 ≤ y ∧ y ≤ 400) ∨ ¬ (-1 ≤ a ∧ a ≤ 5) ∨ (a ≠ -1 ∧ ¬ (a ≤ b ∧ b ≤ 5))) := Iff.rfl
                    have pU : iceFul M y a ↔ (a ≠ -1 ∧ M 134 y = -1 ∧ M 114 40 = 40) := Iff.rfl
                    have b1 := b2i_eq (b := b2i (iceOut y a b)) rfl
                    have b2 := b2i_eq (b := b2i (iceFul M y a)) rfl
                    exact ⟨by grind, by unfold iceM; grind⟩
                  · refine g_iconst X dX10_ice_126 ?_
                    refine g_goto (tgt := 131) X dX10_ice_127 (by decide) ?_
                    refine g_iast X kd_135 (by omega) (by omega) dX10_ice_131 ?_
                    refine g_aload_n X dX10_ice_132 rfl rfl ?_
                    refine g_geti (kz := 40) X kd_114 fc9 (k := 40) (by decide) rfl wd_867 rfl dX10_ice_133 ?_
                    refine g_teq (b := ((M 114 40) + (1 - 1))) (by first | (simp [mu]; done) | (simp only [mu]; repeat (first | rw [if_pos (⟨rfl, rfl⟩)] | rw [if_neg (by omega)]))) ?_
                    rw [hQ]
                    refine g_iret X hr hlk dX10_ice_136 ?_
                    clear X hr hlk hQ
                    have pR : iceOut y a b ↔ (¬ (0 ≤ y ∧ y ≤ 400) ∨ ¬ (-1 ≤ a ∧ a ≤ 5) ∨ (a ≠ -1 ∧ ¬ (a ≤ b ∧ b ≤ 5))) := Iff.rfl
                    have pU : iceFul M y a ↔ (a ≠ -1 ∧ M 134 y = -1 ∧ M 114 40 = 40) := Iff.rfl
                    have b1 := b2i_eq (b := b2i (iceOut y a b)) rfl
                    have b2 := b2i_eq (b := b2i (iceFul M y a)) rfl
                    exact ⟨by grind, by unfold iceM; grind⟩
                · refine g_iconst X dX10_ice_99 ?_
                  refine g_goto (tgt := 104) X dX10_ice_100 (by decide) ?_
                  refine g_isub X dX10_ice_104 ?_
                  refine g_iadd X dX10_ice_105 ?_
                  refine g_puti (kz := 40) X kd_114 fc9 (k := 40) (by decide) rfl wd_867 rfl rfl rfl dX10_ice_106 ?_
                  refine g_aload_n X dX10_ice_109 rfl rfl ?_
                  refine g_getr (r := 134) X kd_114 fc9 (k := 41) (by decide) rfl wd_868 rfl (by decide) dX10_ice_110 ?_
                  refine g_iload_n X dX10_ice_113 rfl rfl ?_
                  refine g_iload_n X dX10_ice_114 rfl rfl ?_
                  refine g_iast X kd_134 (by omega) (by omega) dX10_ice_115 ?_
                  refine g_aload_n X dX10_ice_116 rfl rfl ?_
                  refine g_getr (r := 135) X kd_114 fc9 (k := 42) (by decide) rfl wd_869 rfl (by decide) dX10_ice_117 ?_
                  refine g_iload_n X dX10_ice_120 rfl rfl ?_
                  refine g_iload_n X dX10_ice_121 rfl rfl ?_
                  refine g_iconst X dX10_ice_122 ?_
                  refine g_icmp_ne (tgt := 130) X dX10_ice_123 (by decide) ⟨by omega, by omega⟩ (by decide) (fun q123 => ?_) (fun q123 => ?_)
                  · refine g_iload_n X dX10_ice_130 rfl rfl ?_
                    refine g_iast X kd_135 (by omega) (by omega) dX10_ice_131 ?_
                    refine g_aload_n X dX10_ice_132 rfl rfl ?_
                    refine g_geti (kz := 40) X kd_114 fc9 (k := 40) (by decide) rfl wd_867 rfl dX10_ice_133 ?_
                    refine g_teq (b := ((M 114 40) + (1 - 0))) (by first | (simp [mu]; done) | (simp only [mu]; repeat (first | rw [if_pos (⟨rfl, rfl⟩)] | rw [if_neg (by omega)]))) ?_
                    rw [hQ]
                    refine g_iret X hr hlk dX10_ice_136 ?_
                    clear X hr hlk hQ
                    have pR : iceOut y a b ↔ (¬ (0 ≤ y ∧ y ≤ 400) ∨ ¬ (-1 ≤ a ∧ a ≤ 5) ∨ (a ≠ -1 ∧ ¬ (a ≤ b ∧ b ≤ 5))) := Iff.rfl
                    have pU : iceFul M y a ↔ (a ≠ -1 ∧ M 134 y = -1 ∧ M 114 40 = 40) := Iff.rfl
                    have b1 := b2i_eq (b := b2i (iceOut y a b)) rfl
                    have b2 := b2i_eq (b := b2i (iceFul M y a)) rfl
                    exact ⟨by grind, by unfold iceM; grind⟩
                  · refine g_iconst X dX10_ice_126 ?_
                    refine g_goto (tgt := 131) X dX10_ice_127 (by decide) ?_
                    refine g_iast X kd_135 (by omega) (by omega) dX10_ice_131 ?_
                    refine g_aload_n X dX10_ice_132 rfl rfl ?_
                    refine g_geti (kz := 40) X kd_114 fc9 (k := 40) (by decide) rfl wd_867 rfl dX10_ice_133 ?_
                    refine g_teq (b := ((M 114 40) + (1 - 0))) (by first | (simp [mu]; done) | (simp only [mu]; repeat (first | rw [if_pos (⟨rfl, rfl⟩)] | rw [if_neg (by omega)]))) ?_
                    rw [hQ]
                    refine g_iret X hr hlk dX10_ice_136 ?_
                    clear X hr hlk hQ
                    have pR : iceOut y a b ↔ (¬ (0 ≤ y ∧ y ≤ 400) ∨ ¬ (-1 ≤ a ∧ a ≤ 5) ∨ (a ≠ -1 ∧ ¬ (a ≤ b ∧ b ≤ 5))) := Iff.rfl
                    have pU : iceFul M y a ↔ (a ≠ -1 ∧ M 134 y = -1 ∧ M 114 40 = 40) := Iff.rfl
                    have b1 := b2i_eq (b := b2i (iceOut y a b)) rfl
                    have b2 := b2i_eq (b := b2i (iceFul M y a)) rfl
                    exact ⟨by grind, by unfold iceM; grind⟩
              · refine g_iconst X dX10_ice_84 ?_
                refine g_goto (tgt := 89) X dX10_ice_85 (by decide) ?_
                refine g_aload_n X dX10_ice_89 rfl rfl ?_
                refine g_getr (r := 134) X kd_114 fc9 (k := 41) (by decide) rfl wd_868 rfl (by decide) dX10_ice_90 ?_
                refine g_iload_n X dX10_ice_93 rfl rfl ?_
                refine g_iald X kd_134 (by omega) (by omega) dX10_ice_94 ?_
                refine g_iconst X dX10_ice_95 ?_
                refine g_icmp_ne (tgt := 103) X dX10_ice_96 (by decide) ⟨by omega, by omega⟩ (by decide) (fun q96 => ?_) (fun q96 => ?_)
                · refine g_iconst X dX10_ice_103 ?_
                  refine g_isub X dX10_ice_104 ?_
                  refine g_iadd X dX10_ice_105 ?_
                  refine g_puti (kz := 40) X kd_114 fc9 (k := 40) (by decide) rfl wd_867 rfl rfl rfl dX10_ice_106 ?_
                  refine g_aload_n X dX10_ice_109 rfl rfl ?_
                  refine g_getr (r := 134) X kd_114 fc9 (k := 41) (by decide) rfl wd_868 rfl (by decide) dX10_ice_110 ?_
                  refine g_iload_n X dX10_ice_113 rfl rfl ?_
                  refine g_iload_n X dX10_ice_114 rfl rfl ?_
                  refine g_iast X kd_134 (by omega) (by omega) dX10_ice_115 ?_
                  refine g_aload_n X dX10_ice_116 rfl rfl ?_
                  refine g_getr (r := 135) X kd_114 fc9 (k := 42) (by decide) rfl wd_869 rfl (by decide) dX10_ice_117 ?_
                  refine g_iload_n X dX10_ice_120 rfl rfl ?_
                  refine g_iload_n X dX10_ice_121 rfl rfl ?_
                  refine g_iconst X dX10_ice_122 ?_
                  refine g_icmp_ne (tgt := 130) X dX10_ice_123 (by decide) ⟨by omega, by omega⟩ (by decide) (fun q123 => ?_) (fun q123 => ?_)
                  · refine g_iload_n X dX10_ice_130 rfl rfl ?_
                    refine g_iast X kd_135 (by omega) (by omega) dX10_ice_131 ?_
                    refine g_aload_n X dX10_ice_132 rfl rfl ?_
                    refine g_geti (kz := 40) X kd_114 fc9 (k := 40) (by decide) rfl wd_867 rfl dX10_ice_133 ?_
                    refine g_teq (b := ((M 114 40) + (0 - 1))) (by first | (simp [mu]; done) | (simp only [mu]; repeat (first | rw [if_pos (⟨rfl, rfl⟩)] | rw [if_neg (by omega)]))) ?_
                    rw [hQ]
                    refine g_iret X hr hlk dX10_ice_136 ?_
                    clear X hr hlk hQ
                    have pR : iceOut y a b ↔ (¬ (0 ≤ y ∧ y ≤ 400) ∨ ¬ (-1 ≤ a ∧ a ≤ 5) ∨ (a ≠ -1 ∧ ¬ (a ≤ b ∧ b ≤ 5))) := Iff.rfl
                    have pU : iceFul M y a ↔ (a ≠ -1 ∧ M 134 y = -1 ∧ M 114 40 = 40) := Iff.rfl
                    have b1 := b2i_eq (b := b2i (iceOut y a b)) rfl
                    have b2 := b2i_eq (b := b2i (iceFul M y a)) rfl
                    exact ⟨by grind, by unfold iceM; grind⟩
                  · refine g_iconst X dX10_ice_126 ?_
                    refine g_goto (tgt := 131) X dX10_ice_127 (by decide) ?_
                    refine g_iast X kd_135 (by omega) (by omega) dX10_ice_131 ?_
                    refine g_aload_n X dX10_ice_132 rfl rfl ?_
                    refine g_geti (kz := 40) X kd_114 fc9 (k := 40) (by decide) rfl wd_867 rfl dX10_ice_133 ?_
                    refine g_teq (b := ((M 114 40) + (0 - 1))) (by first | (simp [mu]; done) | (simp only [mu]; repeat (first | rw [if_pos (⟨rfl, rfl⟩)] | rw [if_neg (by omega)]))) ?_
                    rw [hQ]
                    refine g_iret X hr hlk dX10_ice_136 ?_
                    clear X hr hlk hQ
                    have pR : iceOut y a b ↔ (¬ (0 ≤ y ∧ y ≤ 400) ∨ ¬ (-1 ≤ a ∧ a ≤ 5) ∨ (a ≠ -1 ∧ ¬ (a ≤ b ∧ b ≤ 5))) := Iff.rfl
                    have pU : iceFul M y a ↔ (a ≠ -1 ∧ M 134 y = -1 ∧ M 114 40 = 40) := Iff.rfl
                    have b1 := b2i_eq (b := b2i (iceOut y a b)) rfl
                    have b2 := b2i_eq (b := b2i (iceFul M y a)) rfl
                    exact ⟨by grind, by unfold iceM; grind⟩
                · refine g_iconst X dX10_ice_99 ?_
                  refine g_goto (tgt := 104) X dX10_ice_100 (by decide) ?_
                  refine g_isub X dX10_ice_104 ?_
                  refine g_iadd X dX10_ice_105 ?_
                  refine g_puti (kz := 40) X kd_114 fc9 (k := 40) (by decide) rfl wd_867 rfl rfl rfl dX10_ice_106 ?_
                  refine g_aload_n X dX10_ice_109 rfl rfl ?_
                  refine g_getr (r := 134) X kd_114 fc9 (k := 41) (by decide) rfl wd_868 rfl (by decide) dX10_ice_110 ?_
                  refine g_iload_n X dX10_ice_113 rfl rfl ?_
                  refine g_iload_n X dX10_ice_114 rfl rfl ?_
                  refine g_iast X kd_134 (by omega) (by omega) dX10_ice_115 ?_
                  refine g_aload_n X dX10_ice_116 rfl rfl ?_
                  refine g_getr (r := 135) X kd_114 fc9 (k := 42) (by decide) rfl wd_869 rfl (by decide) dX10_ice_117 ?_
                  refine g_iload_n X dX10_ice_120 rfl rfl ?_
                  refine g_iload_n X dX10_ice_121 rfl rfl ?_
                  refine g_iconst X dX10_ice_122 ?_
                  refine g_icmp_ne (tgt := 130) X dX10_ice_123 (by decide) ⟨by omega, by omega⟩ (by decide) (fun q123 => ?_) (fun q123 => ?_)
                  · refine g_iload_n X dX10_ice_130 rfl rfl ?_
                    refine g_iast X kd_135 (by omega) (by omega) dX10_ice_131 ?_
                    refine g_aload_n X dX10_ice_132 rfl rfl ?_
                    refine g_geti (kz := 40) X kd_114 fc9 (k := 40) (by decide) rfl wd_867 rfl dX10_ice_133 ?_
                    refine g_teq (b := ((M 114 40) + (0 - 0))) (by first | (simp [mu]; done) | (simp only [mu]; repeat (first | rw [if_pos (⟨rfl, rfl⟩)] | rw [if_neg (by omega)]))) ?_
                    rw [hQ]
                    refine g_iret X hr hlk dX10_ice_136 ?_
                    clear X hr hlk hQ
                    have pR : iceOut y a b ↔ (¬ (0 ≤ y ∧ y ≤ 400) ∨ ¬ (-1 ≤ a ∧ a ≤ 5) ∨ (a ≠ -1 ∧ ¬ (a ≤ b ∧ b ≤ 5))) := Iff.rfl
                    have pU : iceFul M y a ↔ (a ≠ -1 ∧ M 134 y = -1 ∧ M 114 40 = 40) := Iff.rfl
                    have b1 := b2i_eq (b := b2i (iceOut y a b)) rfl
                    have b2 := b2i_eq (b := b2i (iceFul M y a)) rfl
                    exact ⟨by grind, by unfold iceM; grind⟩
                  · refine g_iconst X dX10_ice_126 ?_
                    refine g_goto (tgt := 131) X dX10_ice_127 (by decide) ?_
                    refine g_iast X kd_135 (by omega) (by omega) dX10_ice_131 ?_
                    refine g_aload_n X dX10_ice_132 rfl rfl ?_
                    refine g_geti (kz := 40) X kd_114 fc9 (k := 40) (by decide) rfl wd_867 rfl dX10_ice_133 ?_
                    refine g_teq (b := ((M 114 40) + (0 - 0))) (by first | (simp [mu]; done) | (simp only [mu]; repeat (first | rw [if_pos (⟨rfl, rfl⟩)] | rw [if_neg (by omega)]))) ?_
                    rw [hQ]
                    refine g_iret X hr hlk dX10_ice_136 ?_
                    clear X hr hlk hQ
                    have pR : iceOut y a b ↔ (¬ (0 ≤ y ∧ y ≤ 400) ∨ ¬ (-1 ≤ a ∧ a ≤ 5) ∨ (a ≠ -1 ∧ ¬ (a ≤ b ∧ b ≤ 5))) := Iff.rfl
                    have pU : iceFul M y a ↔ (a ≠ -1 ∧ M 134 y = -1 ∧ M 114 40 = 40) := Iff.rfl
                    have b1 := b2i_eq (b := b2i (iceOut y a b)) rfl
                    have b2 := b2i_eq (b := b2i (iceFul M y a)) rfl
                    exact ⟨by grind, by unfold iceM; grind⟩
            · refine g_aload_n X dX10_ice_62 rfl rfl ?_
              refine g_geti (kz := 40) X kd_114 fc9 (k := 40) (by decide) rfl wd_867 rfl dX10_ice_63 ?_
              refine g_bipush X dX10_ice_66 (by decide +kernel) ?_
              refine g_icmp_ne (tgt := 74) X dX10_ice_68 (by decide) ⟨by omega, by omega⟩ (by decide) (fun q68 => ?_) (fun q68 => ?_)
              · refine g_aload_n X dX10_ice_74 rfl rfl ?_
                refine g_dup X dX10_ice_75 rfl ?_
                refine g_geti (kz := 40) X kd_114 fc9 (k := 40) (by decide) rfl wd_867 rfl dX10_ice_76 ?_
                refine g_iload_n X dX10_ice_79 rfl rfl ?_
                refine g_iconst X dX10_ice_80 ?_
                refine g_icmp_ne (tgt := 88) X dX10_ice_81 (by decide) ⟨by omega, by omega⟩ (by decide) (fun q81 => ?_) (fun q81 => ?_)
                · refine g_iconst X dX10_ice_88 ?_
                  refine g_aload_n X dX10_ice_89 rfl rfl ?_
                  refine g_getr (r := 134) X kd_114 fc9 (k := 41) (by decide) rfl wd_868 rfl (by decide) dX10_ice_90 ?_
                  refine g_iload_n X dX10_ice_93 rfl rfl ?_
                  refine g_iald X kd_134 (by omega) (by omega) dX10_ice_94 ?_
                  refine g_iconst X dX10_ice_95 ?_
                  refine g_icmp_ne (tgt := 103) X dX10_ice_96 (by decide) ⟨by omega, by omega⟩ (by decide) (fun q96 => ?_) (fun q96 => ?_)
                  · refine g_iconst X dX10_ice_103 ?_
                    refine g_isub X dX10_ice_104 ?_
                    refine g_iadd X dX10_ice_105 ?_
                    refine g_puti (kz := 40) X kd_114 fc9 (k := 40) (by decide) rfl wd_867 rfl rfl rfl dX10_ice_106 ?_
                    refine g_aload_n X dX10_ice_109 rfl rfl ?_
                    refine g_getr (r := 134) X kd_114 fc9 (k := 41) (by decide) rfl wd_868 rfl (by decide) dX10_ice_110 ?_
                    refine g_iload_n X dX10_ice_113 rfl rfl ?_
                    refine g_iload_n X dX10_ice_114 rfl rfl ?_
                    refine g_iast X kd_134 (by omega) (by omega) dX10_ice_115 ?_
                    refine g_aload_n X dX10_ice_116 rfl rfl ?_
                    refine g_getr (r := 135) X kd_114 fc9 (k := 42) (by decide) rfl wd_869 rfl (by decide) dX10_ice_117 ?_
                    refine g_iload_n X dX10_ice_120 rfl rfl ?_
                    refine g_iload_n X dX10_ice_121 rfl rfl ?_
                    refine g_iconst X dX10_ice_122 ?_
                    refine g_icmp_ne (tgt := 130) X dX10_ice_123 (by decide) ⟨by omega, by omega⟩ (by decide) (fun q123 => ?_) (fun q123 => ?_)
                    · refine g_iload_n X dX10_ice_130 rfl rfl ?_
                      refine g_iast X kd_135 (by omega) (by omega) dX10_ice_131 ?_
                      refine g_aload_n X dX10_ice_132 rfl rfl ?_
                      refine g_geti (kz := 40) X kd_114 fc9 (k := 40) (by decide) rfl wd_867 rfl dX10_ice_133 ?_
                      refine g_teq (b := ((M 114 40) + (1 - 1))) (by first | (simp [mu]; done) | (simp only [mu]; repeat (first | rw [if_pos (⟨rfl, rfl⟩)] | rw [if_neg (by omega)]))) ?_
                      rw [hQ]
                      refine g_iret X hr hlk dX10_ice_136 ?_
                      clear X hr hlk hQ
                      have pR : iceOut y a b ↔ (¬ (0 ≤ y ∧ y ≤ 400) ∨ ¬ (-1 ≤ a ∧ a ≤ 5) ∨ (a ≠ -1 ∧ ¬ (a ≤ b ∧ b ≤ 5))) := Iff.rfl
                      have pU : iceFul M y a ↔ (a ≠ -1 ∧ M 134 y = -1 ∧ M 114 40 = 40) := Iff.rfl
                      have b1 := b2i_eq (b := b2i (iceOut y a b)) rfl
                      have b2 := b2i_eq (b := b2i (iceFul M y a)) rfl
                      exact ⟨by grind, by unfold iceM; grind⟩
                    · refine g_iconst X dX10_ice_126 ?_
                      refine g_goto (tgt := 131) X dX10_ice_127 (by decide) ?_
                      refine g_iast X kd_135 (by omega) (by omega) dX10_ice_131 ?_
                      refine g_aload_n X dX10_ice_132 rfl rfl ?_
                      refine g_geti (kz := 40) X kd_114 fc9 (k := 40) (by decide) rfl wd_867 rfl dX10_ice_133 ?_
                      refine g_teq (b := ((M 114 40) + (1 - 1))) (by first | (simp [mu]; done) | (simp only [mu]; repeat (first | rw [if_pos (⟨rfl, rfl⟩)] | rw [if_neg (by omega)]))) ?_
                      rw [hQ]
                      refine g_iret X hr hlk dX10_ice_136 ?_
                      clear X hr hlk hQ
                      have pR : iceOut y a b ↔ (¬ (0 ≤ y ∧ y ≤ 400) ∨ ¬ (-1 ≤ a ∧ a ≤ 5) ∨ (a ≠ -1 ∧ ¬ (a ≤ b ∧ b ≤ 5))) := Iff.rfl
                      have pU : iceFul M y a ↔ (a ≠ -1 ∧ M 134 y = -1 ∧ M 114 40 = 40) := Iff.rfl
                      have b1 := b2i_eq (b := b2i (iceOut y a b)) rfl
                      have b2 := b2i_eq (b := b2i (iceFul M y a)) rfl
                      exact ⟨by grind, by unfold iceM; grind⟩
                  · refine g_iconst X dX10_ice_99 ?_
                    refine g_goto (tgt := 104) X dX10_ice_100 (by decide) ?_
                    refine g_isub X dX10_ice_104 ?_
                    refine g_iadd X dX10_ice_105 ?_
                    refine g_puti (kz := 40) X kd_114 fc9 (k := 40) (by decide) rfl wd_867 rfl rfl rfl dX10_ice_106 ?_
                    refine g_aload_n X dX10_ice_109 rfl rfl ?_
                    refine g_getr (r := 134) X kd_114 fc9 (k := 41) (by decide) rfl wd_868 rfl (by decide) dX10_ice_110 ?_
                    refine g_iload_n X dX10_ice_113 rfl rfl ?_
                    refine g_iload_n X dX10_ice_114 rfl rfl ?_
                    refine g_iast X kd_134 (by omega) (by omega) dX10_ice_115 ?_
                    refine g_aload_n X dX10_ice_116 rfl rfl ?_
                    refine g_getr (r := 135) X kd_114 fc9 (k := 42) (by decide) rfl wd_869 rfl (by decide) dX10_ice_117 ?_
                    refine g_iload_n X dX10_ice_120 rfl rfl ?_
                    refine g_iload_n X dX10_ice_121 rfl rfl ?_
                    refine g_iconst X dX10_ice_122 ?_
                    refine g_icmp_ne (tgt := 130) X dX10_ice_123 (by decide) ⟨by omega, by omega⟩ (by decide) (fun q123 => ?_) (fun q123 => ?_)
                    · refine g_iload_n X dX10_ice_130 rfl rfl ?_
                      refine g_iast X kd_135 (by omega) (by omega) dX10_ice_131 ?_
                      refine g_aload_n X dX10_ice_132 rfl rfl ?_
                      refine g_geti (kz := 40) X kd_114 fc9 (k := 40) (by decide) rfl wd_867 rfl dX10_ice_133 ?_
                      refine g_teq (b := ((M 114 40) + (1 - 0))) (by first | (simp [mu]; done) | (simp only [mu]; repeat (first | rw [if_pos (⟨rfl, rfl⟩)] | rw [if_neg (by omega)]))) ?_
                      rw [hQ]
                      refine g_iret X hr hlk dX10_ice_136 ?_
                      clear X hr hlk hQ
                      have pR : iceOut y a b ↔ (¬ (0 ≤ y ∧ y ≤ 400) ∨ ¬ (-1 ≤ a ∧ a ≤ 5) ∨ (a ≠ -1 ∧ ¬ (a ≤ b ∧ b ≤ 5))) := Iff.rfl
                      have pU : iceFul M y a ↔ (a ≠ -1 ∧ M 134 y = -1 ∧ M 114 40 = 40) := Iff.rfl
                      have b1 := b2i_eq (b := b2i (iceOut y a b)) rfl
                      have b2 := b2i_eq (b := b2i (iceFul M y a)) rfl
                      exact ⟨by grind, by unfold iceM; grind⟩
                    · refine g_iconst X dX10_ice_126 ?_
                      refine g_goto (tgt := 131) X dX10_ice_127 (by decide) ?_
                      refine g_iast X kd_135 (by omega) (by omega) dX10_ice_131 ?_
                      refine g_aload_n X dX10_ice_132 rfl rfl ?_
                      refine g_geti (kz := 40) X kd_114 fc9 (k := 40) (by decide) rfl wd_867 rfl dX10_ice_133 ?_
                      refine g_teq (b := ((M 114 40) + (1 - 0))) (by first | (simp [mu]; done) | (simp only [mu]; repeat (first | rw [if_pos (⟨rfl, rfl⟩)] | rw [if_neg (by omega)]))) ?_
                      rw [hQ]
                      refine g_iret X hr hlk dX10_ice_136 ?_
                      clear X hr hlk hQ
                      have pR : iceOut y a b ↔ (¬ (0 ≤ y ∧ y ≤ 400) ∨ ¬ (-1 ≤ a ∧ a ≤ 5) ∨ (a ≠ -1 ∧ ¬ (a ≤ b ∧ b ≤ 5))) := Iff.rfl
                      have pU : iceFul M y a ↔ (a ≠ -1 ∧ M 134 y = -1 ∧ M 114 40 = 40) := Iff.rfl
                      have b1 := b2i_eq (b := b2i (iceOut y a b)) rfl
                      have b2 := b2i_eq (b := b2i (iceFul M y a)) rfl
                      exact ⟨by grind, by unfold iceM; grind⟩
                · refine g_iconst X dX10_ice_84 ?_
                  refine g_goto (tgt := 89) X dX10_ice_85 (by decide) ?_
                  refine g_aload_n X dX10_ice_89 rfl rfl ?_
                  refine g_getr (r := 134) X kd_114 fc9 (k := 41) (by decide) rfl wd_868 rfl (by decide) dX10_ice_90 ?_
                  refine g_iload_n X dX10_ice_93 rfl rfl ?_
                  refine g_iald X kd_134 (by omega) (by omega) dX10_ice_94 ?_
                  refine g_iconst X dX10_ice_95 ?_
                  refine g_icmp_ne (tgt := 103) X dX10_ice_96 (by decide) ⟨by omega, by omega⟩ (by decide) (fun q96 => ?_) (fun q96 => ?_)
                  · refine g_iconst X dX10_ice_103 ?_
                    refine g_isub X dX10_ice_104 ?_
                    refine g_iadd X dX10_ice_105 ?_
                    refine g_puti (kz := 40) X kd_114 fc9 (k := 40) (by decide) rfl wd_867 rfl rfl rfl dX10_ice_106 ?_
                    refine g_aload_n X dX10_ice_109 rfl rfl ?_
                    refine g_getr (r := 134) X kd_114 fc9 (k := 41) (by decide) rfl wd_868 rfl (by decide) dX10_ice_110 ?_
                    refine g_iload_n X dX10_ice_113 rfl rfl ?_
                    refine g_iload_n X dX10_ice_114 rfl rfl ?_
                    refine g_iast X kd_134 (by omega) (by omega) dX10_ice_115 ?_
                    refine g_aload_n X dX10_ice_116 rfl rfl ?_
                    refine g_getr (r := 135) X kd_114 fc9 (k := 42) (by decide) rfl wd_869 rfl (by decide) dX10_ice_117 ?_
                    refine g_iload_n X dX10_ice_120 rfl rfl ?_
                    refine g_iload_n X dX10_ice_121 rfl rfl ?_
                    refine g_iconst X dX10_ice_122 ?_
                    refine g_icmp_ne (tgt := 130) X dX10_ice_123 (by decide) ⟨by omega, by omega⟩ (by decide) (fun q123 => ?_) (fun q123 => ?_)
                    · refine g_iload_n X dX10_ice_130 rfl rfl ?_
                      refine g_iast X kd_135 (by omega) (by omega) dX10_ice_131 ?_
                      refine g_aload_n X dX10_ice_132 rfl rfl ?_
                      refine g_geti (kz := 40) X kd_114 fc9 (k := 40) (by decide) rfl wd_867 rfl dX10_ice_133 ?_
                      refine g_teq (b := ((M 114 40) + (0 - 1))) (by first | (simp [mu]; done) | (simp only [mu]; repeat (first | rw [if_pos (⟨rfl, rfl⟩)] | rw [if_neg (by omega)]))) ?_
                      rw [hQ]
                      refine g_iret X hr hlk dX10_ice_136 ?_
                      clear X hr hlk hQ
                      have pR : iceOut y a b ↔ (¬ (0 ≤ y ∧ y ≤ 400) ∨ ¬ (-1 ≤ a ∧ a ≤ 5) ∨ (a ≠ -1 ∧ ¬ (a ≤ b ∧ b ≤ 5))) := Iff.rfl
                      have pU : iceFul M y a ↔ (a ≠ -1 ∧ M 134 y = -1 ∧ M 114 40 = 40) := Iff.rfl
                      have b1 := b2i_eq (b := b2i (iceOut y a b)) rfl
                      have b2 := b2i_eq (b := b2i (iceFul M y a)) rfl
                      exact ⟨by grind, by unfold iceM; grind⟩
                    · refine g_iconst X dX10_ice_126 ?_
                      refine g_goto (tgt := 131) X dX10_ice_127 (by decide) ?_
                      refine g_iast X kd_135 (by omega) (by omega) dX10_ice_131 ?_
                      refine g_aload_n X dX10_ice_132 rfl rfl ?_
                      refine g_geti (kz := 40) X kd_114 fc9 (k := 40) (by decide) rfl wd_867 rfl dX10_ice_133 ?_
                      refine g_teq (b := ((M 114 40) + (0 - 1))) (by first | (simp [mu]; done) | (simp only [mu]; repeat (first | rw [if_pos (⟨rfl, rfl⟩)] | rw [if_neg (by omega)]))) ?_
                      rw [hQ]
                      refine g_iret X hr hlk dX10_ice_136 ?_
                      clear X hr hlk hQ
                      have pR : iceOut y a b ↔ (¬ (0 ≤ y ∧ y ≤ 400) ∨ ¬ (-1 ≤ a ∧ a ≤ 5) ∨ (a ≠ -1 ∧ ¬ (a ≤ b ∧ b ≤ 5))) := Iff.rfl
                      have pU : iceFul M y a ↔ (a ≠ -1 ∧ M 134 y = -1 ∧ M 114 40 = 40) := Iff.rfl
                      have b1 := b2i_eq (b := b2i (iceOut y a b)) rfl
                      have b2 := b2i_eq (b := b2i (iceFul M y a)) rfl
                      exact ⟨by grind, by unfold iceM; grind⟩
                  · refine g_iconst X dX10_ice_99 ?_
                    refine g_goto (tgt := 104) X dX10_ice_100 (by decide) ?_
                    refine g_isub X dX10_ice_104 ?_
                    refine g_iadd X dX10_ice_105 ?_
                    refine g_puti (kz := 40) X kd_114 fc9 (k := 40) (by decide) rfl wd_867 rfl rfl rfl dX10_ice_106 ?_
                    refine g_aload_n X dX10_ice_109 rfl rfl ?_
                    refine g_getr (r := 134) X kd_114 fc9 (k := 41) (by decide) rfl wd_868 rfl (by decide) dX10_ice_110 ?_
                    refine g_iload_n X dX10_ice_113 rfl rfl ?_
                    refine g_iload_n X dX10_ice_114 rfl rfl ?_
                    refine g_iast X kd_134 (by omega) (by omega) dX10_ice_115 ?_
                    refine g_aload_n X dX10_ice_116 rfl rfl ?_
                    refine g_getr (r := 135) X kd_114 fc9 (k := 42) (by decide) rfl wd_869 rfl (by decide) dX10_ice_117 ?_
                    refine g_iload_n X dX10_ice_120 rfl rfl ?_
                    refine g_iload_n X dX10_ice_121 rfl rfl ?_
                    refine g_iconst X dX10_ice_122 ?_
                    refine g_icmp_ne (tgt := 130) X dX10_ice_123 (by decide) ⟨by omega, by omega⟩ (by decide) (fun q123 => ?_) (fun q123 => ?_)
                    · refine g_iload_n X dX10_ice_130 rfl rfl ?_
                      refine g_iast X kd_135 (by omega) (by omega) dX10_ice_131 ?_
                      refine g_aload_n X dX10_ice_132 rfl rfl ?_
                      refine g_geti (kz := 40) X kd_114 fc9 (k := 40) (by decide) rfl wd_867 rfl dX10_ice_133 ?_
                      refine g_teq (b := ((M 114 40) + (0 - 0))) (by first | (simp [mu]; done) | (simp only [mu]; repeat (first | rw [if_pos (⟨rfl, rfl⟩)] | rw [if_neg (by omega)]))) ?_
                      rw [hQ]
                      refine g_iret X hr hlk dX10_ice_136 ?_
                      clear X hr hlk hQ
                      have pR : iceOut y a b ↔ (¬ (0 ≤ y ∧ y ≤ 400) ∨ ¬ (-1 ≤ a ∧ a ≤ 5) ∨ (a ≠ -1 ∧ ¬ (a ≤ b ∧ b ≤ 5))) := Iff.rfl
                      have pU : iceFul M y a ↔ (a ≠ -1 ∧ M 134 y = -1 ∧ M 114 40 = 40) := Iff.rfl
                      have b1 := b2i_eq (b := b2i (iceOut y a b)) rfl
                      have b2 := b2i_eq (b := b2i (iceFul M y a)) rfl
                      exact ⟨by grind, by unfold iceM; grind⟩
                    · refine g_iconst X dX10_ice_126 ?_
                      refine g_goto (tgt := 131) X dX10_ice_127 (by decide) ?_
                      refine g_iast X kd_135 (by omega) (by omega) dX10_ice_131 ?_
                      refine g_aload_n X dX10_ice_132 rfl rfl ?_
                      refine g_geti (kz := 40) X kd_114 fc9 (k := 40) (by decide) rfl wd_867 rfl dX10_ice_133 ?_
                      refine g_teq (b := ((M 114 40) + (0 - 0))) (by first | (simp [mu]; done) | (simp only [mu]; repeat (first | rw [if_pos (⟨rfl, rfl⟩)] | rw [if_neg (by omega)]))) ?_
                      rw [hQ]
                      refine g_iret X hr hlk dX10_ice_136 ?_
                      clear X hr hlk hQ
                      have pR : iceOut y a b ↔ (¬ (0 ≤ y ∧ y ≤ 400) ∨ ¬ (-1 ≤ a ∧ a ≤ 5) ∨ (a ≠ -1 ∧ ¬ (a ≤ b ∧ b ≤ 5))) := Iff.rfl
                      have pU : iceFul M y a ↔ (a ≠ -1 ∧ M 134 y = -1 ∧ M 114 40 = 40) := Iff.rfl
                      have b1 := b2i_eq (b := b2i (iceOut y a b)) rfl
                      have b2 := b2i_eq (b := b2i (iceFul M y a)) rfl
                      exact ⟨by grind, by unfold iceM; grind⟩
              · refine g_bipush X dX10_ice_71 (by decide +kernel) ?_
                rw [hQ]
                refine g_iret X hr hlk dX10_ice_73 ?_
                clear X hr hlk hQ
                have pR : iceOut y a b ↔ (¬ (0 ≤ y ∧ y ≤ 400) ∨ ¬ (-1 ≤ a ∧ a ≤ 5) ∨ (a ≠ -1 ∧ ¬ (a ≤ b ∧ b ≤ 5))) := Iff.rfl
                have pU : iceFul M y a ↔ (a ≠ -1 ∧ M 134 y = -1 ∧ M 114 40 = 40) := Iff.rfl
                have b1 := b2i_eq (b := b2i (iceOut y a b)) rfl
                have b2 := b2i_eq (b := b2i (iceFul M y a)) rfl
                exact ⟨by grind, by unfold iceM; grind⟩
        · have q41 := b2i_f q41
          refine g_bipush X dX10_ice_44 (by decide +kernel) ?_
          rw [hQ]
          refine g_iret X hr hlk dX10_ice_46 ?_
          clear X hr hlk hQ
          have pR : iceOut y a b ↔ (¬ (0 ≤ y ∧ y ≤ 400) ∨ ¬ (-1 ≤ a ∧ a ≤ 5) ∨ (a ≠ -1 ∧ ¬ (a ≤ b ∧ b ≤ 5))) := Iff.rfl
          have pU : iceFul M y a ↔ (a ≠ -1 ∧ M 134 y = -1 ∧ M 114 40 = 40) := Iff.rfl
          have b1 := b2i_eq (b := b2i (iceOut y a b)) rfl
          have b2 := b2i_eq (b := b2i (iceFul M y a)) rfl
          exact ⟨by grind, by unfold iceM; grind⟩
