set_option maxRecDepth 100000 in
set_option maxHeartbeats 4000000 in
theorem c_X10_draw (lL : Launch) (tT : TT) (dD : va_G) (al : Int → Nat) (M : Mem) (d : Int) (hs : 0 ≤ M 114 28 ∧ M 114 28 < 2147483648) (hd : 0 < d ∧ d ≤ 401) : CI lL yX10_draw cX10_draw 2 FieldType.int 0 0 tT dD al [.ref (al 114), .int (iN d)] M (fun r M' => r = drw (nxS (M 114 28)) d ∧ M' = mu M 114 28 (nxS (M 114 28))) := by
  refine CI.of (own := "RedSkiesModel") (ls0 := [some (.ref (al 114)), some (.int (iN d))]) (by decide +kernel) rfl (Nat.le_of_ble_eq_true rfl) rfl ?_
  intro pP eE sS mI aA bB mM cC X hr hlk
  obtain ⟨Q, hQ⟩ : ∃ Q : State → Prop, Q = MQ bB (QI tT dD al (fun r M' => r = drw (nxS (M 114 28)) d ∧ M' = mu M 114 28 (nxS (M 114 28)))) aA sS 0 0 (fA al) := ⟨_, rfl⟩
  rw [← hQ]
  have e17 : and64 (1103515245 * M 114 28 + 12345) 2147483647 = nxS (M 114 28) := and64_mask (by omega) (by omega)
  have r17 := nxS_rng (M 114 28)
  refine g_aload_n X dX10_draw_0 rfl rfl ?_
  refine g_ldc2 X (n := 1103515245) wd_1149 (by decide +kernel) dX10_draw_1 ?_
  refine g_aload_n X dX10_draw_4 rfl rfl ?_
  refine g_geti (kz := 28) X kd_114 fc9 (k := 28) (by decide) rfl wd_855 rfl dX10_draw_5 ?_
  refine g_i2l X dX10_draw_8 ⟨by omega, by omega⟩ ?_
  refine g_lmul X dX10_draw_9 ?_
  refine g_ldc2 X (n := 12345) wd_1150 (by decide +kernel) dX10_draw_10 ?_
  refine g_ladd X dX10_draw_13 ?_
  refine g_ldc2 X (n := 2147483647) wd_1151 (by decide +kernel) dX10_draw_14 ?_
  refine g_land X dX10_draw_17 ?_
  refine g_l2i X dX10_draw_18 ?_
  refine g_puti (kz := 28) X kd_114 fc9 (k := 28) (by decide) rfl wd_855 rfl rfl rfl dX10_draw_19 ?_
  refine g_aload_n X dX10_draw_22 rfl rfl ?_
  refine g_geti (kz := 28) X kd_114 fc9 (k := 28) (by decide) rfl wd_855 rfl dX10_draw_23 ?_
  refine g_teq (b := (and64 ((1103515245 * (M 114 28)) + 12345) 2147483647)) (by first | (simp [mu]; done) | (simp only [mu]; repeat (first | rw [if_pos (⟨rfl, rfl⟩)] | rw [if_neg (by omega)]))) ?_
  refine g_ldc X (n := 65536) wd_1152 (by decide +kernel) dX10_draw_26 ?_
  refine g_idiv X dX10_draw_28 ⟨by rw [e17]; omega, by rw [e17]; omega⟩ ⟨by omega, by omega⟩ ?_
  refine g_iload_n X dX10_draw_29 rfl rfl ?_
  refine g_irem X dX10_draw_30 ⟨by rw [e17]; exact Int.ediv_nonneg (by omega) (by omega), by rw [e17]; omega⟩ ⟨by omega, by omega⟩ ?_
  rw [hQ]
  refine g_iret X hr hlk dX10_draw_31 ?_
  rw [e17]
  exact ⟨rfl, rfl⟩
set_option maxRecDepth 100000 in
set_option maxHeartbeats 4000000 in
theorem c_X10_common (lL : Launch) (tT : TT) (dD : va_G) (al : Int → Nat) (M : Mem) (a b : Int) (ha : 0 ≤ a ∧ a < 4611686018427387904) (hb : 0 ≤ b ∧ b < 4611686018427387904) : CJ lL yX10_common cX10_common 10 0 0 tT dD al [.long (jN a), .long (jN b)] M (fun r M' => r = gcdS a b ∧ M' = M) := by
  refine CJ.of (own := "RedSkiesModel") (ls0 := [some (.long (jN a)), none, some (.long (jN b)), none, none, none, none, none, none, none]) (by decide +kernel) rfl (Nat.le_of_ble_eq_true rfl) rfl ?_
  intro pP eE sS mI aA bB mM cC X hr hlk
  obtain ⟨Q, hQ⟩ : ∃ Q : State → Prop, Q = MQ bB (QJ tT dD al (fun r M' => r = gcdS a b ∧ M' = M)) aA sS 0 0 (fA al) := ⟨_, rfl⟩
  rw [← hQ]
  refine g_lload_n X dX10_common_0 rfl rfl ?_
  refine g_lstore_4 X dX10_common_1 trivial (fun v4_1 ev4_1 => ?_)
  subst v4_1
  refine g_lload_n X dX10_common_3 rfl rfl ?_
  refine g_lstore_6 X dX10_common_4 trivial (fun v6_4 ev6_4 => ?_)
  subst v6_4
  have L_6 : ∀ (n : Nat) (x : Int) (y : Int), (0 ≤ x ∧ x < 4611686018427387904) → (0 ≤ y ∧ y < 4611686018427387904) → (gcdS x y = gcdS a b) → x.toNat < n → Gd pP lL eE (rmN 0 0) sS mI aA bB mM cC 0 0 Q tT dD al (fA al) 6 [none, none, none, none, some (.long (jN x)), none, some (.long (jN y)), none, none, none] [] M := by
    intro n
    induction n with
    | zero => intro x y hx hy hg hm; exact absurd hm (Nat.not_lt_zero _)
    | succ n ih =>
      intro x y hx hy hg hm
      have w1 : 0 < x → 0 ≤ y % x ∧ y % x < x := fun h => ⟨Int.emod_nonneg _ (by omega), Int.emod_lt_of_pos _ h⟩
      have ih_6 := ih
      clear ih
      refine g_lload X dX10_common_6 rfl ?_
      refine g_lconst X (v := 0) dX10_common_8 (by decide +kernel) ?_
      refine g_lcmp_eq (tgt := 31) X dX10_common_9 dX10_common_10 (by decide) ⟨by omega, by omega⟩ (by decide) (fun q9 => ?_) (fun q9 => ?_)
      · refine g_lload X dX10_common_31 rfl ?_
        rw [hQ]
        refine g_lret X hr hlk dX10_common_33 ?_
        subst q9
        rw [gcdS_0 y hy.1] at hg
        exact ⟨hg, rfl⟩
      · refine g_lload X dX10_common_13 rfl ?_
        refine g_lload X dX10_common_15 rfl ?_
        refine g_lrem X dX10_common_17 ⟨by omega, by omega⟩ ⟨by omega, by omega⟩ ?_
        refine g_lstore_8 X dX10_common_18 trivial (fun v8_18 ev8_18 => ?_)
        subst v8_18
        refine g_lload X dX10_common_20 rfl ?_
        refine g_lstore_6 X dX10_common_22 trivial (fun v6_22 ev6_22 => ?_)
        subst v6_22
        refine g_lload X dX10_common_24 rfl ?_
        refine g_lstore_4 X dX10_common_26 trivial (fun v4_26 ev4_26 => ?_)
        subst v4_26
        refine g_goto (tgt := 6) X dX10_common_28 (by decide) ?_
        exact g_sub (ih_6 _ _ (by have := w1 (by omega); omega) (by omega) (by rw [gcdS_s hx.1 hy.1]; exact hg) (by have := w1 (by omega); omega)) ⟨rfl, rfl, trivial⟩
  exact g_sub (L_6 _ _ _ (by omega) (by omega) (rfl) (Nat.lt_succ_self _)) ⟨rfl, rfl, trivial⟩
set_option maxRecDepth 100000 in
set_option maxHeartbeats 4000000 in
theorem c_X10_term (lL : Launch) (tT : TT) (dD : va_G) (al : Int → Nat) (M : Mem) (a b z : Int) (ha : 0 < a ∧ a < 4611686018427387904) (hb : 0 < b ∧ b < 4611686018427387904) (hz : i32 z) : CJ lL yX10_term cX10_term 7 1 29 tT dD al [.long (jN a), .long (jN b), .int (iN z)] M (fun r M' => r = trmS a b z ∧ M' = M) := by
  refine CJ.of (own := "RedSkiesModel") (ls0 := [some (.long (jN a)), none, some (.long (jN b)), none, some (.int (iN z)), none, none]) (by decide +kernel) rfl (Nat.le_of_ble_eq_true rfl) rfl ?_
  intro pP eE sS mI aA bB mM cC X hr hlk
  obtain ⟨Q, hQ⟩ : ∃ Q : State → Prop, Q = MQ bB (QJ tT dD al (fun r M' => r = trmS a b z ∧ M' = M)) aA sS 0 0 (fA al) := ⟨_, rfl⟩
  rw [← hQ]
  have w1 := gcdS_rng (a := a) (b := b) (by omega) (by omega)
  refine g_lload_n X dX10_term_0 rfl rfl ?_
  refine g_lload_n X dX10_term_1 rfl rfl ?_
  refine g_callSJ X (c_X10_common lL tT dD al _ _ _ ⟨by omega, by omega⟩ ⟨by omega, by omega⟩) lk_RX10_282 rfl rfl ⟨by decide, by decide⟩ rfl (Nat.le_of_ble_eq_true rfl) dX10_term_2 (fun r2 M2 hc2 => ?_)
  obtain ⟨hr2, hm2⟩ := hc2
  subst r2
  subst M2
  refine g_lstore_5 X dX10_term_5 rfl (fun v5_5 ev5_5 => ?_)
  subst v5_5
  refine g_iload X dX10_term_7 rfl ?_
  refine g_if_ne (tgt := 19) X dX10_term_9 (by decide) ⟨by omega, by omega⟩ (fun q9 => ?_) (fun q9 => ?_)
  · refine g_lload_n X dX10_term_19 rfl rfl ?_
    refine g_lload X dX10_term_20 rfl ?_
    refine g_ldiv X dX10_term_22 ⟨by omega, by omega⟩ ⟨by omega, by omega⟩ ?_
    rw [hQ]
    refine g_lret X hr hlk dX10_term_23 ?_
    clear X hr hlk hQ
    exact ⟨by unfold trmS; grind, rfl⟩
  · refine g_lload_n X dX10_term_12 rfl rfl ?_
    refine g_lload X dX10_term_13 rfl ?_
    refine g_ldiv X dX10_term_15 ⟨by omega, by omega⟩ ⟨by omega, by omega⟩ ?_
    refine g_goto (tgt := 23) X dX10_term_16 (by decide) ?_
    rw [hQ]
    refine g_lret X hr hlk dX10_term_23 ?_
    clear X hr hlk hQ
    exact ⟨by unfold trmS; grind, rfl⟩
set_option maxRecDepth 100000 in
set_option maxHeartbeats 4000000 in
theorem c_X10_image (lL : Launch) (tT : TT) (dD : va_G) (al : Int → Nat) (M : Mem)   : CI lL yX10_image cX10_image 2 FieldType.int 0 0 tT dD al [.ref (al 114)] M (fun r M' => r = M 114 23 ∧ M' = mu (mu (mu (cpy (cpy (cpy (cpy (cpy M 124 0 136 0 96) 125 0 137 0 192) 126 0 138 0 6) 134 0 139 0 401) 135 0 140 0 401) 114 47 (M 114 26)) 114 48 (M 114 40)) 114 46 (M 114 23)) := by
  refine CI.of (own := "RedSkiesModel") (ls0 := [some (.ref (al 114)), none]) (by decide +kernel) rfl (Nat.le_of_ble_eq_true rfl) rfl ?_
  intro pP eE sS mI aA bB mM cC X hr hlk
  obtain ⟨Q, hQ⟩ : ∃ Q : State → Prop, Q = MQ bB (QI tT dD al (fun r M' => r = M 114 23 ∧ M' = mu (mu (mu (cpy (cpy (cpy (cpy (cpy M 124 0 136 0 96) 125 0 137 0 192) 126 0 138 0 6) 134 0 139 0 401) 135 0 140 0 401) 114 47 (M 114 26)) 114 48 (M 114 40)) 114 46 (M 114 23))) aA sS 0 0 (fA al) := ⟨_, rfl⟩
  rw [← hQ]
  refine g_iconst X dX10_image_0 ?_
  refine g_istore_n_1 X dX10_image_1 rfl rfl (fun v1_1 ev1_1 => ?_)
  subst v1_1
  have L_2 : ∀ (n : Nat) (k2 : Int) (M2 : Mem), (0 ≤ k2) → (k2 ≤ 96) → (M2 = cpy M 124 0 136 0 k2) → (96 - k2).toNat < n → Gd pP lL eE (rmN 0 0) sS mI aA bB mM cC 0 0 Q tT dD al (fA al) 2 [some (.ref (al 114)), some (.int (iN k2))] [] M2 := by
    intro n
    induction n with
    | zero => intro k2 M2 hk2 hl2 hM2 hm; exact absurd hm (Nat.not_lt_zero _)
    | succ n ih =>
      intro k2 M2 hk2 hl2 hM2 hm
      have ih_2 := ih
      clear ih
      refine g_iload_n X dX10_image_2 rfl rfl ?_
      refine g_bipush X dX10_image_3 (by decide +kernel) ?_
      refine g_icmp_ge (tgt := 26) X dX10_image_5 (by decide) ⟨by omega, by omega⟩ (by decide) (fun q5 => ?_) (fun q5 => ?_)
      · refine g_iconst X dX10_image_26 ?_
        refine g_istore_n_1 X dX10_image_27 rfl rfl (fun v1_27 ev1_27 => ?_)
        subst v1_27
        have L_28 : ∀ (n : Nat) (k28 : Int) (M28 : Mem), (0 ≤ k28) → (k28 ≤ 192) → (M28 = cpy (cpy M 124 0 136 0 96) 125 0 137 0 k28) → (192 - k28).toNat < n → Gd pP lL eE (rmN 0 0) sS mI aA bB mM cC 0 0 Q tT dD al (fA al) 28 [some (.ref (al 114)), some (.int (iN k28))] [] M28 := by
          intro n
          induction n with
          | zero => intro k28 M28 hk28 hl28 hM28 hm; exact absurd hm (Nat.not_lt_zero _)
          | succ n ih =>
            intro k28 M28 hk28 hl28 hM28 hm
            have ih_28 := ih
            clear ih
            refine g_iload_n X dX10_image_28 rfl rfl ?_
            refine g_sipush X dX10_image_29 (by decide +kernel) ?_
            refine g_icmp_ge (tgt := 53) X dX10_image_32 (by decide) ⟨by omega, by omega⟩ (by decide) (fun q32 => ?_) (fun q32 => ?_)
            · refine g_iconst X dX10_image_53 ?_
              refine g_istore_n_1 X dX10_image_54 rfl rfl (fun v1_54 ev1_54 => ?_)
              subst v1_54
              have L_55 : ∀ (n : Nat) (k55 : Int) (M55 : Mem), (0 ≤ k55) → (k55 ≤ 6) → (M55 = cpy (cpy (cpy M 124 0 136 0 96) 125 0 137 0 192) 126 0 138 0 k55) → (6 - k55).toNat < n → Gd pP lL eE (rmN 0 0) sS mI aA bB mM cC 0 0 Q tT dD al (fA al) 55 [some (.ref (al 114)), some (.int (iN k55))] [] M55 := by
                intro n
                induction n with
                | zero => intro k55 M55 hk55 hl55 hM55 hm; exact absurd hm (Nat.not_lt_zero _)
                | succ n ih =>
                  intro k55 M55 hk55 hl55 hM55 hm
                  have ih_55 := ih
                  clear ih
                  refine g_iload_n X dX10_image_55 rfl rfl ?_
                  refine g_bipush X dX10_image_56 (by decide +kernel) ?_
                  refine g_icmp_ge (tgt := 79) X dX10_image_58 (by decide) ⟨by omega, by omega⟩ (by decide) (fun q58 => ?_) (fun q58 => ?_)
                  · refine g_iconst X dX10_image_79 ?_
                    refine g_istore_n_1 X dX10_image_80 rfl rfl (fun v1_80 ev1_80 => ?_)
                    subst v1_80
                    have L_81 : ∀ (n : Nat) (k81 : Int) (M81 : Mem), (0 ≤ k81) → (k81 ≤ 401) → (M81 = cpy (cpy (cpy (cpy (cpy M 124 0 136 0 96) 125 0 137 0 192) 126 0 138 0 6) 134 0 139 0 k81) 135 0 140 0 k81) → (401 - k81).toNat < n → Gd pP lL eE (rmN 0 0) sS mI aA bB mM cC 0 0 Q tT dD al (fA al) 81 [some (.ref (al 114)), some (.int (iN k81))] [] M81 := by
                      intro n
                      induction n with
                      | zero => intro k81 M81 hk81 hl81 hM81 hm; exact absurd hm (Nat.not_lt_zero _)
                      | succ n ih =>
                        intro k81 M81 hk81 hl81 hM81 hm
                        have ih_81 := ih
                        clear ih
                        refine g_iload_n X dX10_image_81 rfl rfl ?_
                        refine g_sipush X dX10_image_82 (by decide +kernel) ?_
                        refine g_icmp_ge (tgt := 118) X dX10_image_85 (by decide) ⟨by omega, by omega⟩ (by decide) (fun q85 => ?_) (fun q85 => ?_)
                        · obtain rfl : k81 = 401 := by omega
                          have f1 : M81 114 26 = M 114 26 := by rw [hM81]; simp [cpy]
                          have f2 : M81 114 40 = M 114 40 := by rw [hM81]; simp [cpy]
                          have f3 : M81 114 23 = M 114 23 := by rw [hM81]; simp [cpy]
                          refine g_aload_n X dX10_image_118 rfl rfl ?_
                          refine g_aload_n X dX10_image_119 rfl rfl ?_
                          refine g_geti (kz := 26) X kd_114 fc9 (k := 26) (by decide) rfl wd_853 rfl dX10_image_120 ?_
                          refine g_puti (kz := 47) X kd_114 fc9 (k := 47) (by decide) rfl wd_874 rfl rfl rfl dX10_image_123 ?_
                          refine g_aload_n X dX10_image_126 rfl rfl ?_
                          refine g_aload_n X dX10_image_127 rfl rfl ?_
                          refine g_geti (kz := 40) X kd_114 fc9 (k := 40) (by decide) rfl wd_867 rfl dX10_image_128 ?_
                          refine g_teq (b := (M81 114 40)) (by first | (simp [mu]; done) | (simp only [mu]; repeat (first | rw [if_pos (⟨rfl, rfl⟩)] | rw [if_neg (by omega)]))) ?_
                          refine g_puti (kz := 48) X kd_114 fc9 (k := 48) (by decide) rfl wd_875 rfl rfl rfl dX10_image_131 ?_
                          refine g_aload_n X dX10_image_134 rfl rfl ?_
                          refine g_aload_n X dX10_image_135 rfl rfl ?_
                          refine g_geti (kz := 23) X kd_114 fc9 (k := 23) (by decide) rfl wd_850 rfl dX10_image_136 ?_
                          refine g_teq (b := (M81 114 23)) (by first | (simp [mu]; done) | (simp only [mu]; repeat (first | rw [if_pos (⟨rfl, rfl⟩)] | rw [if_neg (by omega)]))) ?_
                          refine g_puti (kz := 46) X kd_114 fc9 (k := 46) (by decide) rfl wd_873 rfl rfl rfl dX10_image_139 ?_
                          refine g_aload_n X dX10_image_142 rfl rfl ?_
                          refine g_geti (kz := 23) X kd_114 fc9 (k := 23) (by decide) rfl wd_850 rfl dX10_image_143 ?_
                          refine g_teq (b := (M81 114 23)) (by first | (simp [mu]; done) | (simp only [mu]; repeat (first | rw [if_pos (⟨rfl, rfl⟩)] | rw [if_neg (by omega)]))) ?_
                          rw [hQ]
                          refine g_iret X hr hlk dX10_image_146 ?_
                          rw [f1, f2, f3, hM81]
                          exact ⟨rfl, rfl⟩
                        · refine g_aload_n X dX10_image_88 rfl rfl ?_
                          refine g_getr (r := 139) X kd_114 fc9 (k := 52) (by decide) rfl wd_879 rfl (by decide) dX10_image_89 ?_
                          refine g_iload_n X dX10_image_92 rfl rfl ?_
                          refine g_aload_n X dX10_image_93 rfl rfl ?_
                          refine g_getr (r := 134) X kd_114 fc9 (k := 41) (by decide) rfl wd_868 rfl (by decide) dX10_image_94 ?_
                          refine g_iload_n X dX10_image_97 rfl rfl ?_
                          refine g_iald X kd_134 (by omega) (by omega) dX10_image_98 ?_
                          refine g_iast X kd_139 (by omega) (by omega) dX10_image_99 ?_
                          refine g_aload_n X dX10_image_100 rfl rfl ?_
                          refine g_getr (r := 140) X kd_114 fc9 (k := 53) (by decide) rfl wd_880 rfl (by decide) dX10_image_101 ?_
                          refine g_iload_n X dX10_image_104 rfl rfl ?_
                          refine g_aload_n X dX10_image_105 rfl rfl ?_
                          refine g_getr (r := 135) X kd_114 fc9 (k := 42) (by decide) rfl wd_869 rfl (by decide) dX10_image_106 ?_
                          refine g_iload_n X dX10_image_109 rfl rfl ?_
                          refine g_iald X kd_135 (by omega) (by omega) dX10_image_110 ?_
                          refine g_teq (b := (M81 135 k81)) (by first | (simp [mu]; done) | (simp only [mu]; repeat (first | rw [if_pos (⟨rfl, rfl⟩)] | rw [if_neg (by omega)]))) ?_
                          refine g_iast X kd_140 (by omega) (by omega) dX10_image_111 ?_
                          refine g_iinc_1 X dX10_image_112 rfl (fun v1_112 ev1_112 => ?_)
                          subst v1_112
                          refine g_goto (tgt := 81) X dX10_image_115 (by decide) ?_
                          exact g_sub (ih_81 _ _ (by omega) (by omega) (by rw [hM81]; exact cpy2_s hk81) (by omega)) ⟨rfl, rfl, trivial⟩
                    exact g_sub (L_81 _ _ _ (by omega) (by omega) (by obtain rfl : k55 = 6 := (by omega); rw [hM55, cpy_0, cpy_0]) (Nat.lt_succ_self _)) ⟨rfl, rfl, trivial⟩
                  · refine g_aload_n X dX10_image_61 rfl rfl ?_
                    refine g_getr (r := 138) X kd_114 fc9 (k := 51) (by decide) rfl wd_878 rfl (by decide) dX10_image_62 ?_
                    refine g_iload_n X dX10_image_65 rfl rfl ?_
                    refine g_aload_n X dX10_image_66 rfl rfl ?_
                    refine g_getr (r := 126) X kd_114 fc9 (k := 27) (by decide) rfl wd_854 rfl (by decide) dX10_image_67 ?_
                    refine g_iload_n X dX10_image_70 rfl rfl ?_
                    refine g_iald X kd_126 (by omega) (by omega) dX10_image_71 ?_
                    refine g_iast X kd_138 (by omega) (by omega) dX10_image_72 ?_
                    refine g_iinc_1 X dX10_image_73 rfl (fun v1_73 ev1_73 => ?_)
                    subst v1_73
                    refine g_goto (tgt := 55) X dX10_image_76 (by decide) ?_
                    exact g_sub (ih_55 _ _ (by omega) (by omega) (by rw [hM55]; exact cpy_s (by decide) hk55) (by omega)) ⟨rfl, rfl, trivial⟩
              exact g_sub (L_55 _ _ _ (by omega) (by omega) (by obtain rfl : k28 = 192 := (by omega); rw [hM28, cpy_0]) (Nat.lt_succ_self _)) ⟨rfl, rfl, trivial⟩
            · refine g_aload_n X dX10_image_35 rfl rfl ?_
              refine g_getr (r := 137) X kd_114 fc9 (k := 50) (by decide) rfl wd_877 rfl (by decide) dX10_image_36 ?_
              refine g_iload_n X dX10_image_39 rfl rfl ?_
              refine g_aload_n X dX10_image_40 rfl rfl ?_
              refine g_getr (r := 125) X kd_114 fc9 (k := 25) (by decide) rfl wd_852 rfl (by decide) dX10_image_41 ?_
              refine g_iload_n X dX10_image_44 rfl rfl ?_
              refine g_iald X kd_125 (by omega) (by omega) dX10_image_45 ?_
              refine g_iast X kd_137 (by omega) (by omega) dX10_image_46 ?_
              refine g_iinc_1 X dX10_image_47 rfl (fun v1_47 ev1_47 => ?_)
              subst v1_47
              refine g_goto (tgt := 28) X dX10_image_50 (by decide) ?_
              exact g_sub (ih_28 _ _ (by omega) (by omega) (by rw [hM28]; exact cpy_s (by decide) hk28) (by omega)) ⟨rfl, rfl, trivial⟩
        exact g_sub (L_28 _ _ _ (by omega) (by omega) (by obtain rfl : k2 = 96 := (by omega); rw [hM2, cpy_0]) (Nat.lt_succ_self _)) ⟨rfl, rfl, trivial⟩
      · refine g_aload_n X dX10_image_8 rfl rfl ?_
        refine g_getr (r := 136) X kd_114 fc9 (k := 49) (by decide) rfl wd_876 rfl (by decide) dX10_image_9 ?_
        refine g_iload_n X dX10_image_12 rfl rfl ?_
        refine g_aload_n X dX10_image_13 rfl rfl ?_
        refine g_getr (r := 124) X kd_114 fc9 (k := 24) (by decide) rfl wd_851 rfl (by decide) dX10_image_14 ?_
        refine g_iload_n X dX10_image_17 rfl rfl ?_
        refine g_iald X kd_124 (by omega) (by omega) dX10_image_18 ?_
        refine g_iast X kd_136 (by omega) (by omega) dX10_image_19 ?_
        refine g_iinc_1 X dX10_image_20 rfl (fun v1_20 ev1_20 => ?_)
        subst v1_20
        refine g_goto (tgt := 2) X dX10_image_23 (by decide) ?_
        exact g_sub (ih_2 _ _ (by omega) (by omega) (by rw [hM2]; exact cpy_s (by decide) hk2) (by omega)) ⟨rfl, rfl, trivial⟩
  exact g_sub (L_2 _ _ _ (by omega) (by omega) ((cpy_0 M 124 136).symm) (Nat.lt_succ_self _)) ⟨rfl, rfl, trivial⟩
set_option maxRecDepth 100000 in
set_option maxHeartbeats 4000000 in
theorem c_X10_restore (lL : Launch) (tT : TT) (dD : va_G) (al : Int → Nat) (M : Mem)  (hk : -1 ≤ M 114 46 ∧ M 114 46 ≤ 16) : CI lL yX10_restore cX10_restore 2 FieldType.int 0 0 tT dD al [.ref (al 114)] M (fun r M' => r = (if M 114 46 = -1 then -103 else M 114 46) ∧ M' = (if M 114 46 = -1 then M else mu (mu (mu (cpy (cpy (cpy (cpy (cpy M 136 0 124 0 96) 137 0 125 0 192) 138 0 126 0 6) 139 0 134 0 401) 140 0 135 0 401) 114 26 (M 114 47)) 114 40 (M 114 48)) 114 23 (M 114 46))) := by
  refine CI.of (own := "RedSkiesModel") (ls0 := [some (.ref (al 114)), none]) (by decide +kernel) rfl (Nat.le_of_ble_eq_true rfl) rfl ?_
  intro pP eE sS mI aA bB mM cC X hr hlk
  obtain ⟨Q, hQ⟩ : ∃ Q : State → Prop, Q = MQ bB (QI tT dD al (fun r M' => r = (if M 114 46 = -1 then -103 else M 114 46) ∧ M' = (if M 114 46 = -1 then M else mu (mu (mu (cpy (cpy (cpy (cpy (cpy M 136 0 124 0 96) 137 0 125 0 192) 138 0 126 0 6) 139 0 134 0 401) 140 0 135 0 401) 114 26 (M 114 47)) 114 40 (M 114 48)) 114 23 (M 114 46)))) aA sS 0 0 (fA al) := ⟨_, rfl⟩
  rw [← hQ]
  refine g_aload_n X dX10_restore_0 rfl rfl ?_
  refine g_geti (kz := 46) X kd_114 fc9 (k := 46) (by decide) rfl wd_873 rfl dX10_restore_1 ?_
  refine g_iconst X dX10_restore_4 ?_
  refine g_icmp_ne (tgt := 11) X dX10_restore_5 (by decide) ⟨by omega, by omega⟩ (by decide) (fun q5 => ?_) (fun q5 => ?_)
  · refine g_iconst X dX10_restore_11 ?_
    refine g_istore_n_1 X dX10_restore_12 rfl rfl (fun v1_12 ev1_12 => ?_)
    subst v1_12
    have L_13 : ∀ (n : Nat) (k13 : Int) (M13 : Mem), (0 ≤ k13) → (k13 ≤ 96) → (M13 = cpy M 136 0 124 0 k13) → (96 - k13).toNat < n → Gd pP lL eE (rmN 0 0) sS mI aA bB mM cC 0 0 Q tT dD al (fA al) 13 [some (.ref (al 114)), some (.int (iN k13))] [] M13 := by
      intro n
      induction n with
      | zero => intro k13 M13 hk13 hl13 hM13 hm; exact absurd hm (Nat.not_lt_zero _)
      | succ n ih =>
        intro k13 M13 hk13 hl13 hM13 hm
        have ih_13 := ih
        clear ih
        refine g_iload_n X dX10_restore_13 rfl rfl ?_
        refine g_bipush X dX10_restore_14 (by decide +kernel) ?_
        refine g_icmp_ge (tgt := 37) X dX10_restore_16 (by decide) ⟨by omega, by omega⟩ (by decide) (fun q16 => ?_) (fun q16 => ?_)
        · refine g_iconst X dX10_restore_37 ?_
          refine g_istore_n_1 X dX10_restore_38 rfl rfl (fun v1_38 ev1_38 => ?_)
          subst v1_38
          have L_39 : ∀ (n : Nat) (k39 : Int) (M39 : Mem), (0 ≤ k39) → (k39 ≤ 192) → (M39 = cpy (cpy M 136 0 124 0 96) 137 0 125 0 k39) → (192 - k39).toNat < n → Gd pP lL eE (rmN 0 0) sS mI aA bB mM cC 0 0 Q tT dD al (fA al) 39 [some (.ref (al 114)), some (.int (iN k39))] [] M39 := by
            intro n
            induction n with
            | zero => intro k39 M39 hk39 hl39 hM39 hm; exact absurd hm (Nat.not_lt_zero _)
            | succ n ih =>
              intro k39 M39 hk39 hl39 hM39 hm
              have ih_39 := ih
              clear ih
              refine g_iload_n X dX10_restore_39 rfl rfl ?_
              refine g_sipush X dX10_restore_40 (by decide +kernel) ?_
              refine g_icmp_ge (tgt := 64) X dX10_restore_43 (by decide) ⟨by omega, by omega⟩ (by decide) (fun q43 => ?_) (fun q43 => ?_)
              · refine g_iconst X dX10_restore_64 ?_
                refine g_istore_n_1 X dX10_restore_65 rfl rfl (fun v1_65 ev1_65 => ?_)
                subst v1_65
                have L_66 : ∀ (n : Nat) (k66 : Int) (M66 : Mem), (0 ≤ k66) → (k66 ≤ 6) → (M66 = cpy (cpy (cpy M 136 0 124 0 96) 137 0 125 0 192) 138 0 126 0 k66) → (6 - k66).toNat < n → Gd pP lL eE (rmN 0 0) sS mI aA bB mM cC 0 0 Q tT dD al (fA al) 66 [some (.ref (al 114)), some (.int (iN k66))] [] M66 := by
                  intro n
                  induction n with
                  | zero => intro k66 M66 hk66 hl66 hM66 hm; exact absurd hm (Nat.not_lt_zero _)
                  | succ n ih =>
                    intro k66 M66 hk66 hl66 hM66 hm
                    have ih_66 := ih
                    clear ih
                    refine g_iload_n X dX10_restore_66 rfl rfl ?_
                    refine g_bipush X dX10_restore_67 (by decide +kernel) ?_
                    refine g_icmp_ge (tgt := 90) X dX10_restore_69 (by decide) ⟨by omega, by omega⟩ (by decide) (fun q69 => ?_) (fun q69 => ?_)
                    · refine g_iconst X dX10_restore_90 ?_
                      refine g_istore_n_1 X dX10_restore_91 rfl rfl (fun v1_91 ev1_91 => ?_)
                      subst v1_91
                      have L_92 : ∀ (n : Nat) (k92 : Int) (M92 : Mem), (0 ≤ k92) → (k92 ≤ 401) → (M92 = cpy (cpy (cpy (cpy (cpy M 136 0 124 0 96) 137 0 125 0 192) 138 0 126 0 6) 139 0 134 0 k92) 140 0 135 0 k92) → (401 - k92).toNat < n → Gd pP lL eE (rmN 0 0) sS mI aA bB mM cC 0 0 Q tT dD al (fA al) 92 [some (.ref (al 114)), some (.int (iN k92))] [] M92 := by
                        intro n
                        induction n with
                        | zero => intro k92 M92 hk92 hl92 hM92 hm; exact absurd hm (Nat.not_lt_zero _)
                        | succ n ih =>
                          intro k92 M92 hk92 hl92 hM92 hm
                          have ih_92 := ih
                          clear ih
                          refine g_iload_n X dX10_restore_92 rfl rfl ?_
                          refine g_sipush X dX10_restore_93 (by decide +kernel) ?_
                          refine g_icmp_ge (tgt := 129) X dX10_restore_96 (by decide) ⟨by omega, by omega⟩ (by decide) (fun q96 => ?_) (fun q96 => ?_)
                          · obtain rfl : k92 = 401 := by omega
                            have f1 : M92 114 47 = M 114 47 := by rw [hM92]; simp [cpy]
                            have f2 : M92 114 48 = M 114 48 := by rw [hM92]; simp [cpy]
                            have f3 : M92 114 46 = M 114 46 := by rw [hM92]; simp [cpy]
                            refine g_aload_n X dX10_restore_129 rfl rfl ?_
                            refine g_aload_n X dX10_restore_130 rfl rfl ?_
                            refine g_geti (kz := 47) X kd_114 fc9 (k := 47) (by decide) rfl wd_874 rfl dX10_restore_131 ?_
                            refine g_puti (kz := 26) X kd_114 fc9 (k := 26) (by decide) rfl wd_853 rfl rfl rfl dX10_restore_134 ?_
                            refine g_aload_n X dX10_restore_137 rfl rfl ?_
                            refine g_aload_n X dX10_restore_138 rfl rfl ?_
                            refine g_geti (kz := 48) X kd_114 fc9 (k := 48) (by decide) rfl wd_875 rfl dX10_restore_139 ?_
                            refine g_teq (b := (M92 114 48)) (by first | (simp [mu]; done) | (simp only [mu]; repeat (first | rw [if_pos (⟨rfl, rfl⟩)] | rw [if_neg (by omega)]))) ?_
                            refine g_puti (kz := 40) X kd_114 fc9 (k := 40) (by decide) rfl wd_867 rfl rfl rfl dX10_restore_142 ?_
                            refine g_aload_n X dX10_restore_145 rfl rfl ?_
                            refine g_aload_n X dX10_restore_146 rfl rfl ?_
                            refine g_geti (kz := 46) X kd_114 fc9 (k := 46) (by decide) rfl wd_873 rfl dX10_restore_147 ?_
                            refine g_teq (b := (M92 114 46)) (by first | (simp [mu]; done) | (simp only [mu]; repeat (first | rw [if_pos (⟨rfl, rfl⟩)] | rw [if_neg (by omega)]))) ?_
                            refine g_puti (kz := 23) X kd_114 fc9 (k := 23) (by decide) rfl wd_850 rfl rfl rfl dX10_restore_150 ?_
                            refine g_aload_n X dX10_restore_153 rfl rfl ?_
                            refine g_geti (kz := 23) X kd_114 fc9 (k := 23) (by decide) rfl wd_850 rfl dX10_restore_154 ?_
                            refine g_teq (b := (M92 114 46)) (by first | (simp [mu]; done) | (simp only [mu]; repeat (first | rw [if_pos (⟨rfl, rfl⟩)] | rw [if_neg (by omega)]))) ?_
                            rw [hQ]
                            refine g_iret X hr hlk dX10_restore_157 ?_
                            first | (rw [if_pos (by assumption), if_pos (by assumption)]; exact ⟨rfl, rfl⟩) | (rw [if_neg (by assumption), if_neg (by assumption), f1, f2, f3, hM92]; exact ⟨rfl, rfl⟩)
                          · refine g_aload_n X dX10_restore_99 rfl rfl ?_
                            refine g_getr (r := 134) X kd_114 fc9 (k := 41) (by decide) rfl wd_868 rfl (by decide) dX10_restore_100 ?_
                            refine g_iload_n X dX10_restore_103 rfl rfl ?_
                            refine g_aload_n X dX10_restore_104 rfl rfl ?_
                            refine g_getr (r := 139) X kd_114 fc9 (k := 52) (by decide) rfl wd_879 rfl (by decide) dX10_restore_105 ?_
                            refine g_iload_n X dX10_restore_108 rfl rfl ?_
                            refine g_iald X kd_139 (by omega) (by omega) dX10_restore_109 ?_
                            refine g_iast X kd_134 (by omega) (by omega) dX10_restore_110 ?_
                            refine g_aload_n X dX10_restore_111 rfl rfl ?_
                            refine g_getr (r := 135) X kd_114 fc9 (k := 42) (by decide) rfl wd_869 rfl (by decide) dX10_restore_112 ?_
                            refine g_iload_n X dX10_restore_115 rfl rfl ?_
                            refine g_aload_n X dX10_restore_116 rfl rfl ?_
                            refine g_getr (r := 140) X kd_114 fc9 (k := 53) (by decide) rfl wd_880 rfl (by decide) dX10_restore_117 ?_
                            refine g_iload_n X dX10_restore_120 rfl rfl ?_
                            refine g_iald X kd_140 (by omega) (by omega) dX10_restore_121 ?_
                            refine g_teq (b := (M92 140 k92)) (by first | (simp [mu]; done) | (simp only [mu]; repeat (first | rw [if_pos (⟨rfl, rfl⟩)] | rw [if_neg (by omega)]))) ?_
                            refine g_iast X kd_135 (by omega) (by omega) dX10_restore_122 ?_
                            refine g_iinc_1 X dX10_restore_123 rfl (fun v1_123 ev1_123 => ?_)
                            subst v1_123
                            refine g_goto (tgt := 92) X dX10_restore_126 (by decide) ?_
                            exact g_sub (ih_92 _ _ (by omega) (by omega) (by rw [hM92]; exact cpy2_r hk92) (by omega)) ⟨rfl, rfl, trivial⟩
                      exact g_sub (L_92 _ _ _ (by omega) (by omega) (by obtain rfl : k66 = 6 := (by omega); rw [hM66, cpy_0, cpy_0]) (Nat.lt_succ_self _)) ⟨rfl, rfl, trivial⟩
                    · refine g_aload_n X dX10_restore_72 rfl rfl ?_
                      refine g_getr (r := 126) X kd_114 fc9 (k := 27) (by decide) rfl wd_854 rfl (by decide) dX10_restore_73 ?_
                      refine g_iload_n X dX10_restore_76 rfl rfl ?_
                      refine g_aload_n X dX10_restore_77 rfl rfl ?_
                      refine g_getr (r := 138) X kd_114 fc9 (k := 51) (by decide) rfl wd_878 rfl (by decide) dX10_restore_78 ?_
                      refine g_iload_n X dX10_restore_81 rfl rfl ?_
                      refine g_iald X kd_138 (by omega) (by omega) dX10_restore_82 ?_
                      refine g_iast X kd_126 (by omega) (by omega) dX10_restore_83 ?_
                      refine g_iinc_1 X dX10_restore_84 rfl (fun v1_84 ev1_84 => ?_)
                      subst v1_84
                      refine g_goto (tgt := 66) X dX10_restore_87 (by decide) ?_
                      exact g_sub (ih_66 _ _ (by omega) (by omega) (by rw [hM66]; exact cpy_s (by decide) hk66) (by omega)) ⟨rfl, rfl, trivial⟩
                exact g_sub (L_66 _ _ _ (by omega) (by omega) (by obtain rfl : k39 = 192 := (by omega); rw [hM39, cpy_0]) (Nat.lt_succ_self _)) ⟨rfl, rfl, trivial⟩
              · refine g_aload_n X dX10_restore_46 rfl rfl ?_
                refine g_getr (r := 125) X kd_114 fc9 (k := 25) (by decide) rfl wd_852 rfl (by decide) dX10_restore_47 ?_
                refine g_iload_n X dX10_restore_50 rfl rfl ?_
                refine g_aload_n X dX10_restore_51 rfl rfl ?_
                refine g_getr (r := 137) X kd_114 fc9 (k := 50) (by decide) rfl wd_877 rfl (by decide) dX10_restore_52 ?_
                refine g_iload_n X dX10_restore_55 rfl rfl ?_
                refine g_iald X kd_137 (by omega) (by omega) dX10_restore_56 ?_
                refine g_iast X kd_125 (by omega) (by omega) dX10_restore_57 ?_
                refine g_iinc_1 X dX10_restore_58 rfl (fun v1_58 ev1_58 => ?_)
                subst v1_58
                refine g_goto (tgt := 39) X dX10_restore_61 (by decide) ?_
                exact g_sub (ih_39 _ _ (by omega) (by omega) (by rw [hM39]; exact cpy_s (by decide) hk39) (by omega)) ⟨rfl, rfl, trivial⟩
          exact g_sub (L_39 _ _ _ (by omega) (by omega) (by obtain rfl : k13 = 96 := (by omega); rw [hM13, cpy_0]) (Nat.lt_succ_self _)) ⟨rfl, rfl, trivial⟩
        · refine g_aload_n X dX10_restore_19 rfl rfl ?_
          refine g_getr (r := 124) X kd_114 fc9 (k := 24) (by decide) rfl wd_851 rfl (by decide) dX10_restore_20 ?_
          refine g_iload_n X dX10_restore_23 rfl rfl ?_
          refine g_aload_n X dX10_restore_24 rfl rfl ?_
          refine g_getr (r := 136) X kd_114 fc9 (k := 49) (by decide) rfl wd_876 rfl (by decide) dX10_restore_25 ?_
          refine g_iload_n X dX10_restore_28 rfl rfl ?_
          refine g_iald X kd_136 (by omega) (by omega) dX10_restore_29 ?_
          refine g_iast X kd_124 (by omega) (by omega) dX10_restore_30 ?_
          refine g_iinc_1 X dX10_restore_31 rfl (fun v1_31 ev1_31 => ?_)
          subst v1_31
          refine g_goto (tgt := 13) X dX10_restore_34 (by decide) ?_
          exact g_sub (ih_13 _ _ (by omega) (by omega) (by rw [hM13]; exact cpy_s (by decide) hk13) (by omega)) ⟨rfl, rfl, trivial⟩
    exact g_sub (L_13 _ _ _ (by omega) (by omega) ((cpy_0 M 136 124).symm) (Nat.lt_succ_self _)) ⟨rfl, rfl, trivial⟩
  · refine g_bipush X dX10_restore_8 (by decide +kernel) ?_
    rw [hQ]
    refine g_iret X hr hlk dX10_restore_10 ?_
    first | (rw [if_pos (by assumption), if_pos (by assumption)]; exact ⟨rfl, rfl⟩) | (rw [if_neg (by assumption), if_neg (by assumption), f1, f2, f3, hM92]; exact ⟨rfl, rfl⟩)
