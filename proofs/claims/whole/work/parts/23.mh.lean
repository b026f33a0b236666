set_option maxRecDepth 100000 in
set_option maxHeartbeats 4000000 in
theorem c_X10_letters (lL : Launch) (tT : TT) (dD : va_G) (al : Int → Nat) (M : Mem) (w : Int) (hp : 0 ≤ M 114 1 ∧ M 114 1 ≤ 40) : CI lL yX10_letters cX10_letters 9 FieldType.int 0 0 tT dD al [.ref (al 114), .long (jN w)] M (fun r M' => r = (if b2i (lg w 8) = 1 then (if M 114 1 + lm w 8 ≤ 40 then M 114 1 + lm w 8 else -104) else -102) ∧ M' = (if b2i (lg w 8) = 1 ∧ M 114 1 + lm w 8 ≤ 40 then letL M w (lm w 8) else M)) := by
  refine CI.of (own := "RedSkiesModel") (ls0 := [some (.ref (al 114)), some (.long (jN w)), none, none, none, none, none, none, none]) (by decide +kernel) rfl (Nat.le_of_ble_eq_true rfl) rfl ?_
  intro pP eE sS mI aA bB mM cC X hr hlk
  obtain ⟨Q, hQ⟩ : ∃ Q : State → Prop, Q = MQ bB (QI tT dD al (fun r M' => r = (if b2i (lg w 8) = 1 then (if M 114 1 + lm w 8 ≤ 40 then M 114 1 + lm w 8 else -104) else -102) ∧ M' = (if b2i (lg w 8) = 1 ∧ M 114 1 + lm w 8 ≤ 40 then letL M w (lm w 8) else M))) aA sS 0 0 (fA al) := ⟨_, rfl⟩
  rw [← hQ]
  refine g_iconst X dX10_letters_0 ?_
  refine g_istore_n_3 X dX10_letters_1 rfl trivial (fun v3_1 ev3_1 => ?_)
  subst v3_1
  refine g_iconst X dX10_letters_2 ?_
  refine g_istore_4 X dX10_letters_3 rfl (fun v4_3 ev4_3 => ?_)
  subst v4_3
  refine g_lload_n X dX10_letters_5 rfl rfl ?_
  refine g_lstore_5 X dX10_letters_6 rfl (fun v5_6 ev5_6 => ?_)
  subst v5_6
  refine g_iconst X dX10_letters_8 ?_
  refine g_istore_7 X dX10_letters_9 trivial (fun v7_9 ev7_9 => ?_)
  subst v7_9
  have L_11 : ∀ (n : Nat) (many : Int) (good : Int) (left : Int) (k : Int), (0 ≤ k) → (k ≤ 8) → (many = lm w k.toNat) → (good = b2i (lg w k.toNat)) → (good = 0 ∨ good = 1) → (uN (jN left) = uN (jN w) / 2 ^ (8 * k).toNat) → (8 - k).toNat < n → Gd pP lL eE (rmN 0 0) sS mI aA bB mM cC 0 0 Q tT dD al (fA al) 11 [some (.ref (al 114)), some (.long (jN w)), none, some (.int (iN many)), some (.int (iN good)), some (.long (jN left)), none, some (.int (iN k)), none] [] M := by
    intro n
    induction n with
    | zero => intro many good left k hk hk2 hmn hg hg1 hl hm; exact absurd hm (Nat.not_lt_zero _)
    | succ n ih =>
      intro many good left k hk hk2 hmn hg hg1 hl hm
      have eb := sh_byt hl
      have hb := byt_rng w k
      have w1 := lm_rng w k.toNat
      have ls := lm_s w hk
      have gs := lg_s w hk
      have g2 := b2i_eq hg
      have ih_11 := ih
      clear ih
      refine g_iload X dX10_letters_11 rfl ?_
      refine g_bipush X dX10_letters_13 (by decide +kernel) ?_
      refine g_icmp_ge (tgt := 83) X dX10_letters_15 (by decide) ⟨by omega, by omega⟩ (by decide) (fun q15 => ?_) (fun q15 => ?_)
      · obtain rfl : k = 8 := by omega
        have e8 : (8 : Int).toNat = 8 := rfl
        rw [e8] at *
        refine g_iload X dX10_letters_83 rfl ?_
        refine g_if_ne (tgt := 91) X dX10_letters_85 (by decide) ⟨by omega, by omega⟩ (fun q85 => ?_) (fun q85 => ?_)
        · refine g_aload_n X dX10_letters_91 rfl rfl ?_
          refine g_geti (kz := 1) X kd_114 fc9 (k := 1) (by decide) rfl wd_828 rfl dX10_letters_92 ?_
          refine g_iload_n X dX10_letters_95 rfl rfl ?_
          refine g_iadd X dX10_letters_96 ?_
          refine g_bipush X dX10_letters_97 (by decide +kernel) ?_
          refine g_icmp_le (tgt := 105) X dX10_letters_99 (by decide) ⟨by omega, by omega⟩ (by decide) (fun q99 => ?_) (fun q99 => ?_)
          · refine g_iconst X dX10_letters_105 ?_
            refine g_istore_7 X dX10_letters_106 trivial (fun v7_106 ev7_106 => ?_)
            subst v7_106
            have L_108 : ∀ (n : Nat) (i : Int) (M1 : Mem), (0 ≤ i) → (i ≤ many) → (M1 = letL M w i) → (8 - i).toNat < n → Gd pP lL eE (rmN 0 0) sS mI aA bB mM cC 0 0 Q tT dD al (fA al) 108 [some (.ref (al 114)), some (.long (jN w)), none, some (.int (iN many)), none, none, none, some (.int (iN i)), none] [] M1 := by
              intro n
              induction n with
              | zero => intro i M1 hi hi2 hM hm; exact absurd hm (Nat.not_lt_zero _)
              | succ n ih =>
                intro i M1 hi hi2 hM hm
                have h1 : M1 114 1 = M 114 1 + i := by rw [hM]; simp [letL]
                have ih_108 := ih
                clear ih
                refine g_iload X dX10_letters_108 rfl ?_
                refine g_iload_n X dX10_letters_110 rfl rfl ?_
                refine g_icmp_ge (tgt := 151) X dX10_letters_111 (by decide) ⟨by omega, by omega⟩ ⟨by omega, by omega⟩ (fun q111 => ?_) (fun q111 => ?_)
                · obtain rfl : i = many := by omega
                  refine g_aload_n X dX10_letters_151 rfl rfl ?_
                  refine g_geti (kz := 1) X kd_114 fc9 (k := 1) (by decide) rfl wd_828 rfl dX10_letters_152 ?_
                  rw [hQ]
                  refine g_iret X hr hlk dX10_letters_155 ?_
                  clear X hr hlk hQ ih_11 ih_108
                  clear eb hb ls gs hl
                  rw [h1]
                  exact ⟨by grind, by grind⟩
                · refine g_aload_n X dX10_letters_114 rfl rfl ?_
                  refine g_getr (r := 115) X kd_114 fc9 (k := 0) (by decide) rfl wd_827 rfl (by decide) dX10_letters_115 ?_
                  refine g_aload_n X dX10_letters_118 rfl rfl ?_
                  refine g_geti (kz := 1) X kd_114 fc9 (k := 1) (by decide) rfl wd_828 rfl dX10_letters_119 ?_
                  refine g_lload_n X dX10_letters_122 rfl rfl ?_
                  refine g_bipush X dX10_letters_123 (by decide +kernel) ?_
                  refine g_iload X dX10_letters_125 rfl ?_
                  refine g_imul X dX10_letters_127 ?_
                  refine g_lushr X dX10_letters_128 ?_
                  refine g_ldc2 X (n := 255) wd_998 (by decide +kernel) dX10_letters_129 ?_
                  refine g_land X dX10_letters_132 ?_
                  refine g_l2i X dX10_letters_133 ?_
                  refine g_iast X kd_115 (by omega) (by omega) dX10_letters_134 ?_
                  refine g_aload_n X dX10_letters_135 rfl rfl ?_
                  refine g_dup X dX10_letters_136 rfl ?_
                  refine g_geti (kz := 1) X kd_114 fc9 (k := 1) (by decide) rfl wd_828 rfl dX10_letters_137 ?_
                  refine g_teq (b := (M1 114 1)) (by first | (simp [mu]; done) | (simp only [mu]; repeat (first | rw [if_pos (⟨rfl, rfl⟩)] | rw [if_neg (by omega)]))) ?_
                  refine g_iconst X dX10_letters_140 ?_
                  refine g_iadd X dX10_letters_141 ?_
                  refine g_puti (kz := 1) X kd_114 fc9 (k := 1) (by decide) rfl wd_828 rfl rfl rfl dX10_letters_142 ?_
                  refine g_iinc_7 X dX10_letters_145 trivial (fun v7_145 ev7_145 => ?_)
                  subst v7_145
                  refine g_goto (tgt := 108) X dX10_letters_148 (by decide) ?_
                  exact g_sub (ih_108 _ _ (by omega) (by omega) (let_s hi (by omega) hM) (by omega)) ⟨rfl, rfl, rfl, rfl, trivial⟩
            exact g_sub (L_108 _ _ _ (by omega) (by omega) (by clear X hr hlk hQ ih_11 L_108; clear eb hb ls gs hl; funext o j; simp only [letL]; grind) (Nat.lt_succ_self _)) ⟨rfl, rfl, rfl, rfl, trivial⟩
          · refine g_bipush X dX10_letters_102 (by decide +kernel) ?_
            rw [hQ]
            refine g_iret X hr hlk dX10_letters_104 ?_
            clear X hr hlk hQ ih_11
            clear eb hb ls gs hl
            exact ⟨by grind, by grind⟩
        · refine g_bipush X dX10_letters_88 (by decide +kernel) ?_
          rw [hQ]
          refine g_iret X hr hlk dX10_letters_90 ?_
          clear X hr hlk hQ ih_11
          clear eb hb ls gs hl
          exact ⟨by grind, by grind⟩
      · refine g_lload X dX10_letters_18 rfl ?_
        refine g_ldc2 X (n := 255) wd_998 (by decide +kernel) dX10_letters_20 ?_
        refine g_land X dX10_letters_23 ?_
        refine g_l2i X dX10_letters_24 ?_
        refine g_istore_8 X dX10_letters_25 rfl (fun v8_25 ev8_25 => ?_)
        subst v8_25
        refine g_lload X dX10_letters_27 rfl ?_
        refine g_bipush X dX10_letters_29 (by decide +kernel) ?_
        refine g_lushr X dX10_letters_31 ?_
        refine g_lstore_5 X dX10_letters_32 rfl (fun v5_32 ev5_32 => ?_)
        subst v5_32
        refine g_iload X dX10_letters_34 rfl ?_
        refine g_if_eq (tgt := 61) X dX10_letters_36 (by decide) ⟨by omega, by omega⟩ (fun q36 => ?_) (fun q36 => ?_)
        · refine g_iconst X dX10_letters_61 ?_
          refine g_istore_4 X dX10_letters_62 rfl (fun v4_62 ev4_62 => ?_)
          subst v4_62
          refine g_iload_n X dX10_letters_64 rfl rfl ?_
          refine g_iload X dX10_letters_65 rfl ?_
          refine g_if_le (tgt := 74) X dX10_letters_67 (by decide) ⟨by omega, by omega⟩ (fun q67 => ?_) (fun q67 => ?_)
          · refine g_iconst X dX10_letters_74 ?_
            refine g_iadd X dX10_letters_75 ?_
            refine g_istore_n_3 X dX10_letters_76 rfl trivial (fun v3_76 ev3_76 => ?_)
            subst v3_76
            refine g_iinc_7 X dX10_letters_77 trivial (fun v7_77 ev7_77 => ?_)
            subst v7_77
            refine g_goto (tgt := 11) X dX10_letters_80 (by decide) ?_
            exact g_sub (ih_11 _ _ _ _ (by omega) (by omega) (by clear X hr hlk hQ ih_11; rw [ls]; grind) (by clear X hr hlk hQ ih_11; apply b2i_of (by omega); rw [gs]; grind) (by omega) (sh_step hk hl) (by omega)) ⟨rfl, rfl, rfl, rfl, rfl, rfl, trivial⟩
          · refine g_iconst X dX10_letters_70 ?_
            refine g_goto (tgt := 75) X dX10_letters_71 (by decide) ?_
            refine g_iadd X dX10_letters_75 ?_
            refine g_istore_n_3 X dX10_letters_76 rfl trivial (fun v3_76 ev3_76 => ?_)
            subst v3_76
            refine g_iinc_7 X dX10_letters_77 trivial (fun v7_77 ev7_77 => ?_)
            subst v7_77
            refine g_goto (tgt := 11) X dX10_letters_80 (by decide) ?_
            exact g_sub (ih_11 _ _ _ _ (by omega) (by omega) (by clear X hr hlk hQ ih_11; rw [ls]; grind) (by clear X hr hlk hQ ih_11; apply b2i_of (by omega); rw [gs]; grind) (by omega) (sh_step hk hl) (by omega)) ⟨rfl, rfl, rfl, rfl, rfl, rfl, trivial⟩
        · refine g_iload X dX10_letters_39 rfl ?_
          refine g_bipush X dX10_letters_41 (by decide +kernel) ?_
          refine g_icmp_gt (tgt := 61) X dX10_letters_43 (by decide) ⟨by omega, by omega⟩ (by decide) (fun q43 => ?_) (fun q43 => ?_)
          · refine g_iconst X dX10_letters_61 ?_
            refine g_istore_4 X dX10_letters_62 rfl (fun v4_62 ev4_62 => ?_)
            subst v4_62
            refine g_iload_n X dX10_letters_64 rfl rfl ?_
            refine g_iload X dX10_letters_65 rfl ?_
            refine g_if_le (tgt := 74) X dX10_letters_67 (by decide) ⟨by omega, by omega⟩ (fun q67 => ?_) (fun q67 => ?_)
            · refine g_iconst X dX10_letters_74 ?_
              refine g_iadd X dX10_letters_75 ?_
              refine g_istore_n_3 X dX10_letters_76 rfl trivial (fun v3_76 ev3_76 => ?_)
              subst v3_76
              refine g_iinc_7 X dX10_letters_77 trivial (fun v7_77 ev7_77 => ?_)
              subst v7_77
              refine g_goto (tgt := 11) X dX10_letters_80 (by decide) ?_
              exact g_sub (ih_11 _ _ _ _ (by omega) (by omega) (by clear X hr hlk hQ ih_11; rw [ls]; grind) (by clear X hr hlk hQ ih_11; apply b2i_of (by omega); rw [gs]; grind) (by omega) (sh_step hk hl) (by omega)) ⟨rfl, rfl, rfl, rfl, rfl, rfl, trivial⟩
            · refine g_iconst X dX10_letters_70 ?_
              refine g_goto (tgt := 75) X dX10_letters_71 (by decide) ?_
              refine g_iadd X dX10_letters_75 ?_
              refine g_istore_n_3 X dX10_letters_76 rfl trivial (fun v3_76 ev3_76 => ?_)
              subst v3_76
              refine g_iinc_7 X dX10_letters_77 trivial (fun v7_77 ev7_77 => ?_)
              subst v7_77
              refine g_goto (tgt := 11) X dX10_letters_80 (by decide) ?_
              exact g_sub (ih_11 _ _ _ _ (by omega) (by omega) (by clear X hr hlk hQ ih_11; rw [ls]; grind) (by clear X hr hlk hQ ih_11; apply b2i_of (by omega); rw [gs]; grind) (by omega) (sh_step hk hl) (by omega)) ⟨rfl, rfl, rfl, rfl, rfl, rfl, trivial⟩
          · refine g_iload X dX10_letters_46 rfl ?_
            refine g_if_eq (tgt := 57) X dX10_letters_48 (by decide) ⟨by omega, by omega⟩ (fun q48 => ?_) (fun q48 => ?_)
            · refine g_iconst X dX10_letters_57 ?_
              refine g_goto (tgt := 62) X dX10_letters_58 (by decide) ?_
              refine g_istore_4 X dX10_letters_62 rfl (fun v4_62 ev4_62 => ?_)
              subst v4_62
              refine g_iload_n X dX10_letters_64 rfl rfl ?_
              refine g_iload X dX10_letters_65 rfl ?_
              refine g_if_le (tgt := 74) X dX10_letters_67 (by decide) ⟨by omega, by omega⟩ (fun q67 => ?_) (fun q67 => ?_)
              · refine g_iconst X dX10_letters_74 ?_
                refine g_iadd X dX10_letters_75 ?_
                refine g_istore_n_3 X dX10_letters_76 rfl trivial (fun v3_76 ev3_76 => ?_)
                subst v3_76
                refine g_iinc_7 X dX10_letters_77 trivial (fun v7_77 ev7_77 => ?_)
                subst v7_77
                refine g_goto (tgt := 11) X dX10_letters_80 (by decide) ?_
                exact g_sub (ih_11 _ _ _ _ (by omega) (by omega) (by clear X hr hlk hQ ih_11; rw [ls]; grind) (by clear X hr hlk hQ ih_11; apply b2i_of (by omega); rw [gs]; grind) (by omega) (sh_step hk hl) (by omega)) ⟨rfl, rfl, rfl, rfl, rfl, rfl, trivial⟩
              · refine g_iconst X dX10_letters_70 ?_
                refine g_goto (tgt := 75) X dX10_letters_71 (by decide) ?_
                refine g_iadd X dX10_letters_75 ?_
                refine g_istore_n_3 X dX10_letters_76 rfl trivial (fun v3_76 ev3_76 => ?_)
                subst v3_76
                refine g_iinc_7 X dX10_letters_77 trivial (fun v7_77 ev7_77 => ?_)
                subst v7_77
                refine g_goto (tgt := 11) X dX10_letters_80 (by decide) ?_
                exact g_sub (ih_11 _ _ _ _ (by omega) (by omega) (by clear X hr hlk hQ ih_11; rw [ls]; grind) (by clear X hr hlk hQ ih_11; apply b2i_of (by omega); rw [gs]; grind) (by omega) (sh_step hk hl) (by omega)) ⟨rfl, rfl, rfl, rfl, rfl, rfl, trivial⟩
            · refine g_iload_n X dX10_letters_51 rfl rfl ?_
              refine g_iload X dX10_letters_52 rfl ?_
              refine g_icmp_ne (tgt := 61) X dX10_letters_54 (by decide) ⟨by omega, by omega⟩ ⟨by omega, by omega⟩ (fun q54 => ?_) (fun q54 => ?_)
              · refine g_iconst X dX10_letters_61 ?_
                refine g_istore_4 X dX10_letters_62 rfl (fun v4_62 ev4_62 => ?_)
                subst v4_62
                refine g_iload_n X dX10_letters_64 rfl rfl ?_
                refine g_iload X dX10_letters_65 rfl ?_
                refine g_if_le (tgt := 74) X dX10_letters_67 (by decide) ⟨by omega, by omega⟩ (fun q67 => ?_) (fun q67 => ?_)
                · refine g_iconst X dX10_letters_74 ?_
                  refine g_iadd X dX10_letters_75 ?_
                  refine g_istore_n_3 X dX10_letters_76 rfl trivial (fun v3_76 ev3_76 => ?_)
                  subst v3_76
                  refine g_iinc_7 X dX10_letters_77 trivial (fun v7_77 ev7_77 => ?_)
                  subst v7_77
                  refine g_goto (tgt := 11) X dX10_letters_80 (by decide) ?_
                  exact g_sub (ih_11 _ _ _ _ (by omega) (by omega) (by clear X hr hlk hQ ih_11; rw [ls]; grind) (by clear X hr hlk hQ ih_11; apply b2i_of (by omega); rw [gs]; grind) (by omega) (sh_step hk hl) (by omega)) ⟨rfl, rfl, rfl, rfl, rfl, rfl, trivial⟩
                · refine g_iconst X dX10_letters_70 ?_
                  refine g_goto (tgt := 75) X dX10_letters_71 (by decide) ?_
                  refine g_iadd X dX10_letters_75 ?_
                  refine g_istore_n_3 X dX10_letters_76 rfl trivial (fun v3_76 ev3_76 => ?_)
                  subst v3_76
                  refine g_iinc_7 X dX10_letters_77 trivial (fun v7_77 ev7_77 => ?_)
                  subst v7_77
                  refine g_goto (tgt := 11) X dX10_letters_80 (by decide) ?_
                  exact g_sub (ih_11 _ _ _ _ (by omega) (by omega) (by clear X hr hlk hQ ih_11; rw [ls]; grind) (by clear X hr hlk hQ ih_11; apply b2i_of (by omega); rw [gs]; grind) (by omega) (sh_step hk hl) (by omega)) ⟨rfl, rfl, rfl, rfl, rfl, rfl, trivial⟩
              · refine g_iconst X dX10_letters_57 ?_
                refine g_goto (tgt := 62) X dX10_letters_58 (by decide) ?_
                refine g_istore_4 X dX10_letters_62 rfl (fun v4_62 ev4_62 => ?_)
                subst v4_62
                refine g_iload_n X dX10_letters_64 rfl rfl ?_
                refine g_iload X dX10_letters_65 rfl ?_
                refine g_if_le (tgt := 74) X dX10_letters_67 (by decide) ⟨by omega, by omega⟩ (fun q67 => ?_) (fun q67 => ?_)
                · refine g_iconst X dX10_letters_74 ?_
                  refine g_iadd X dX10_letters_75 ?_
                  refine g_istore_n_3 X dX10_letters_76 rfl trivial (fun v3_76 ev3_76 => ?_)
                  subst v3_76
                  refine g_iinc_7 X dX10_letters_77 trivial (fun v7_77 ev7_77 => ?_)
                  subst v7_77
                  refine g_goto (tgt := 11) X dX10_letters_80 (by decide) ?_
                  exact g_sub (ih_11 _ _ _ _ (by omega) (by omega) (by clear X hr hlk hQ ih_11; rw [ls]; grind) (by clear X hr hlk hQ ih_11; apply b2i_of (by omega); rw [gs]; grind) (by omega) (sh_step hk hl) (by omega)) ⟨rfl, rfl, rfl, rfl, rfl, rfl, trivial⟩
                · refine g_iconst X dX10_letters_70 ?_
                  refine g_goto (tgt := 75) X dX10_letters_71 (by decide) ?_
                  refine g_iadd X dX10_letters_75 ?_
                  refine g_istore_n_3 X dX10_letters_76 rfl trivial (fun v3_76 ev3_76 => ?_)
                  subst v3_76
                  refine g_iinc_7 X dX10_letters_77 trivial (fun v7_77 ev7_77 => ?_)
                  subst v7_77
                  refine g_goto (tgt := 11) X dX10_letters_80 (by decide) ?_
                  exact g_sub (ih_11 _ _ _ _ (by omega) (by omega) (by clear X hr hlk hQ ih_11; rw [ls]; grind) (by clear X hr hlk hQ ih_11; apply b2i_of (by omega); rw [gs]; grind) (by omega) (sh_step hk hl) (by omega)) ⟨rfl, rfl, rfl, rfl, rfl, rfl, trivial⟩
  exact g_sub (L_11 _ _ _ _ _ (by omega) (by omega) (rfl) (b2i_1 (lg_0 w)) (by omega) (by simp) (Nat.lt_succ_self _)) ⟨rfl, rfl, rfl, rfl, rfl, rfl, trivial⟩
