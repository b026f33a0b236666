set_option maxRecDepth 100000 in
set_option maxHeartbeats 4000000 in
theorem c_X9_inLowestTerms (lL : Launch) (tT : TT) (dD : va_G) (al : Int → Nat) (M : Mem) (a b z : Int) (ha : 0 < a ∧ a < 1073741824) (hb : 0 < b ∧ b < 1073741824) (hz : i32 z) : CJ lL yX9_inLowestTerms cX9_inLowestTerms 12 0 0 tT dD al [.long (jN a), .long (jN b), .int (iN z)] M (fun r M' => r = trmS a b z ∧ M' = M) := by
  refine CJ.of (own := "RedSkies") (ls0 := [some (.long (jN a)), none, some (.long (jN b)), none, some (.int (iN z)), none, none, none, none, none, none, none]) (by decide +kernel) rfl (Nat.le_of_ble_eq_true rfl) rfl ?_
  intro pP eE sS mI aA bB mM cC X hr hlk
  obtain ⟨Q, hQ⟩ : ∃ Q : State → Prop, Q = MQ bB (QJ tT dD al (fun r M' => r = trmS a b z ∧ M' = M)) aA sS 0 0 (fA al) := ⟨_, rfl⟩
  rw [← hQ]
  refine g_lload_n X dX9_inLowestTerms_0 rfl rfl ?_
  refine g_lstore_5 X dX9_inLowestTerms_1 rfl (fun v5_1 ev5_1 => ?_)
  subst v5_1
  refine g_lload_n X dX9_inLowestTerms_3 rfl rfl ?_
  refine g_lstore_7 X dX9_inLowestTerms_4 trivial (fun v7_4 ev7_4 => ?_)
  subst v7_4
  refine g_iconst X dX9_inLowestTerms_6 ?_
  refine g_istore_9 X dX9_inLowestTerms_7 trivial (fun v9_7 ev9_7 => ?_)
  subst v9_7
  have L_9 : ∀ (n : Nat) (d : Int) (r : Int) (i : Int), (0 ≤ i) → (i ≤ 64) → (EU a b i d r) → (64 - i).toNat < n → Gd pP lL eE (rmN 0 0) sS mI aA bB mM cC 0 0 Q tT dD al (fA al) 9 [some (.long (jN a)), none, some (.long (jN b)), none, some (.int (iN z)), some (.long (jN d)), none, some (.long (jN r)), none, some (.int (iN i)), none, none] [] M := by
    intro n
    induction n with
    | zero => intro d r i hi hi2 hE hm; exact absurd hm (Nat.not_lt_zero _)
    | succ n ih =>
      intro d r i hi hi2 hE hm
      have g1 := hE.1
      have g2 := hE.2.1
      have ih_9 := ih
      clear ih
      refine g_iload X dX9_inLowestTerms_9 rfl ?_
      refine g_bipush X dX9_inLowestTerms_11 (by decide +kernel) ?_
      refine g_icmp_ge (tgt := 44) X dX9_inLowestTerms_13 (by decide) ⟨by omega, by omega⟩ (by decide) (fun q13 => ?_) (fun q13 => ?_)
      · have hdn := EU.done hb.1 hE (by omega)
        have hgp := gcdS_rng ha.1 hb.1
        refine g_iload X dX9_inLowestTerms_44 rfl ?_
        refine g_if_ne (tgt := 53) X dX9_inLowestTerms_46 (by decide) ⟨by omega, by omega⟩ (fun q46 => ?_) (fun q46 => ?_)
        · refine g_lload_n X dX9_inLowestTerms_53 rfl rfl ?_
          refine g_lstore_9 X dX9_inLowestTerms_54 trivial (fun v9_54 ev9_54 => ?_)
          subst v9_54
          refine g_lload X dX9_inLowestTerms_56 rfl ?_
          refine g_lconst X (v := 0) dX9_inLowestTerms_58 (by decide +kernel) ?_
          refine g_lcmp_ne (tgt := 68) X dX9_inLowestTerms_59 dX9_inLowestTerms_60 (by decide) ⟨by omega, by omega⟩ (by decide) (fun q59 => ?_) (fun q59 => ?_)
          · refine g_lload X dX9_inLowestTerms_68 rfl ?_
            refine g_lload X dX9_inLowestTerms_70 rfl ?_
            refine g_ldiv X dX9_inLowestTerms_72 ⟨by omega, by omega⟩ ⟨by omega, by omega⟩ ?_
            rw [hQ]
            refine g_lret X hr hlk dX9_inLowestTerms_73 ?_
            first | (exfalso; omega) | (rw [← hdn] at hgp; exact ⟨by unfold trmS; first | rw [if_pos (by omega), ← hdn] | rw [if_neg (by omega), ← hdn], rfl⟩)
          · refine g_lload X dX9_inLowestTerms_63 rfl ?_
            refine g_goto (tgt := 73) X dX9_inLowestTerms_65 (by decide) ?_
            rw [hQ]
            refine g_lret X hr hlk dX9_inLowestTerms_73 ?_
            first | (exfalso; omega) | (rw [← hdn] at hgp; exact ⟨by unfold trmS; first | rw [if_pos (by omega), ← hdn] | rw [if_neg (by omega), ← hdn], rfl⟩)
        · refine g_lload_n X dX9_inLowestTerms_49 rfl rfl ?_
          refine g_goto (tgt := 54) X dX9_inLowestTerms_50 (by decide) ?_
          refine g_lstore_9 X dX9_inLowestTerms_54 trivial (fun v9_54 ev9_54 => ?_)
          subst v9_54
          refine g_lload X dX9_inLowestTerms_56 rfl ?_
          refine g_lconst X (v := 0) dX9_inLowestTerms_58 (by decide +kernel) ?_
          refine g_lcmp_ne (tgt := 68) X dX9_inLowestTerms_59 dX9_inLowestTerms_60 (by decide) ⟨by omega, by omega⟩ (by decide) (fun q59 => ?_) (fun q59 => ?_)
          · refine g_lload X dX9_inLowestTerms_68 rfl ?_
            refine g_lload X dX9_inLowestTerms_70 rfl ?_
            refine g_ldiv X dX9_inLowestTerms_72 ⟨by omega, by omega⟩ ⟨by omega, by omega⟩ ?_
            rw [hQ]
            refine g_lret X hr hlk dX9_inLowestTerms_73 ?_
            first | (exfalso; omega) | (rw [← hdn] at hgp; exact ⟨by unfold trmS; first | rw [if_pos (by omega), ← hdn] | rw [if_neg (by omega), ← hdn], rfl⟩)
          · refine g_lload X dX9_inLowestTerms_63 rfl ?_
            refine g_goto (tgt := 73) X dX9_inLowestTerms_65 (by decide) ?_
            rw [hQ]
            refine g_lret X hr hlk dX9_inLowestTerms_73 ?_
            first | (exfalso; omega) | (rw [← hdn] at hgp; exact ⟨by unfold trmS; first | rw [if_pos (by omega), ← hdn] | rw [if_neg (by omega), ← hdn], rfl⟩)
      · refine g_lload X dX9_inLowestTerms_16 rfl ?_
        refine g_lconst X (v := 0) dX9_inLowestTerms_18 (by decide +kernel) ?_
        refine g_lcmp_eq (tgt := 44) X dX9_inLowestTerms_19 dX9_inLowestTerms_20 (by decide) ⟨by omega, by omega⟩ (by decide) (fun q19 => ?_) (fun q19 => ?_)
        · have hdn := EU.done hb.1 hE (by omega)
          have hgp := gcdS_rng ha.1 hb.1
          refine g_iload X dX9_inLowestTerms_44 rfl ?_
          refine g_if_ne (tgt := 53) X dX9_inLowestTerms_46 (by decide) ⟨by omega, by omega⟩ (fun q46 => ?_) (fun q46 => ?_)
          · refine g_lload_n X dX9_inLowestTerms_53 rfl rfl ?_
            refine g_lstore_9 X dX9_inLowestTerms_54 trivial (fun v9_54 ev9_54 => ?_)
            subst v9_54
            refine g_lload X dX9_inLowestTerms_56 rfl ?_
            refine g_lconst X (v := 0) dX9_inLowestTerms_58 (by decide +kernel) ?_
            refine g_lcmp_ne (tgt := 68) X dX9_inLowestTerms_59 dX9_inLowestTerms_60 (by decide) ⟨by omega, by omega⟩ (by decide) (fun q59 => ?_) (fun q59 => ?_)
            · refine g_lload X dX9_inLowestTerms_68 rfl ?_
              refine g_lload X dX9_inLowestTerms_70 rfl ?_
              refine g_ldiv X dX9_inLowestTerms_72 ⟨by omega, by omega⟩ ⟨by omega, by omega⟩ ?_
              rw [hQ]
              refine g_lret X hr hlk dX9_inLowestTerms_73 ?_
              first | (exfalso; omega) | (rw [← hdn] at hgp; exact ⟨by unfold trmS; first | rw [if_pos (by omega), ← hdn] | rw [if_neg (by omega), ← hdn], rfl⟩)
            · refine g_lload X dX9_inLowestTerms_63 rfl ?_
              refine g_goto (tgt := 73) X dX9_inLowestTerms_65 (by decide) ?_
              rw [hQ]
              refine g_lret X hr hlk dX9_inLowestTerms_73 ?_
              first | (exfalso; omega) | (rw [← hdn] at hgp; exact ⟨by unfold trmS; first | rw [if_pos (by omega), ← hdn] | rw [if_neg (by omega), ← hdn], rfl⟩)
          · refine g_lload_n X dX9_inLowestTerms_49 rfl rfl ?_
            refine g_goto (tgt := 54) X dX9_inLowestTerms_50 (by decide) ?_
            refine g_lstore_9 X dX9_inLowestTerms_54 trivial (fun v9_54 ev9_54 => ?_)
            subst v9_54
            refine g_lload X dX9_inLowestTerms_56 rfl ?_
            refine g_lconst X (v := 0) dX9_inLowestTerms_58 (by decide +kernel) ?_
            refine g_lcmp_ne (tgt := 68) X dX9_inLowestTerms_59 dX9_inLowestTerms_60 (by decide) ⟨by omega, by omega⟩ (by decide) (fun q59 => ?_) (fun q59 => ?_)
            · refine g_lload X dX9_inLowestTerms_68 rfl ?_
              refine g_lload X dX9_inLowestTerms_70 rfl ?_
              refine g_ldiv X dX9_inLowestTerms_72 ⟨by omega, by omega⟩ ⟨by omega, by omega⟩ ?_
              rw [hQ]
              refine g_lret X hr hlk dX9_inLowestTerms_73 ?_
              first | (exfalso; omega) | (rw [← hdn] at hgp; exact ⟨by unfold trmS; first | rw [if_pos (by omega), ← hdn] | rw [if_neg (by omega), ← hdn], rfl⟩)
            · refine g_lload X dX9_inLowestTerms_63 rfl ?_
              refine g_goto (tgt := 73) X dX9_inLowestTerms_65 (by decide) ?_
              rw [hQ]
              refine g_lret X hr hlk dX9_inLowestTerms_73 ?_
              first | (exfalso; omega) | (rw [← hdn] at hgp; exact ⟨by unfold trmS; first | rw [if_pos (by omega), ← hdn] | rw [if_neg (by omega), ← hdn], rfl⟩)
        · refine g_lload X dX9_inLowestTerms_23 rfl ?_
          refine g_lload X dX9_inLowestTerms_25 rfl ?_
          refine g_lrem X dX9_inLowestTerms_27 ⟨by omega, by omega⟩ ⟨by omega, by omega⟩ ?_
          refine g_lstore_10 X dX9_inLowestTerms_28 rfl (fun v10_28 ev10_28 => ?_)
          subst v10_28
          refine g_lload X dX9_inLowestTerms_30 rfl ?_
          refine g_lstore_5 X dX9_inLowestTerms_32 rfl (fun v5_32 ev5_32 => ?_)
          subst v5_32
          refine g_lload X dX9_inLowestTerms_34 rfl ?_
          refine g_lstore_7 X dX9_inLowestTerms_36 trivial (fun v7_36 ev7_36 => ?_)
          subst v7_36
          refine g_iinc_9 X dX9_inLowestTerms_38 trivial (fun v9_38 ev9_38 => ?_)
          subst v9_38
          refine g_goto (tgt := 9) X dX9_inLowestTerms_41 (by decide) ?_
          exact g_sub (ih_9 _ _ _ (by omega) (by omega) (EU.go hi hE q19) (by omega)) ⟨rfl, rfl, rfl, rfl, rfl, rfl, trivial⟩
  exact g_sub (L_9 _ _ _ _ (by omega) (by omega) (⟨ha, by omega, Or.inl ⟨rfl, rfl, rfl⟩⟩) (Nat.lt_succ_self _)) ⟨rfl, rfl, rfl, rfl, rfl, rfl, trivial⟩
set_option maxRecDepth 100000 in
set_option maxHeartbeats 4000000 in
theorem c_X8_hang (lL : Launch) (tT : TT) (dD : va_G) (al : Int → Nat) (M : Mem) (kind hand year span lamp pig : Int) (hn : 0 ≤ M 24 5 ∧ M 24 5 ≤ 16) (hk : 0 ≤ kind ∧ kind ≤ 4) : CI lL yX8_hang cX8_hang 8 FieldType.int 1 23 tT dD al [.ref (al 24), .int (iN kind), .int (iN hand), .int (iN year), .int (iN span), .int (iN lamp), .int (iN pig)] M (fun r M' => r = (if M 24 5 < 16 then M 24 5 else -104) ∧ M' = (if M 24 5 < 16 then hgX M kind hand year span lamp pig else M)) := by
  refine CI.of (own := "RedSkies$Show") (ls0 := [some (.ref (al 24)), some (.int (iN kind)), some (.int (iN hand)), some (.int (iN year)), some (.int (iN span)), some (.int (iN lamp)), some (.int (iN pig)), none]) (by decide +kernel) rfl (Nat.le_of_ble_eq_true rfl) rfl ?_
  intro pP eE sS mI aA bB mM cC X hr hlk
  obtain ⟨Q, hQ⟩ : ∃ Q : State → Prop, Q = MQ bB (QI tT dD al (fun r M' => r = (if M 24 5 < 16 then M 24 5 else -104) ∧ M' = (if M 24 5 < 16 then hgX M kind hand year span lamp pig else M))) aA sS 0 0 (fA al) := ⟨_, rfl⟩
  rw [← hQ]
  refine g_aload_n X dX8_hang_0 rfl rfl ?_
  refine g_geti (kz := 5) X kd_24 fc7 (k := 5) (by decide) rfl wd_227 rfl dX8_hang_1 ?_
  refine g_bipush X dX8_hang_4 (by decide +kernel) ?_
  refine g_icmp_lt (tgt := 12) X dX8_hang_6 (by decide) ⟨by omega, by omega⟩ (by decide) (fun q6 => ?_) (fun q6 => ?_)
  · refine g_aload_n X dX8_hang_12 rfl rfl ?_
    refine g_getr (r := 25) X kd_24 fc7 (k := 0) (by decide) rfl wd_216 rfl (by decide) dX8_hang_13 ?_
    refine g_aload_n X dX8_hang_16 rfl rfl ?_
    refine g_geti (kz := 5) X kd_24 fc7 (k := 5) (by decide) rfl wd_227 rfl dX8_hang_17 ?_
    have b0_20_9 : 0 ≤ (M 24 5) := by omega
    have b1_20_9 : (M 24 5) < 16 := by omega
    refine g_aald X kd_25 (bz := 26) rfl b0_20_9 b1_20_9 dX8_hang_20 ?_
    have kr_20_9 := kr_26 b0_20_9 b1_20_9
    refine g_astore_7 X dX8_hang_21 rfl (fun v7 hv7 => ?_)
    subst v7
    refine g_aload X dX8_hang_23 rfl ?_
    refine g_iconst X dX8_hang_25 ?_
    refine g_iload_n X dX8_hang_26 rfl rfl ?_
    refine g_iast X kr_20_9 (by decide) (by decide) dX8_hang_27 ?_
    refine g_aload X dX8_hang_28 rfl ?_
    refine g_iconst X dX8_hang_30 ?_
    refine g_iload_n X dX8_hang_31 rfl rfl ?_
    refine g_iast X kr_20_9 (by decide) (by decide) dX8_hang_32 ?_
    refine g_aload X dX8_hang_33 rfl ?_
    refine g_iconst X dX8_hang_35 ?_
    refine g_iload_n X dX8_hang_36 rfl rfl ?_
    refine g_iast X kr_20_9 (by decide) (by decide) dX8_hang_37 ?_
    refine g_aload X dX8_hang_38 rfl ?_
    refine g_iconst X dX8_hang_40 ?_
    refine g_iload_n X dX8_hang_41 rfl rfl ?_
    refine g_iconst X dX8_hang_42 ?_
    refine g_callNI X (c_X9_isOfKind lL tT dD al _ _ _ ⟨by omega, by omega⟩ (by decide)) lk_RX8_51 rfl rfl ⟨by decide, by decide⟩ rfl (Nat.le_of_ble_eq_true rfl) dX8_hang_43 (fun r43 M43 hc43 => ?_)
    obtain ⟨hr43, hm43⟩ := hc43
    subst r43
    subst M43
    refine g_if_eq (tgt := 53) X dX8_hang_46 (by decide) (b2i_i32 _) (fun q46 => ?_) (fun q46 => ?_)
    · have q46 := b2i_f q46
      refine g_iload X dX8_hang_53 rfl ?_
      refine g_iast X kr_20_9 (by decide) (by decide) dX8_hang_55 ?_
      refine g_aload X dX8_hang_56 rfl ?_
      refine g_iconst X dX8_hang_58 ?_
      refine g_iload X dX8_hang_59 rfl ?_
      refine g_iast X kr_20_9 (by decide) (by decide) dX8_hang_61 ?_
      refine g_aload X dX8_hang_62 rfl ?_
      refine g_iconst X dX8_hang_64 ?_
      refine g_iload X dX8_hang_65 rfl ?_
      refine g_iast X kr_20_9 (by decide) (by decide) dX8_hang_67 ?_
      refine g_aload_n X dX8_hang_68 rfl rfl ?_
      refine g_getr (r := 42) X kd_24 fc7 (k := 1) (by decide) rfl wd_218 rfl (by decide) dX8_hang_69 ?_
      refine g_aload_n X dX8_hang_72 rfl rfl ?_
      refine g_geti (kz := 5) X kd_24 fc7 (k := 5) (by decide) rfl wd_227 rfl dX8_hang_73 ?_
      refine g_teq (b := (M 24 5)) (by first | (simp [mu]; done) | (simp only [mu]; repeat (first | rw [if_pos (⟨rfl, rfl⟩)] | rw [if_neg (by omega)]))) ?_
      have b0_76_43 : 0 ≤ (M 24 5) := by omega
      have b1_76_43 : (M 24 5) < 16 := by omega
      refine g_aald X kd_42 (bz := 43) rfl b0_76_43 b1_76_43 dX8_hang_76 ?_
      have kr_76_43 := kr_43 b0_76_43 b1_76_43
      refine g_iconst X dX8_hang_77 ?_
      refine g_callSV X (c_J7_fill_53178 lL tT dD al _ _ _ _ kr_76_43) lk_RX8_29 rfl rfl ⟨by decide, by decide⟩ rfl (Nat.le_of_ble_eq_true rfl) dX8_hang_78 (fun M78 hc78 => ?_)
      subst M78
      refine g_aload_n X dX8_hang_81 rfl rfl ?_
      refine g_dup X dX8_hang_82 rfl ?_
      refine g_geti (kz := 5) X kd_24 fc7 (k := 5) (by decide) rfl wd_227 rfl dX8_hang_83 ?_
      refine g_teq (b := M 24 5) (by simp only [mu, fil]; rw [if_neg (by omega), if_neg (by omega), if_neg (by omega), if_neg (by omega), if_neg (by omega), if_neg (by omega), if_neg (by omega)]) ?_
      refine g_iconst X dX8_hang_86 ?_
      refine g_iadd X dX8_hang_87 ?_
      refine g_puti (kz := 5) X kd_24 fc7 (k := 5) (by decide) rfl wd_227 rfl rfl rfl dX8_hang_88 ?_
      refine g_aload_n X dX8_hang_91 rfl rfl ?_
      refine g_geti (kz := 5) X kd_24 fc7 (k := 5) (by decide) rfl wd_227 rfl dX8_hang_92 ?_
      refine g_teq (b := ((M 24 5) + 1)) (by first | (simp [mu]; done) | (simp only [mu]; repeat (first | rw [if_pos (⟨rfl, rfl⟩)] | rw [if_neg (by omega)]))) ?_
      refine g_iconst X dX8_hang_95 ?_
      refine g_isub X dX8_hang_96 ?_
      rw [hQ]
      refine g_iret X hr hlk dX8_hang_97 ?_
      rw [if_pos (show M 24 5 < 16 by omega), if_pos (show M 24 5 < 16 by omega)]
      refine ⟨by omega, ?_⟩
      exact hgX_e ⟨by omega, by omega⟩ (by first | rw [if_pos (by omega)] | rw [if_neg (by omega)])
    · have q46 := b2i_t q46
      refine g_iconst X dX8_hang_49 ?_
      refine g_goto (tgt := 55) X dX8_hang_50 (by decide) ?_
      refine g_iast X kr_20_9 (by decide) (by decide) dX8_hang_55 ?_
      refine g_aload X dX8_hang_56 rfl ?_
      refine g_iconst X dX8_hang_58 ?_
      refine g_iload X dX8_hang_59 rfl ?_
      refine g_iast X kr_20_9 (by decide) (by decide) dX8_hang_61 ?_
      refine g_aload X dX8_hang_62 rfl ?_
      refine g_iconst X dX8_hang_64 ?_
      refine g_iload X dX8_hang_65 rfl ?_
      refine g_iast X kr_20_9 (by decide) (by decide) dX8_hang_67 ?_
      refine g_aload_n X dX8_hang_68 rfl rfl ?_
      refine g_getr (r := 42) X kd_24 fc7 (k := 1) (by decide) rfl wd_218 rfl (by decide) dX8_hang_69 ?_
      refine g_aload_n X dX8_hang_72 rfl rfl ?_
      refine g_geti (kz := 5) X kd_24 fc7 (k := 5) (by decide) rfl wd_227 rfl dX8_hang_73 ?_
      refine g_teq (b := (M 24 5)) (by first | (simp [mu]; done) | (simp only [mu]; repeat (first | rw [if_pos (⟨rfl, rfl⟩)] | rw [if_neg (by omega)]))) ?_
      have b0_76_72 : 0 ≤ (M 24 5) := by omega
      have b1_76_72 : (M 24 5) < 16 := by omega
      refine g_aald X kd_42 (bz := 43) rfl b0_76_72 b1_76_72 dX8_hang_76 ?_
      have kr_76_72 := kr_43 b0_76_72 b1_76_72
      refine g_iconst X dX8_hang_77 ?_
      refine g_callSV X (c_J7_fill_53178 lL tT dD al _ _ _ _ kr_76_72) lk_RX8_29 rfl rfl ⟨by decide, by decide⟩ rfl (Nat.le_of_ble_eq_true rfl) dX8_hang_78 (fun M78 hc78 => ?_)
      subst M78
      refine g_aload_n X dX8_hang_81 rfl rfl ?_
      refine g_dup X dX8_hang_82 rfl ?_
      refine g_geti (kz := 5) X kd_24 fc7 (k := 5) (by decide) rfl wd_227 rfl dX8_hang_83 ?_
      refine g_teq (b := M 24 5) (by simp only [mu, fil]; rw [if_neg (by omega), if_neg (by omega), if_neg (by omega), if_neg (by omega), if_neg (by omega), if_neg (by omega), if_neg (by omega)]) ?_
      refine g_iconst X dX8_hang_86 ?_
      refine g_iadd X dX8_hang_87 ?_
      refine g_puti (kz := 5) X kd_24 fc7 (k := 5) (by decide) rfl wd_227 rfl rfl rfl dX8_hang_88 ?_
      refine g_aload_n X dX8_hang_91 rfl rfl ?_
      refine g_geti (kz := 5) X kd_24 fc7 (k := 5) (by decide) rfl wd_227 rfl dX8_hang_92 ?_
      refine g_teq (b := ((M 24 5) + 1)) (by first | (simp [mu]; done) | (simp only [mu]; repeat (first | rw [if_pos (⟨rfl, rfl⟩)] | rw [if_neg (by omega)]))) ?_
      refine g_iconst X dX8_hang_95 ?_
      refine g_isub X dX8_hang_96 ?_
      rw [hQ]
      refine g_iret X hr hlk dX8_hang_97 ?_
      rw [if_pos (show M 24 5 < 16 by omega), if_pos (show M 24 5 < 16 by omega)]
      refine ⟨by omega, ?_⟩
      exact hgX_e ⟨by omega, by omega⟩ (by first | rw [if_pos (by omega)] | rw [if_neg (by omega)])
  · refine g_bipush X dX8_hang_9 (by decide +kernel) ?_
    rw [hQ]
    refine g_iret X hr hlk dX8_hang_11 ?_
    exact ⟨by rw [if_neg (by omega)], by rw [if_neg (by omega)]⟩
set_option maxRecDepth 100000 in
set_option maxHeartbeats 4000000 in
theorem c_X8_tellIce (lL : Launch) (tT : TT) (dD : va_G) (al : Int → Nat) (M : Mem) (y a b : Int) (hy : 0 ≤ y ∧ y < 401) (hl : i32 (M 60 y)) : CV lL yX8_tellIce cX8_tellIce 4 0 0 tT dD al [.ref (al 24), .int (iN y), .int (iN a), .int (iN b)] M (fun M' => M' = tlX M y a b) := by
  refine CV.of (own := "RedSkies$Show") (ls0 := [some (.ref (al 24)), some (.int (iN y)), some (.int (iN a)), some (.int (iN b))]) (by decide +kernel) rfl (Nat.le_of_ble_eq_true rfl) rfl ?_
  intro pP eE sS mI aA bB mM cC X hr hlk
  obtain ⟨Q, hQ⟩ : ∃ Q : State → Prop, Q = MQ bB (QV tT dD al (fun M' => M' = tlX M y a b)) aA sS 0 0 (fA al) := ⟨_, rfl⟩
  rw [← hQ]
  refine g_aload_n X dX8_tellIce_0 rfl rfl ?_
  refine g_getr (r := 60) X kd_24 fc7 (k := 3) (by decide) rfl wd_223 rfl (by decide) dX8_tellIce_1 ?_
  refine g_iload_n X dX8_tellIce_4 rfl rfl ?_
  refine g_iald X kd_60 (by omega) (by omega) dX8_tellIce_5 ?_
  refine g_iconst X dX8_tellIce_6 ?_
  refine g_icmp_ne (tgt := 20) X dX8_tellIce_7 (by decide) ⟨by omega, by omega⟩ (by decide) (fun q7 => ?_) (fun q7 => ?_)
  · refine g_aload_n X dX8_tellIce_20 rfl rfl ?_
    refine g_getr (r := 60) X kd_24 fc7 (k := 3) (by decide) rfl wd_223 rfl (by decide) dX8_tellIce_21 ?_
    refine g_iload_n X dX8_tellIce_24 rfl rfl ?_
    refine g_iload_n X dX8_tellIce_25 rfl rfl ?_
    refine g_iast X kd_60 (by omega) (by omega) dX8_tellIce_26 ?_
    refine g_aload_n X dX8_tellIce_27 rfl rfl ?_
    refine g_getr (r := 61) X kd_24 fc7 (k := 4) (by decide) rfl wd_225 rfl (by decide) dX8_tellIce_28 ?_
    refine g_iload_n X dX8_tellIce_31 rfl rfl ?_
    refine g_iload_n X dX8_tellIce_32 rfl rfl ?_
    refine g_iast X kd_61 (by omega) (by omega) dX8_tellIce_33 ?_
    rw [hQ]
    refine g_vret X hr hlk dX8_tellIce_34 ?_
    first | (unfold tlX; rw [if_pos (by omega)]; done) | (unfold tlX; rw [if_neg (by omega)]; done)
  · refine g_aload_n X dX8_tellIce_10 rfl rfl ?_
    refine g_dup X dX8_tellIce_11 rfl ?_
    refine g_geti (kz := 7) X kd_24 fc7 (k := 7) (by decide) rfl wd_231 rfl dX8_tellIce_12 ?_
    refine g_iconst X dX8_tellIce_15 ?_
    refine g_iadd X dX8_tellIce_16 ?_
    refine g_puti (kz := 7) X kd_24 fc7 (k := 7) (by decide) rfl wd_231 rfl rfl rfl dX8_tellIce_17 ?_
    refine g_aload_n X dX8_tellIce_20 rfl rfl ?_
    refine g_getr (r := 60) X kd_24 fc7 (k := 3) (by decide) rfl wd_223 rfl (by decide) dX8_tellIce_21 ?_
    refine g_iload_n X dX8_tellIce_24 rfl rfl ?_
    refine g_iload_n X dX8_tellIce_25 rfl rfl ?_
    refine g_iast X kd_60 (by omega) (by omega) dX8_tellIce_26 ?_
    refine g_aload_n X dX8_tellIce_27 rfl rfl ?_
    refine g_getr (r := 61) X kd_24 fc7 (k := 4) (by decide) rfl wd_225 rfl (by decide) dX8_tellIce_28 ?_
    refine g_iload_n X dX8_tellIce_31 rfl rfl ?_
    refine g_iload_n X dX8_tellIce_32 rfl rfl ?_
    refine g_iast X kd_61 (by omega) (by omega) dX8_tellIce_33 ?_
    rw [hQ]
    refine g_vret X hr hlk dX8_tellIce_34 ?_
    first | (unfold tlX; rw [if_pos (by omega)]; done) | (unfold tlX; rw [if_neg (by omega)]; done)
set_option maxRecDepth 100000 in
set_option maxHeartbeats 4000000 in
theorem c_X8_forgetIce (lL : Launch) (tT : TT) (dD : va_G) (al : Int → Nat) (M : Mem) (y : Int) (hy : 0 ≤ y ∧ y < 401) (hl : i32 (M 60 y)) : CV lL yX8_forgetIce cX8_forgetIce 2 0 0 tT dD al [.ref (al 24), .int (iN y)] M (fun M' => M' = fgX M y) := by
  refine CV.of (own := "RedSkies$Show") (ls0 := [some (.ref (al 24)), some (.int (iN y))]) (by decide +kernel) rfl (Nat.le_of_ble_eq_true rfl) rfl ?_
  intro pP eE sS mI aA bB mM cC X hr hlk
  obtain ⟨Q, hQ⟩ : ∃ Q : State → Prop, Q = MQ bB (QV tT dD al (fun M' => M' = fgX M y)) aA sS 0 0 (fA al) := ⟨_, rfl⟩
  rw [← hQ]
  refine g_aload_n X dX8_forgetIce_0 rfl rfl ?_
  refine g_getr (r := 60) X kd_24 fc7 (k := 3) (by decide) rfl wd_223 rfl (by decide) dX8_forgetIce_1 ?_
  refine g_iload_n X dX8_forgetIce_4 rfl rfl ?_
  refine g_iald X kd_60 (by omega) (by omega) dX8_forgetIce_5 ?_
  refine g_iconst X dX8_forgetIce_6 ?_
  refine g_icmp_eq (tgt := 20) X dX8_forgetIce_7 (by decide) ⟨by omega, by omega⟩ (by decide) (fun q7 => ?_) (fun q7 => ?_)
  · refine g_aload_n X dX8_forgetIce_20 rfl rfl ?_
    refine g_getr (r := 60) X kd_24 fc7 (k := 3) (by decide) rfl wd_223 rfl (by decide) dX8_forgetIce_21 ?_
    refine g_iload_n X dX8_forgetIce_24 rfl rfl ?_
    refine g_iconst X dX8_forgetIce_25 ?_
    refine g_iast X kd_60 (by omega) (by omega) dX8_forgetIce_26 ?_
    rw [hQ]
    refine g_vret X hr hlk dX8_forgetIce_27 ?_
    first | (unfold fgX; rw [if_pos (by omega)]; done) | (unfold fgX; rw [if_neg (by omega)]; done)
  · refine g_aload_n X dX8_forgetIce_10 rfl rfl ?_
    refine g_dup X dX8_forgetIce_11 rfl ?_
    refine g_geti (kz := 7) X kd_24 fc7 (k := 7) (by decide) rfl wd_231 rfl dX8_forgetIce_12 ?_
    refine g_iconst X dX8_forgetIce_15 ?_
    refine g_isub X dX8_forgetIce_16 ?_
    refine g_puti (kz := 7) X kd_24 fc7 (k := 7) (by decide) rfl wd_231 rfl rfl rfl dX8_forgetIce_17 ?_
    refine g_aload_n X dX8_forgetIce_20 rfl rfl ?_
    refine g_getr (r := 60) X kd_24 fc7 (k := 3) (by decide) rfl wd_223 rfl (by decide) dX8_forgetIce_21 ?_
    refine g_iload_n X dX8_forgetIce_24 rfl rfl ?_
    refine g_iconst X dX8_forgetIce_25 ?_
    refine g_iast X kd_60 (by omega) (by omega) dX8_forgetIce_26 ?_
    rw [hQ]
    refine g_vret X hr hlk dX8_forgetIce_27 ?_
    first | (unfold fgX; rw [if_pos (by omega)]; done) | (unfold fgX; rw [if_neg (by omega)]; done)
set_option maxRecDepth 100000 in
set_option maxHeartbeats 4000000 in
theorem c_X8_takeFromK (lL : Launch) (tT : TT) (dD : va_G) (al : Int → Nat) (M : Mem)  (hn : 0 ≤ M 24 5 ∧ M 24 5 ≤ 16) : CV lL yX8_takeFrom cX8_takeFrom 3 1 40 tT dD al [.ref (al 62), .ref (al 24)] M (fun M' => M' = (tfX M 62 24 64 81 97 98 99 26 43 59 60 61)) := by
  refine CV.of (own := "RedSkies$Show") (ls0 := [some (.ref (al 62)), some (.ref (al 24)), none]) (by decide +kernel) rfl (Nat.le_of_ble_eq_true rfl) rfl ?_
  intro pP eE sS mI aA bB mM cC X hr hlk
  obtain ⟨Q, hQ⟩ : ∃ Q : State → Prop, Q = MQ bB (QV tT dD al (fun M' => M' = (tfX M 62 24 64 81 97 98 99 26 43 59 60 61))) aA sS 0 0 (fA al) := ⟨_, rfl⟩
  rw [← hQ]
  refine g_iconst X dX8_takeFrom_0 ?_
  refine g_istore_n_2 X dX8_takeFrom_1 rfl rfl (fun v2_1 ev2_1 => ?_)
  subst v2_1
  have L_2 : ∀ (n : Nat) (i : Int) (M1 : Mem), (0 ≤ i) → (i ≤ M 24 5) → (M1 = tkX M 64 81 26 43 i) → (16 - i).toNat < n → Gd pP lL eE (rmN 1 40) sS mI aA bB mM cC 0 0 Q tT dD al (fA al) 2 [some (.ref (al 62)), some (.ref (al 24)), some (.int (iN i))] [] M1 := by
    intro n
    induction n with
    | zero => intro i M1 hi hi2 hM hm; exact absurd hm (Nat.not_lt_zero _)
    | succ n ih =>
      intro i M1 hi hi2 hM hm
      have e5 : M1 24 5 = M 24 5 := by rw [hM]; simp only [tkX]; rw [if_neg (by omega), if_neg (by omega)]
      have e6 : M1 24 6 = M 24 6 := by rw [hM]; simp only [tkX]; rw [if_neg (by omega), if_neg (by omega)]
      have e7 : M1 24 7 = M 24 7 := by rw [hM]; simp only [tkX]; rw [if_neg (by omega), if_neg (by omega)]
      have ih_2 := ih
      clear ih
      refine g_iload_n X dX8_takeFrom_2 rfl rfl ?_
      refine g_aload_n X dX8_takeFrom_3 rfl rfl ?_
      refine g_geti (kz := 5) X kd_24 fc7 (k := 5) (by decide) rfl wd_227 rfl dX8_takeFrom_4 ?_
      refine g_icmp_ge (tgt := 54) X dX8_takeFrom_7 (by decide) ⟨by omega, by omega⟩ ⟨by omega, by omega⟩ (fun q7 => ?_) (fun q7 => ?_)
      · refine g_aload_n X dX8_takeFrom_54 rfl rfl ?_
        refine g_getr (r := 59) X kd_24 fc7 (k := 2) (by decide) rfl wd_221 rfl (by decide) dX8_takeFrom_55 ?_
        refine g_iconst X dX8_takeFrom_58 ?_
        refine g_aload_n X dX8_takeFrom_59 rfl rfl ?_
        refine g_getr (r := 97) X kd_62 fc7 (k := 2) (by decide) rfl wd_221 rfl (by decide) dX8_takeFrom_60 ?_
        refine g_iconst X dX8_takeFrom_63 ?_
        refine g_bipush X dX8_takeFrom_64 (by decide +kernel) ?_
        refine g_copy X wd_787 wd_494 wd_493 wd_79 kd_59 kd_97 (by first | decide | omega) (by first | decide | omega) (by first | decide | omega) (by first | decide | omega) (by first | decide | omega) rfl ⟨by decide, by decide⟩ (Nat.le_of_ble_eq_true rfl) dX8_takeFrom_66 ?_
        refine g_aload_n X dX8_takeFrom_69 rfl rfl ?_
        refine g_getr (r := 60) X kd_24 fc7 (k := 3) (by decide) rfl wd_223 rfl (by decide) dX8_takeFrom_70 ?_
        refine g_iconst X dX8_takeFrom_73 ?_
        refine g_aload_n X dX8_takeFrom_74 rfl rfl ?_
        refine g_getr (r := 98) X kd_62 fc7 (k := 3) (by decide) rfl wd_223 rfl (by decide) dX8_takeFrom_75 ?_
        refine g_iconst X dX8_takeFrom_78 ?_
        refine g_sipush X dX8_takeFrom_79 (by decide +kernel) ?_
        refine g_copy X wd_787 wd_494 wd_493 wd_79 kd_60 kd_98 (by first | decide | omega) (by first | decide | omega) (by first | decide | omega) (by first | decide | omega) (by first | decide | omega) rfl ⟨by decide, by decide⟩ (Nat.le_of_ble_eq_true rfl) dX8_takeFrom_82 ?_
        refine g_aload_n X dX8_takeFrom_85 rfl rfl ?_
        refine g_getr (r := 61) X kd_24 fc7 (k := 4) (by decide) rfl wd_225 rfl (by decide) dX8_takeFrom_86 ?_
        refine g_iconst X dX8_takeFrom_89 ?_
        refine g_aload_n X dX8_takeFrom_90 rfl rfl ?_
        refine g_getr (r := 99) X kd_62 fc7 (k := 4) (by decide) rfl wd_225 rfl (by decide) dX8_takeFrom_91 ?_
        refine g_iconst X dX8_takeFrom_94 ?_
        refine g_sipush X dX8_takeFrom_95 (by decide +kernel) ?_
        refine g_copy X wd_787 wd_494 wd_493 wd_79 kd_61 kd_99 (by first | decide | omega) (by first | decide | omega) (by first | decide | omega) (by first | decide | omega) (by first | decide | omega) rfl ⟨by decide, by decide⟩ (Nat.le_of_ble_eq_true rfl) dX8_takeFrom_98 ?_
        refine g_aload_n X dX8_takeFrom_101 rfl rfl ?_
        refine g_aload_n X dX8_takeFrom_102 rfl rfl ?_
        refine g_geti (kz := 5) X kd_24 fc7 (k := 5) (by decide) rfl wd_227 rfl dX8_takeFrom_103 ?_
        refine g_teq (b := M 24 5) (by simp [cpy]; exact e5) ?_
        refine g_puti (kz := 5) X kd_62 fc7 (k := 5) (by decide) rfl wd_227 rfl rfl rfl dX8_takeFrom_106 ?_
        refine g_aload_n X dX8_takeFrom_109 rfl rfl ?_
        refine g_aload_n X dX8_takeFrom_110 rfl rfl ?_
        refine g_geti (kz := 6) X kd_24 fc7 (k := 6) (by decide) rfl wd_229 rfl dX8_takeFrom_111 ?_
        refine g_teq (b := ((cpy (cpy (cpy M1 59 0 97 0 6) 60 0 98 0 401) 61 0 99 0 401) 24 6)) (by first | (simp [mu]; done) | (simp only [mu]; repeat (first | rw [if_pos (⟨rfl, rfl⟩)] | rw [if_neg (by omega)]))) ?_
        refine g_teq (b := M 24 6) (by simp [cpy, mu]; exact e6) ?_
        refine g_puti (kz := 6) X kd_62 fc7 (k := 6) (by decide) rfl wd_229 rfl rfl rfl dX8_takeFrom_114 ?_
        refine g_aload_n X dX8_takeFrom_117 rfl rfl ?_
        refine g_aload_n X dX8_takeFrom_118 rfl rfl ?_
        refine g_geti (kz := 7) X kd_24 fc7 (k := 7) (by decide) rfl wd_231 rfl dX8_takeFrom_119 ?_
        refine g_teq (b := ((cpy (cpy (cpy M1 59 0 97 0 6) 60 0 98 0 401) 61 0 99 0 401) 24 7)) (by first | (simp [mu]; done) | (simp only [mu]; repeat (first | rw [if_pos (⟨rfl, rfl⟩)] | rw [if_neg (by omega)]))) ?_
        refine g_teq (b := M 24 7) (by simp [cpy, mu]; exact e7) ?_
        refine g_puti (kz := 7) X kd_62 fc7 (k := 7) (by decide) rfl wd_231 rfl rfl rfl dX8_takeFrom_122 ?_
        rw [hQ]
        refine g_vret X hr hlk dX8_takeFrom_125 ?_
        obtain rfl : i = M 24 5 := by omega
        rw [hM]
        rfl
      · refine g_aload_n X dX8_takeFrom_10 rfl rfl ?_
        refine g_getr (r := 25) X kd_24 fc7 (k := 0) (by decide) rfl wd_216 rfl (by decide) dX8_takeFrom_11 ?_
        refine g_iload_n X dX8_takeFrom_14 rfl rfl ?_
        have b0_15_47 : 0 ≤ i := by omega
        have b1_15_47 : i < 16 := by omega
        refine g_aald X kd_25 (bz := 26) rfl b0_15_47 b1_15_47 dX8_takeFrom_15 ?_
        have kr_15_47 := kr_26 b0_15_47 b1_15_47
        refine g_iconst X dX8_takeFrom_16 ?_
        refine g_aload_n X dX8_takeFrom_17 rfl rfl ?_
        refine g_getr (r := 63) X kd_62 fc7 (k := 0) (by decide) rfl wd_216 rfl (by decide) dX8_takeFrom_18 ?_
        refine g_iload_n X dX8_takeFrom_21 rfl rfl ?_
        have b0_22_52 : 0 ≤ i := by omega
        have b1_22_52 : i < 16 := by omega
        refine g_aald X kd_63 (bz := 64) rfl b0_22_52 b1_22_52 dX8_takeFrom_22 ?_
        have kr_22_52 := kr_64 b0_22_52 b1_22_52
        refine g_iconst X dX8_takeFrom_23 ?_
        refine g_bipush X dX8_takeFrom_24 (by decide +kernel) ?_
        refine g_copy X wd_787 wd_494 wd_493 wd_79 kr_15_47 kr_22_52 (by first | decide | omega) (by first | decide | omega) (by first | decide | omega) (by first | decide | omega) (by first | decide | omega) rfl ⟨by decide, by decide⟩ (Nat.le_of_ble_eq_true rfl) dX8_takeFrom_26 ?_
        refine g_aload_n X dX8_takeFrom_29 rfl rfl ?_
        refine g_getr (r := 42) X kd_24 fc7 (k := 1) (by decide) rfl wd_218 rfl (by decide) dX8_takeFrom_30 ?_
        refine g_iload_n X dX8_takeFrom_33 rfl rfl ?_
        have b0_34_59 : 0 ≤ i := by omega
        have b1_34_59 : i < 16 := by omega
        refine g_aald X kd_42 (bz := 43) rfl b0_34_59 b1_34_59 dX8_takeFrom_34 ?_
        have kr_34_59 := kr_43 b0_34_59 b1_34_59
        refine g_iconst X dX8_takeFrom_35 ?_
        refine g_aload_n X dX8_takeFrom_36 rfl rfl ?_
        refine g_getr (r := 80) X kd_62 fc7 (k := 1) (by decide) rfl wd_218 rfl (by decide) dX8_takeFrom_37 ?_
        refine g_iload_n X dX8_takeFrom_40 rfl rfl ?_
        have b0_41_64 : 0 ≤ i := by omega
        have b1_41_64 : i < 16 := by omega
        refine g_aald X kd_80 (bz := 81) rfl b0_41_64 b1_41_64 dX8_takeFrom_41 ?_
        have kr_41_64 := kr_81 b0_41_64 b1_41_64
        refine g_iconst X dX8_takeFrom_42 ?_
        refine g_bipush X dX8_takeFrom_43 (by decide +kernel) ?_
        refine g_copy X wd_787 wd_494 wd_493 wd_79 kr_34_59 kr_41_64 (by first | decide | omega) (by first | decide | omega) (by first | decide | omega) (by first | decide | omega) (by first | decide | omega) rfl ⟨by decide, by decide⟩ (Nat.le_of_ble_eq_true rfl) dX8_takeFrom_45 ?_
        refine g_iinc_2 X dX8_takeFrom_48 rfl (fun v2_48 ev2_48 => ?_)
        subst v2_48
        refine g_goto (tgt := 2) X dX8_takeFrom_51 (by decide) ?_
        exact g_sub (ih_2 _ _ (by omega) (by omega) (tkX_s hM hi (by omega) (by decide) (by decide) (by decide)) (by omega)) ⟨rfl, rfl, rfl, trivial⟩
  exact g_sub (L_2 _ _ _ (by omega) (by omega) ((tkX_0 M _ _ _ _).symm) (Nat.lt_succ_self _)) ⟨rfl, rfl, rfl, trivial⟩
set_option maxRecDepth 100000 in
set_option maxHeartbeats 4000000 in
theorem c_X8_takeFromS (lL : Launch) (tT : TT) (dD : va_G) (al : Int → Nat) (M : Mem)  (hn : 0 ≤ M 62 5 ∧ M 62 5 ≤ 16) : CV lL yX8_takeFrom cX8_takeFrom 3 1 40 tT dD al [.ref (al 24), .ref (al 62)] M (fun M' => M' = (tfX M 24 62 26 43 59 60 61 64 81 97 98 99)) := by
  refine CV.of (own := "RedSkies$Show") (ls0 := [some (.ref (al 24)), some (.ref (al 62)), none]) (by decide +kernel) rfl (Nat.le_of_ble_eq_true rfl) rfl ?_
  intro pP eE sS mI aA bB mM cC X hr hlk
  obtain ⟨Q, hQ⟩ : ∃ Q : State → Prop, Q = MQ bB (QV tT dD al (fun M' => M' = (tfX M 24 62 26 43 59 60 61 64 81 97 98 99))) aA sS 0 0 (fA al) := ⟨_, rfl⟩
  rw [← hQ]
  refine g_iconst X dX8_takeFrom_0 ?_
  refine g_istore_n_2 X dX8_takeFrom_1 rfl rfl (fun v2_1 ev2_1 => ?_)
  subst v2_1
  have L_2 : ∀ (n : Nat) (i : Int) (M1 : Mem), (0 ≤ i) → (i ≤ M 62 5) → (M1 = tkX M 26 43 64 81 i) → (16 - i).toNat < n → Gd pP lL eE (rmN 1 40) sS mI aA bB mM cC 0 0 Q tT dD al (fA al) 2 [some (.ref (al 24)), some (.ref (al 62)), some (.int (iN i))] [] M1 := by
    intro n
    induction n with
    | zero => intro i M1 hi hi2 hM hm; exact absurd hm (Nat.not_lt_zero _)
    | succ n ih =>
      intro i M1 hi hi2 hM hm
      have e5 : M1 62 5 = M 62 5 := by rw [hM]; simp only [tkX]; rw [if_neg (by omega), if_neg (by omega)]
      have e6 : M1 62 6 = M 62 6 := by rw [hM]; simp only [tkX]; rw [if_neg (by omega), if_neg (by omega)]
      have e7 : M1 62 7 = M 62 7 := by rw [hM]; simp only [tkX]; rw [if_neg (by omega), if_neg (by omega)]
      have ih_2 := ih
      clear ih
      refine g_iload_n X dX8_takeFrom_2 rfl rfl ?_
      refine g_aload_n X dX8_takeFrom_3 rfl rfl ?_
      refine g_geti (kz := 5) X kd_62 fc7 (k := 5) (by decide) rfl wd_227 rfl dX8_takeFrom_4 ?_
      refine g_icmp_ge (tgt := 54) X dX8_takeFrom_7 (by decide) ⟨by omega, by omega⟩ ⟨by omega, by omega⟩ (fun q7 => ?_) (fun q7 => ?_)
      · refine g_aload_n X dX8_takeFrom_54 rfl rfl ?_
        refine g_getr (r := 97) X kd_62 fc7 (k := 2) (by decide) rfl wd_221 rfl (by decide) dX8_takeFrom_55 ?_
        refine g_iconst X dX8_takeFrom_58 ?_
        refine g_aload_n X dX8_takeFrom_59 rfl rfl ?_
        refine g_getr (r := 59) X kd_24 fc7 (k := 2) (by decide) rfl wd_221 rfl (by decide) dX8_takeFrom_60 ?_
        refine g_iconst X dX8_takeFrom_63 ?_
        refine g_bipush X dX8_takeFrom_64 (by decide +kernel) ?_
        refine g_copy X wd_787 wd_494 wd_493 wd_79 kd_97 kd_59 (by first | decide | omega) (by first | decide | omega) (by first | decide | omega) (by first | decide | omega) (by first | decide | omega) rfl ⟨by decide, by decide⟩ (Nat.le_of_ble_eq_true rfl) dX8_takeFrom_66 ?_
        refine g_aload_n X dX8_takeFrom_69 rfl rfl ?_
        refine g_getr (r := 98) X kd_62 fc7 (k := 3) (by decide) rfl wd_223 rfl (by decide) dX8_takeFrom_70 ?_
        refine g_iconst X dX8_takeFrom_73 ?_
        refine g_aload_n X dX8_takeFrom_74 rfl rfl ?_
        refine g_getr (r := 60) X kd_24 fc7 (k := 3) (by decide) rfl wd_223 rfl (by decide) dX8_takeFrom_75 ?_
        refine g_iconst X dX8_takeFrom_78 ?_
        refine g_sipush X dX8_takeFrom_79 (by decide +kernel) ?_
        refine g_copy X wd_787 wd_494 wd_493 wd_79 kd_98 kd_60 (by first | decide | omega) (by first | decide | omega) (by first | decide | omega) (by first | decide | omega) (by first | decide | omega) rfl ⟨by decide, by decide⟩ (Nat.le_of_ble_eq_true rfl) dX8_takeFrom_82 ?_
        refine g_aload_n X dX8_takeFrom_85 rfl rfl ?_
        refine g_getr (r := 99) X kd_62 fc7 (k := 4) (by decide) rfl wd_225 rfl (by decide) dX8_takeFrom_86 ?_
        refine g_iconst X dX8_takeFrom_89 ?_
        refine g_aload_n X dX8_takeFrom_90 rfl rfl ?_
        refine g_getr (r := 61) X kd_24 fc7 (k := 4) (by decide) rfl wd_225 rfl (by decide) dX8_takeFrom_91 ?_
        refine g_iconst X dX8_takeFrom_94 ?_
        refine g_sipush X dX8_takeFrom_95 (by decide +kernel) ?_
        refine g_copy X wd_787 wd_494 wd_493 wd_79 kd_99 kd_61 (by first | decide | omega) (by first | decide | omega) (by first | decide | omega) (by first | decide | omega) (by first | decide | omega) rfl ⟨by decide, by decide⟩ (Nat.le_of_ble_eq_true rfl) dX8_takeFrom_98 ?_
        refine g_aload_n X dX8_takeFrom_101 rfl rfl ?_
        refine g_aload_n X dX8_takeFrom_102 rfl rfl ?_
        refine g_geti (kz := 5) X kd_62 fc7 (k := 5) (by decide) rfl wd_227 rfl dX8_takeFrom_103 ?_
        refine g_teq (b := M 62 5) (by simp [cpy]; exact e5) ?_
        refine g_puti (kz := 5) X kd_24 fc7 (k := 5) (by decide) rfl wd_227 rfl rfl rfl dX8_takeFrom_106 ?_
        refine g_aload_n X dX8_takeFrom_109 rfl rfl ?_
        refine g_aload_n X dX8_takeFrom_110 rfl rfl ?_
        refine g_geti (kz := 6) X kd_62 fc7 (k := 6) (by decide) rfl wd_229 rfl dX8_takeFrom_111 ?_
        refine g_teq (b := ((cpy (cpy (cpy M1 97 0 59 0 6) 98 0 60 0 401) 99 0 61 0 401) 62 6)) (by first | (simp [mu]; done) | (simp only [mu]; repeat (first | rw [if_pos (⟨rfl, rfl⟩)] | rw [if_neg (by omega)]))) ?_
        refine g_teq (b := M 62 6) (by simp [cpy, mu]; exact e6) ?_
        refine g_puti (kz := 6) X kd_24 fc7 (k := 6) (by decide) rfl wd_229 rfl rfl rfl dX8_takeFrom_114 ?_
        refine g_aload_n X dX8_takeFrom_117 rfl rfl ?_
        refine g_aload_n X dX8_takeFrom_118 rfl rfl ?_
        refine g_geti (kz := 7) X kd_62 fc7 (k := 7) (by decide) rfl wd_231 rfl dX8_takeFrom_119 ?_
        refine g_teq (b := ((cpy (cpy (cpy M1 97 0 59 0 6) 98 0 60 0 401) 99 0 61 0 401) 62 7)) (by first | (simp [mu]; done) | (simp only [mu]; repeat (first | rw [if_pos (⟨rfl, rfl⟩)] | rw [if_neg (by omega)]))) ?_
        refine g_teq (b := M 62 7) (by simp [cpy, mu]; exact e7) ?_
        refine g_puti (kz := 7) X kd_24 fc7 (k := 7) (by decide) rfl wd_231 rfl rfl rfl dX8_takeFrom_122 ?_
        rw [hQ]
        refine g_vret X hr hlk dX8_takeFrom_125 ?_
        obtain rfl : i = M 62 5 := by omega
        rw [hM]
        rfl
      · refine g_aload_n X dX8_takeFrom_10 rfl rfl ?_
        refine g_getr (r := 63) X kd_62 fc7 (k := 0) (by decide) rfl wd_216 rfl (by decide) dX8_takeFrom_11 ?_
        refine g_iload_n X dX8_takeFrom_14 rfl rfl ?_
        have b0_15_47 : 0 ≤ i := by omega
        have b1_15_47 : i < 16 := by omega
        refine g_aald X kd_63 (bz := 64) rfl b0_15_47 b1_15_47 dX8_takeFrom_15 ?_
        have kr_15_47 := kr_64 b0_15_47 b1_15_47
        refine g_iconst X dX8_takeFrom_16 ?_
        refine g_aload_n X dX8_takeFrom_17 rfl rfl ?_
        refine g_getr (r := 25) X kd_24 fc7 (k := 0) (by decide) rfl wd_216 rfl (by decide) dX8_takeFrom_18 ?_
        refine g_iload_n X dX8_takeFrom_21 rfl rfl ?_
        have b0_22_52 : 0 ≤ i := by omega
        have b1_22_52 : i < 16 := by omega
        refine g_aald X kd_25 (bz := 26) rfl b0_22_52 b1_22_52 dX8_takeFrom_22 ?_
        have kr_22_52 := kr_26 b0_22_52 b1_22_52
        refine g_iconst X dX8_takeFrom_23 ?_
        refine g_bipush X dX8_takeFrom_24 (by decide +kernel) ?_
        refine g_copy X wd_787 wd_494 wd_493 wd_79 kr_15_47 kr_22_52 (by first | decide | omega) (by first | decide | omega) (by first | decide | omega) (by first | decide | omega) (by first | decide | omega) rfl ⟨by decide, by decide⟩ (Nat.le_of_ble_eq_true rfl) dX8_takeFrom_26 ?_
        refine g_aload_n X dX8_takeFrom_29 rfl rfl ?_
        refine g_getr (r := 80) X kd_62 fc7 (k := 1) (by decide) rfl wd_218 rfl (by decide) dX8_takeFrom_30 ?_
        refine g_iload_n X dX8_takeFrom_33 rfl rfl ?_
        have b0_34_59 : 0 ≤ i := by omega
        have b1_34_59 : i < 16 := by omega
        refine g_aald X kd_80 (bz := 81) rfl b0_34_59 b1_34_59 dX8_takeFrom_34 ?_
        have kr_34_59 := kr_81 b0_34_59 b1_34_59
        refine g_iconst X dX8_takeFrom_35 ?_
        refine g_aload_n X dX8_takeFrom_36 rfl rfl ?_
        refine g_getr (r := 42) X kd_24 fc7 (k := 1) (by decide) rfl wd_218 rfl (by decide) dX8_takeFrom_37 ?_
        refine g_iload_n X dX8_takeFrom_40 rfl rfl ?_
        have b0_41_64 : 0 ≤ i := by omega
        have b1_41_64 : i < 16 := by omega
        refine g_aald X kd_42 (bz := 43) rfl b0_41_64 b1_41_64 dX8_takeFrom_41 ?_
        have kr_41_64 := kr_43 b0_41_64 b1_41_64
        refine g_iconst X dX8_takeFrom_42 ?_
        refine g_bipush X dX8_takeFrom_43 (by decide +kernel) ?_
        refine g_copy X wd_787 wd_494 wd_493 wd_79 kr_34_59 kr_41_64 (by first | decide | omega) (by first | decide | omega) (by first | decide | omega) (by first | decide | omega) (by first | decide | omega) rfl ⟨by decide, by decide⟩ (Nat.le_of_ble_eq_true rfl) dX8_takeFrom_45 ?_
        refine g_iinc_2 X dX8_takeFrom_48 rfl (fun v2_48 ev2_48 => ?_)
        subst v2_48
        refine g_goto (tgt := 2) X dX8_takeFrom_51 (by decide) ?_
        exact g_sub (ih_2 _ _ (by omega) (by omega) (tkX_s hM hi (by omega) (by decide) (by decide) (by decide)) (by omega)) ⟨rfl, rfl, rfl, trivial⟩
  exact g_sub (L_2 _ _ _ (by omega) (by omega) ((tkX_0 M _ _ _ _).symm) (Nat.lt_succ_self _)) ⟨rfl, rfl, rfl, trivial⟩
set_option maxRecDepth 100000 in
set_option maxHeartbeats 4000000 in
theorem c_X6_draw (lL : Launch) (tT : TT) (dD : va_G) (al : Int → Nat) (M : Mem) (d : Int) (hs : 0 ≤ M 113 0 ∧ M 113 0 < 2147483648) (hd : 0 < d ∧ d ≤ 401) : CI lL yX6_draw cX6_draw 2 FieldType.int 0 0 tT dD al [.ref (al 113), .int (iN d)] M (fun r M' => r = drw (nxS (M 113 0)) d ∧ M' = mu M 113 0 (nxS (M 113 0))) := by
  refine CI.of (own := "RedSkies$Painter") (ls0 := [some (.ref (al 113)), some (.int (iN d))]) (by decide +kernel) rfl (Nat.le_of_ble_eq_true rfl) rfl ?_
  intro pP eE sS mI aA bB mM cC X hr hlk
  obtain ⟨Q, hQ⟩ : ∃ Q : State → Prop, Q = MQ bB (QI tT dD al (fun r M' => r = drw (nxS (M 113 0)) d ∧ M' = mu M 113 0 (nxS (M 113 0)))) aA sS 0 0 (fA al) := ⟨_, rfl⟩
  rw [← hQ]
  refine g_aload_n X dX6_draw_0 rfl rfl ?_
  refine g_ldc2 X (n := 1103515245) wd_605 (by decide +kernel) dX6_draw_1 ?_
  refine g_aload_n X dX6_draw_4 rfl rfl ?_
  refine g_getl (kz := 0) X kd_113 fc6 (k := 0) (by decide) rfl wd_298 rfl dX6_draw_5 ?_
  refine g_lmul X dX6_draw_8 ?_
  refine g_ldc2 X (n := 12345) wd_606 (by decide +kernel) dX6_draw_9 ?_
  refine g_ladd X dX6_draw_12 ?_
  refine g_ldc2 X (n := 2147483648) wd_607 (by decide +kernel) dX6_draw_13 ?_
  refine g_lrem X dX6_draw_16 ⟨by omega, by omega⟩ ⟨by omega, by omega⟩ ?_
  refine g_putl (kz := 0) X kd_113 fc6 (k := 0) (by decide) rfl wd_298 rfl rfl rfl dX6_draw_17 ?_
  refine g_iload_n X dX6_draw_20 rfl rfl ?_
  refine g_iconst X dX6_draw_21 ?_
  refine g_icmp_ge (tgt := 29) X dX6_draw_22 (by decide) ⟨by omega, by omega⟩ (by decide) (fun q22 => ?_) (fun q22 => ?_)
  · refine g_aload_n X dX6_draw_29 rfl rfl ?_
    refine g_getl (kz := 0) X kd_113 fc6 (k := 0) (by decide) rfl wd_298 rfl dX6_draw_30 ?_
    refine g_teql (b := (((1103515245 * (M 113 0)) + 12345) % 2147483648)) (by first | (simp [mu]; done) | (simp only [mu]; repeat (first | rw [if_pos (⟨rfl, rfl⟩)] | rw [if_neg (by omega)]))) ?_
    refine g_ldc2 X (n := 65536) wd_608 (by decide +kernel) dX6_draw_33 ?_
    refine g_ldiv X dX6_draw_36 ⟨by omega, by omega⟩ ⟨by omega, by omega⟩ ?_
    refine g_iload_n X dX6_draw_37 rfl rfl ?_
    refine g_i2l X dX6_draw_38 ⟨by omega, by omega⟩ ?_
    refine g_lrem X dX6_draw_39 ⟨by omega, by omega⟩ ⟨by omega, by omega⟩ ?_
    refine g_l2i X dX6_draw_40 ?_
    rw [hQ]
    refine g_iret X hr hlk dX6_draw_41 ?_
    first | (exfalso; omega) | exact ⟨rfl, rfl⟩
  · refine g_iconst X dX6_draw_25 ?_
    refine g_goto (tgt := 41) X dX6_draw_26 (by decide) ?_
    rw [hQ]
    refine g_iret X hr hlk dX6_draw_41 ?_
    first | (exfalso; omega) | exact ⟨rfl, rfl⟩
set_option maxRecDepth 100000 in
set_option maxHeartbeats 4000000 in
theorem c_X8_isNearR (lL : Launch) (tT : TT) (dD : va_G) (al : Int → Nat) (M : Mem) (q w : Int) (h0 : 0 ≤ q) (h1 : q < 16) (hk : 0 ≤ M (26 + q) 0 ∧ M (26 + q) 0 ≤ 4) (hy : 0 ≤ M (26 + q) 2 ∧ M (26 + q) 2 ≤ 400) (hw : 0 ≤ w ∧ w ≤ 9) (hm : M 24 6 = M 114 26 ∧ 0 ≤ M 114 26 ∧ M 114 26 ≤ 6) (he : ∀ i, 0 ≤ i → i < 6 → M 59 i = M 126 i ∧ 0 ≤ M 126 i ∧ M 126 i ≤ 400) : CI lL yX8_isNear cX8_isNear 6 FieldType.boolean 0 0 tT dD al [.ref (al 24), .int (iN q), .int (iN w)] M (fun r M' => r = b2i (nrS M (M (26 + q) 0) (M (26 + q) 2) w) ∧ M' = M) := by
  refine CI.of (own := "RedSkies$Show") (ls0 := [some (.ref (al 24)), some (.int (iN q)), some (.int (iN w)), none, none, none]) (by decide +kernel) rfl (Nat.le_of_ble_eq_true rfl) rfl ?_
  intro pP eE sS mI aA bB mM cC X hr hlk
  obtain ⟨Q, hQ⟩ : ∃ Q : State → Prop, Q = MQ bB (QI tT dD al (fun r M' => r = b2i (nrS M (M (26 + q) 0) (M (26 + q) 2) w) ∧ M' = M)) aA sS 0 0 (fA al) := ⟨_, rfl⟩
  rw [← hQ]
  refine g_aload_n X dX8_isNear_0 rfl rfl ?_
  refine g_getr (r := 25) X kd_24 fc7 (k := 0) (by decide) rfl wd_216 rfl (by decide) dX8_isNear_1 ?_
  refine g_iload_n X dX8_isNear_4 rfl rfl ?_
  have b0_5_4 : 0 ≤ q := by omega
  have b1_5_4 : q < 16 := by omega
  refine g_aald X kd_25 (bz := 26) rfl b0_5_4 b1_5_4 dX8_isNear_5 ?_
  have kr_5_4 := kr_26 b0_5_4 b1_5_4
  refine g_iconst X dX8_isNear_6 ?_
  refine g_iald X kr_5_4 (by decide) (by decide) dX8_isNear_7 ?_
  refine g_iconst X dX8_isNear_8 ?_
  refine g_icmp_ne (tgt := 18) X dX8_isNear_9 (by decide) ⟨by omega, by omega⟩ (by decide) (fun q9 => ?_) (fun q9 => ?_)
  · refine g_iload_n X dX8_isNear_18 rfl rfl ?_
    refine g_istore_n_3 X dX8_isNear_19 rfl rfl (fun v3_19 ev3_19 => ?_)
    subst v3_19
    refine g_iconst X dX8_isNear_20 ?_
    refine g_istore_4 X dX8_isNear_21 rfl (fun v4_21 ev4_21 => ?_)
    subst v4_21
    have L_23 : ∀ (n : Nat) (i : Int), (0 ≤ i) → (i ≤ M 114 26) → (¬ nrK M (M (26 + q) 0) (M (26 + q) 2) w i.toNat) → (6 - i).toNat < n → Gd pP lL eE (rmN 0 0) sS mI aA bB mM cC 0 0 Q tT dD al (fA al) 23 [some (.ref (al 24)), some (.int (iN q)), none, some (.int (iN w)), some (.int (iN i)), none] [] M := by
      intro n
      induction n with
      | zero => intro i hi hi2 hno hm; exact absurd hm (Nat.not_lt_zero _)
      | succ n ih =>
        intro i hi hi2 hno hm
        have ih_23 := ih
        clear ih
        refine g_iload X dX8_isNear_23 rfl ?_
        refine g_aload_n X dX8_isNear_25 rfl rfl ?_
        refine g_geti (kz := 6) X kd_24 fc7 (k := 6) (by decide) rfl wd_229 rfl dX8_isNear_26 ?_
        refine g_icmp_ge (tgt := 69) X dX8_isNear_29 (by decide) ⟨by omega, by omega⟩ ⟨by omega, by omega⟩ (fun q29 => ?_) (fun q29 => ?_)
        · refine g_iconst X dX8_isNear_69 ?_
          rw [hQ]
          refine g_zret X hr hlk (by decide) dX8_isNear_70 ?_
          obtain rfl : i = M 114 26 := by omega
          exact ⟨b2i_0 hno, rfl⟩
        · refine g_aload_n X dX8_isNear_32 rfl rfl ?_
          refine g_getr (r := 25) X kd_24 fc7 (k := 0) (by decide) rfl wd_216 rfl (by decide) dX8_isNear_33 ?_
          refine g_iload_n X dX8_isNear_36 rfl rfl ?_
          have b0_37_22 : 0 ≤ q := by omega
          have b1_37_22 : q < 16 := by omega
          refine g_aald X kd_25 (bz := 26) rfl b0_37_22 b1_37_22 dX8_isNear_37 ?_
          have kr_37_22 := kr_26 b0_37_22 b1_37_22
          refine g_iconst X dX8_isNear_38 ?_
          refine g_iald X kr_37_22 (by decide) (by decide) dX8_isNear_39 ?_
          refine g_aload_n X dX8_isNear_40 rfl rfl ?_
          refine g_getr (r := 59) X kd_24 fc7 (k := 2) (by decide) rfl wd_221 rfl (by decide) dX8_isNear_41 ?_
          refine g_iload X dX8_isNear_44 rfl ?_
          refine g_iald X kd_59 (by omega) (by omega) dX8_isNear_46 ?_
          have w4 := (he i hi (by omega)).2
          refine g_teq (b := M 126 i) (by exact (he i hi (by omega)).1) ?_
          refine g_isub X dX8_isNear_47 ?_
          refine g_istore_5 X dX8_isNear_48 rfl (fun v5_48 ev5_48 => ?_)
          subst v5_48
          refine g_iload X dX8_isNear_50 rfl ?_
          refine g_if_lt (tgt := 63) X dX8_isNear_52 (by decide) ⟨by omega, by omega⟩ (fun q52 => ?_) (fun q52 => ?_)
          · refine g_iinc_4 X dX8_isNear_63 rfl (fun v4_63 ev4_63 => ?_)
            subst v4_63
            refine g_goto (tgt := 23) X dX8_isNear_66 (by decide) ?_
            exact g_sub (ih_23 _ (by omega) (by omega) (by rw [nrK_s _ _ _ _ hi]; rintro (z | z); exact hno z; rcases Classical.em (M (26 + q) 0 = 4) with k4 | k4 <;> (first | rw [if_pos k4] at z | rw [if_neg k4] at z) <;> omega) (by omega)) ⟨rfl, rfl, rfl, rfl, trivial⟩
          · refine g_iload X dX8_isNear_55 rfl ?_
            refine g_iload_n X dX8_isNear_57 rfl rfl ?_
            refine g_icmp_gt (tgt := 63) X dX8_isNear_58 (by decide) ⟨by omega, by omega⟩ ⟨by omega, by omega⟩ (fun q58 => ?_) (fun q58 => ?_)
            · refine g_iinc_4 X dX8_isNear_63 rfl (fun v4_63 ev4_63 => ?_)
              subst v4_63
              refine g_goto (tgt := 23) X dX8_isNear_66 (by decide) ?_
              exact g_sub (ih_23 _ (by omega) (by omega) (by rw [nrK_s _ _ _ _ hi]; rintro (z | z); exact hno z; rcases Classical.em (M (26 + q) 0 = 4) with k4 | k4 <;> (first | rw [if_pos k4] at z | rw [if_neg k4] at z) <;> omega) (by omega)) ⟨rfl, rfl, rfl, rfl, trivial⟩
            · refine g_iconst X dX8_isNear_61 ?_
              rw [hQ]
              refine g_zret X hr hlk (by decide) dX8_isNear_62 ?_
              refine ⟨b2i_1 ⟨i, hi, by omega, by omega, ?_⟩, rfl⟩
              first | rw [if_pos (by omega)] | rw [if_neg (by omega)]
              omega
    exact g_sub (L_23 _ _ (by omega) (by omega) (nrK_0 _ _ _ _) (Nat.lt_succ_self _)) ⟨rfl, rfl, rfl, rfl, trivial⟩
  · refine g_iload_n X dX8_isNear_12 rfl rfl ?_
    refine g_iconst X dX8_isNear_13 ?_
    refine g_iadd X dX8_isNear_14 ?_
    refine g_goto (tgt := 19) X dX8_isNear_15 (by decide) ?_
    refine g_istore_n_3 X dX8_isNear_19 rfl rfl (fun v3_19 ev3_19 => ?_)
    subst v3_19
    refine g_iconst X dX8_isNear_20 ?_
    refine g_istore_4 X dX8_isNear_21 rfl (fun v4_21 ev4_21 => ?_)
    subst v4_21
    have L_23 : ∀ (n : Nat) (i : Int), (0 ≤ i) → (i ≤ M 114 26) → (¬ nrK M (M (26 + q) 0) (M (26 + q) 2) w i.toNat) → (6 - i).toNat < n → Gd pP lL eE (rmN 0 0) sS mI aA bB mM cC 0 0 Q tT dD al (fA al) 23 [some (.ref (al 24)), some (.int (iN q)), none, some (.int (iN (w + 5))), some (.int (iN i)), none] [] M := by
      intro n
      induction n with
      | zero => intro i hi hi2 hno hm; exact absurd hm (Nat.not_lt_zero _)
      | succ n ih =>
        intro i hi hi2 hno hm
        have ih_23 := ih
        clear ih
        refine g_iload X dX8_isNear_23 rfl ?_
        refine g_aload_n X dX8_isNear_25 rfl rfl ?_
        refine g_geti (kz := 6) X kd_24 fc7 (k := 6) (by decide) rfl wd_229 rfl dX8_isNear_26 ?_
        refine g_icmp_ge (tgt := 69) X dX8_isNear_29 (by decide) ⟨by omega, by omega⟩ ⟨by omega, by omega⟩ (fun q29 => ?_) (fun q29 => ?_)
        · refine g_iconst X dX8_isNear_69 ?_
          rw [hQ]
          refine g_zret X hr hlk (by decide) dX8_isNear_70 ?_
          obtain rfl : i = M 114 26 := by omega
          exact ⟨b2i_0 hno, rfl⟩
        · refine g_aload_n X dX8_isNear_32 rfl rfl ?_
          refine g_getr (r := 25) X kd_24 fc7 (k := 0) (by decide) rfl wd_216 rfl (by decide) dX8_isNear_33 ?_
          refine g_iload_n X dX8_isNear_36 rfl rfl ?_
          have b0_37_60 : 0 ≤ q := by omega
          have b1_37_60 : q < 16 := by omega
          refine g_aald X kd_25 (bz := 26) rfl b0_37_60 b1_37_60 dX8_isNear_37 ?_
          have kr_37_60 := kr_26 b0_37_60 b1_37_60
          refine g_iconst X dX8_isNear_38 ?_
          refine g_iald X kr_37_60 (by decide) (by decide) dX8_isNear_39 ?_
          refine g_aload_n X dX8_isNear_40 rfl rfl ?_
          refine g_getr (r := 59) X kd_24 fc7 (k := 2) (by decide) rfl wd_221 rfl (by decide) dX8_isNear_41 ?_
          refine g_iload X dX8_isNear_44 rfl ?_
          refine g_iald X kd_59 (by omega) (by omega) dX8_isNear_46 ?_
          have w4 := (he i hi (by omega)).2
          refine g_teq (b := M 126 i) (by exact (he i hi (by omega)).1) ?_
          refine g_isub X dX8_isNear_47 ?_
          refine g_istore_5 X dX8_isNear_48 rfl (fun v5_48 ev5_48 => ?_)
          subst v5_48
          refine g_iload X dX8_isNear_50 rfl ?_
          refine g_if_lt (tgt := 63) X dX8_isNear_52 (by decide) ⟨by omega, by omega⟩ (fun q52 => ?_) (fun q52 => ?_)
          · refine g_iinc_4 X dX8_isNear_63 rfl (fun v4_63 ev4_63 => ?_)
            subst v4_63
            refine g_goto (tgt := 23) X dX8_isNear_66 (by decide) ?_
            exact g_sub (ih_23 _ (by omega) (by omega) (by rw [nrK_s _ _ _ _ hi]; rintro (z | z); exact hno z; rcases Classical.em (M (26 + q) 0 = 4) with k4 | k4 <;> (first | rw [if_pos k4] at z | rw [if_neg k4] at z) <;> omega) (by omega)) ⟨rfl, rfl, rfl, rfl, trivial⟩
          · refine g_iload X dX8_isNear_55 rfl ?_
            refine g_iload_n X dX8_isNear_57 rfl rfl ?_
            refine g_icmp_gt (tgt := 63) X dX8_isNear_58 (by decide) ⟨by omega, by omega⟩ ⟨by omega, by omega⟩ (fun q58 => ?_) (fun q58 => ?_)
            · refine g_iinc_4 X dX8_isNear_63 rfl (fun v4_63 ev4_63 => ?_)
              subst v4_63
              refine g_goto (tgt := 23) X dX8_isNear_66 (by decide) ?_
              exact g_sub (ih_23 _ (by omega) (by omega) (by rw [nrK_s _ _ _ _ hi]; rintro (z | z); exact hno z; rcases Classical.em (M (26 + q) 0 = 4) with k4 | k4 <;> (first | rw [if_pos k4] at z | rw [if_neg k4] at z) <;> omega) (by omega)) ⟨rfl, rfl, rfl, rfl, trivial⟩
            · refine g_iconst X dX8_isNear_61 ?_
              rw [hQ]
              refine g_zret X hr hlk (by decide) dX8_isNear_62 ?_
              refine ⟨b2i_1 ⟨i, hi, by omega, by omega, ?_⟩, rfl⟩
              first | rw [if_pos (by omega)] | rw [if_neg (by omega)]
              omega
    exact g_sub (L_23 _ _ (by omega) (by omega) (nrK_0 _ _ _ _) (Nat.lt_succ_self _)) ⟨rfl, rfl, rfl, rfl, trivial⟩
