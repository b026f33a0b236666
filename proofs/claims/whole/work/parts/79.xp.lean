set_option maxRecDepth 100000 in
set_option maxHeartbeats 4000000 in
theorem c_X0_forgetLeast (lL : Launch) (tT : TT) (dD : va_G) (al : Int → Nat) (M : Mem)   : CV lL yX0_forgetLeast cX0_forgetLeast 1 0 0 tT dD al [.ref (al 100)] M (fun M' => M' = mu (mu M 100 5 1) 100 6 1) := by
  refine CV.of (own := "RedSkies$Dealing") (ls0 := [some (.ref (al 100))]) (by decide +kernel) rfl (Nat.le_of_ble_eq_true rfl) rfl ?_
  intro pP eE sS mI aA bB mM cC X hr hlk
  obtain ⟨Q, hQ⟩ : ∃ Q : State → Prop, Q = MQ bB (QV tT dD al (fun M' => M' = mu (mu M 100 5 1) 100 6 1)) aA sS 0 0 (fA al) := ⟨_, rfl⟩
  rw [← hQ]
  refine g_aload_n X dX0_forgetLeast_0 rfl rfl ?_
  refine g_lconst X (v := 1) dX0_forgetLeast_1 (by decide +kernel) ?_
  refine g_putl (kz := 5) X kd_100 fc0 (k := 5) (by decide) rfl wd_267 rfl rfl rfl dX0_forgetLeast_2 ?_
  refine g_aload_n X dX0_forgetLeast_5 rfl rfl ?_
  refine g_lconst X (v := 1) dX0_forgetLeast_6 (by decide +kernel) ?_
  refine g_putl (kz := 6) X kd_100 fc0 (k := 6) (by decide) rfl wd_269 rfl rfl rfl dX0_forgetLeast_7 ?_
  rw [hQ]
  refine g_vret X hr hlk dX0_forgetLeast_10 ?_
  rfl
set_option maxRecDepth 100000 in
set_option maxHeartbeats 4000000 in
theorem c_X0_keepLeast (lL : Launch) (tT : TT) (dD : va_G) (al : Int → Nat) (M : Mem)  (k1 : 0 ≤ M 100 3 ∧ M 100 3 ≤ 33619968) (k2 : 0 ≤ M 100 4 ∧ M 100 4 ≤ 33619968) (k3 : 0 ≤ M 100 5 ∧ M 100 5 ≤ 33619968) (k4 : 0 ≤ M 100 6 ∧ M 100 6 ≤ 33619968) : CV lL yX0_keepLeast cX0_keepLeast 1 0 0 tT dD al [.ref (al 100)] M (fun M' => M' = (if M 100 3 * M 100 6 < M 100 5 * M 100 4 then mu (mu M 100 5 (M 100 3)) 100 6 (M 100 4) else M)) := by
  refine CV.of (own := "RedSkies$Dealing") (ls0 := [some (.ref (al 100))]) (by decide +kernel) rfl (Nat.le_of_ble_eq_true rfl) rfl ?_
  intro pP eE sS mI aA bB mM cC X hr hlk
  obtain ⟨Q, hQ⟩ : ∃ Q : State → Prop, Q = MQ bB (QV tT dD al (fun M' => M' = (if M 100 3 * M 100 6 < M 100 5 * M 100 4 then mu (mu M 100 5 (M 100 3)) 100 6 (M 100 4) else M))) aA sS 0 0 (fA al) := ⟨_, rfl⟩
  rw [← hQ]
  have m1 := mulr k1 k4
  have m2 := mulr k3 k2
  refine g_aload_n X dX0_keepLeast_0 rfl rfl ?_
  refine g_getl (kz := 3) X kd_100 fc0 (k := 3) (by decide) rfl wd_263 rfl dX0_keepLeast_1 ?_
  refine g_aload_n X dX0_keepLeast_4 rfl rfl ?_
  refine g_getl (kz := 6) X kd_100 fc0 (k := 6) (by decide) rfl wd_269 rfl dX0_keepLeast_5 ?_
  refine g_lmul X dX0_keepLeast_8 ?_
  refine g_aload_n X dX0_keepLeast_9 rfl rfl ?_
  refine g_getl (kz := 5) X kd_100 fc0 (k := 5) (by decide) rfl wd_267 rfl dX0_keepLeast_10 ?_
  refine g_aload_n X dX0_keepLeast_13 rfl rfl ?_
  refine g_getl (kz := 4) X kd_100 fc0 (k := 4) (by decide) rfl wd_265 rfl dX0_keepLeast_14 ?_
  refine g_lmul X dX0_keepLeast_17 ?_
  refine g_lcmp_ge (tgt := 38) X dX0_keepLeast_18 dX0_keepLeast_19 (by decide) ⟨by omega, by omega⟩ ⟨by omega, by omega⟩ (fun q18 => ?_) (fun q18 => ?_)
  · rw [hQ]
    refine g_vret X hr hlk dX0_keepLeast_38 ?_
    first | rw [if_pos (by omega)]; done | (rw [if_pos (by omega)]; rfl) | rw [if_neg (by omega)]
  · refine g_aload_n X dX0_keepLeast_22 rfl rfl ?_
    refine g_aload_n X dX0_keepLeast_23 rfl rfl ?_
    refine g_getl (kz := 3) X kd_100 fc0 (k := 3) (by decide) rfl wd_263 rfl dX0_keepLeast_24 ?_
    refine g_putl (kz := 5) X kd_100 fc0 (k := 5) (by decide) rfl wd_267 rfl rfl rfl dX0_keepLeast_27 ?_
    refine g_aload_n X dX0_keepLeast_30 rfl rfl ?_
    refine g_aload_n X dX0_keepLeast_31 rfl rfl ?_
    refine g_getl (kz := 4) X kd_100 fc0 (k := 4) (by decide) rfl wd_265 rfl dX0_keepLeast_32 ?_
    refine g_teql (b := (M 100 4)) (by first | (simp [mu]; done) | (simp only [mu]; repeat (first | rw [if_pos (⟨rfl, rfl⟩)] | rw [if_neg (by omega)]))) ?_
    refine g_putl (kz := 6) X kd_100 fc0 (k := 6) (by decide) rfl wd_269 rfl rfl rfl dX0_keepLeast_35 ?_
    rw [hQ]
    refine g_vret X hr hlk dX0_keepLeast_38 ?_
    first | rw [if_pos (by omega)]; done | (rw [if_pos (by omega)]; rfl) | rw [if_neg (by omega)]
set_option maxRecDepth 100000 in
set_option maxHeartbeats 4000000 in
theorem c_X0_heaviest (lL : Launch) (tT : TT) (dD : va_G) (al : Int → Nat) (M : Mem) (cb nb : Int) (hD : DK M cb nb) : CI lL yX0_heaviest cX0_heaviest 10 FieldType.int 4 95 tT dD al [.ref (al 100), .int (iN cb), .int (iN nb)] M (fun r M' => r = (hgT M cb nb 16).1 ∧ OF M M') := by
  refine CI.of (own := "RedSkies$Dealing") (ls0 := [some (.ref (al 100)), some (.int (iN cb)), some (.int (iN nb)), none, none, none, none, none, none, none]) (by decide +kernel) rfl (Nat.le_of_ble_eq_true rfl) rfl ?_
  intro pP eE sS mI aA bB mM cC X hr hlk
  obtain ⟨Q, hQ⟩ : ∃ Q : State → Prop, Q = MQ bB (QI tT dD al (fun r M' => r = (hgT M cb nb 16).1 ∧ OF M M')) aA sS 0 0 (fA al) := ⟨_, rfl⟩
  rw [← hQ]
  obtain ⟨d1, d2, d3, d4⟩ := id hD
  refine g_iconst X dX0_heaviest_0 ?_
  refine g_istore_n_3 X dX0_heaviest_1 rfl rfl (fun v3_1 ev3_1 => ?_)
  subst v3_1
  refine g_lconst X (v := 0) dX0_heaviest_2 (by decide +kernel) ?_
  refine g_lstore_4 X dX0_heaviest_3 rfl (fun v4_3 ev4_3 => ?_)
  subst v4_3
  refine g_lconst X (v := 1) dX0_heaviest_5 (by decide +kernel) ?_
  refine g_lstore_6 X dX0_heaviest_6 trivial (fun v6_6 ev6_6 => ?_)
  subst v6_6
  refine g_iconst X dX0_heaviest_8 ?_
  refine g_istore_8 X dX0_heaviest_9 trivial (fun v8_9 ev8_9 => ?_)
  subst v8_9
  have L_11 : ∀ (n : Nat) (best : Int) (a : Int) (b : Int) (q : Int) (M1 : Mem), (0 ≤ q) → (q ≤ 16) → (-1 ≤ best ∧ best ≤ 15) → (0 ≤ a ∧ a ≤ 33619968) → (0 ≤ b ∧ b ≤ 33619968) → (hgT M cb nb q.toNat = (best, a, b)) → (OF M M1) → (16 - q).toNat < n → Gd pP lL eE (rmN 4 95) sS mI aA bB mM cC 0 0 Q tT dD al (fA al) 11 [some (.ref (al 100)), some (.int (iN cb)), some (.int (iN nb)), some (.int (iN best)), some (.long (jN a)), none, some (.long (jN b)), none, some (.int (iN q)), none] [] M1 := by
    intro n
    induction n with
    | zero => intro best a b q M1 hq hq2 hbest ha hb hh hO hm; exact absurd hm (Nat.not_lt_zero _)
    | succ n ih =>
      intro best a b q M1 hq hq2 hbest ha hb hh hO hm
      have h101 : M1 101 = M 101 := hO.row (by omega)
      have h102 : M1 102 = M 102 := hO.row (by omega)
      have hD1 := hD.cg h101 h102
      have ih_11 := ih
      clear ih
      refine g_iload X dX0_heaviest_11 rfl ?_
      refine g_bipush X dX0_heaviest_13 (by decide +kernel) ?_
      refine g_icmp_ge (tgt := 86) X dX0_heaviest_15 (by decide) ⟨by omega, by omega⟩ (by decide) (fun q15 => ?_) (fun q15 => ?_)
      · refine g_iload_n X dX0_heaviest_86 rfl rfl ?_
        rw [hQ]
        refine g_iret X hr hlk dX0_heaviest_87 ?_
        obtain rfl : q = 16 := by omega
        have hh2 : hgT M cb nb 16 = (best, a, b) := hh
        exact ⟨by rw [hh2], hO⟩
      · refine g_iload_n X dX0_heaviest_18 rfl rfl ?_
        refine g_iload X dX0_heaviest_19 rfl ?_
        refine g_callSI X (c_X0_holds lL tT dD al _ _ _ d1 ⟨hq, by omega⟩) lk_RX0_23 rfl rfl ⟨by decide, by decide⟩ rfl (Nat.le_of_ble_eq_true rfl) dX0_heaviest_21 (fun r21 M21 hc21 => ?_)
        obtain ⟨hr21, hm21⟩ := hc21
        subst r21
        subst M21
        refine g_if_eq (tgt := 80) X dX0_heaviest_24 (by decide) (b2i_i32 _) (fun q24 => ?_) (fun q24 => ?_)
        · have q24 := b2i_f q24
          refine g_iinc_8 X dX0_heaviest_80 trivial (fun v8_80 ev8_80 => ?_)
          subst v8_80
          refine g_goto (tgt := 11) X dX0_heaviest_83 (by decide) ?_
          exact g_sub (ih_11 _ _ _ _ _ (by omega) (by omega) (by omega) (by first | exact ha | exact ⟨by omega, by omega⟩) (by first | exact hb | exact ⟨by omega, by omega⟩) (by rw [hgT_s M cb nb hq, hh]; show (if bit cb q = 1 ∧ a * lowT M (and32 cb (nbS q)) (and32 nb (nbS q)) < upT M (and32 cb (nbS q)) (and32 nb (nbS q)) * b then (q, upT M (and32 cb (nbS q)) (and32 nb (nbS q)), lowT M (and32 cb (nbS q)) (and32 nb (nbS q))) else (best, a, b)) = _; first | rw [if_pos (by omega)] | rw [if_neg (by omega)]) (by first | exact hO | exact hO.tr hc44.1) (by omega)) ⟨rfl, rfl, rfl, rfl, rfl, rfl, rfl, trivial⟩
        · have q24 := b2i_t q24
          refine g_iconst X dX0_heaviest_27 ?_
          refine g_iload X dX0_heaviest_28 rfl ?_
          refine g_ishl X dX0_heaviest_30 ?_
          refine g_iconst X dX0_heaviest_31 ?_
          refine g_ixor X dX0_heaviest_32 ?_
          refine g_teq (b := nbS q) (by rfl) ?_
          refine g_istore_9 X dX0_heaviest_33 rfl (fun v9_33 ev9_33 => ?_)
          subst v9_33
          refine g_aload_n X dX0_heaviest_35 rfl rfl ?_
          refine g_iload_n X dX0_heaviest_36 rfl rfl ?_
          refine g_iload X dX0_heaviest_37 rfl ?_
          refine g_iand X dX0_heaviest_39 ?_
          refine g_iload_n X dX0_heaviest_40 rfl rfl ?_
          refine g_iload X dX0_heaviest_41 rfl ?_
          refine g_iand X dX0_heaviest_43 ?_
          refine g_callVV X (c_X0_deal lL tT dD al _ _ _ (hD1.but hq (by omega))) kd_100 fc0 lk_RX0_67 rfl rfl ⟨by decide, by decide⟩ rfl (Nat.le_of_ble_eq_true rfl) dX0_heaviest_44 (fun M44 hc44 => ?_)
          have ur := up_le M (and32 cb (nbS q)) (and32 nb (nbS q))
          have mu1 := mulr (x := upT M (and32 cb (nbS q)) (and32 nb (nbS q))) (y := b) (by omega) hb
          have mu2 := mulr (x := a) (y := lowT M (and32 cb (nbS q)) (and32 nb (nbS q))) ha (by omega)
          refine g_aload_n X dX0_heaviest_47 rfl rfl ?_
          refine g_getl (kz := 3) X kd_100 fc0 (k := 3) (by decide) rfl wd_263 rfl dX0_heaviest_48 ?_
          refine g_teql (b := upT M (and32 cb (nbS q)) (and32 nb (nbS q))) (by exact hc44.2.2.1.trans (UT_cg h101 h102 _ _)) ?_
          refine g_lload X dX0_heaviest_51 rfl ?_
          refine g_lmul X dX0_heaviest_53 ?_
          refine g_lload X dX0_heaviest_54 rfl ?_
          refine g_aload_n X dX0_heaviest_56 rfl rfl ?_
          refine g_getl (kz := 4) X kd_100 fc0 (k := 4) (by decide) rfl wd_265 rfl dX0_heaviest_57 ?_
          refine g_teql (b := lowT M (and32 cb (nbS q)) (and32 nb (nbS q))) (by exact hc44.2.2.2.trans (LT_cg h101 h102 _ _)) ?_
          refine g_lmul X dX0_heaviest_60 ?_
          refine g_lcmp_le (tgt := 80) X dX0_heaviest_61 dX0_heaviest_62 (by decide) ⟨by omega, by omega⟩ ⟨by omega, by omega⟩ (fun q61 => ?_) (fun q61 => ?_)
          · refine g_iinc_8 X dX0_heaviest_80 trivial (fun v8_80 ev8_80 => ?_)
            subst v8_80
            refine g_goto (tgt := 11) X dX0_heaviest_83 (by decide) ?_
            exact g_sub (ih_11 _ _ _ _ _ (by omega) (by omega) (by omega) (by first | exact ha | exact ⟨by omega, by omega⟩) (by first | exact hb | exact ⟨by omega, by omega⟩) (by rw [hgT_s M cb nb hq, hh]; show (if bit cb q = 1 ∧ a * lowT M (and32 cb (nbS q)) (and32 nb (nbS q)) < upT M (and32 cb (nbS q)) (and32 nb (nbS q)) * b then (q, upT M (and32 cb (nbS q)) (and32 nb (nbS q)), lowT M (and32 cb (nbS q)) (and32 nb (nbS q))) else (best, a, b)) = _; first | rw [if_pos (by omega)] | rw [if_neg (by omega)]) (by first | exact hO | exact hO.tr hc44.1) (by omega)) ⟨rfl, rfl, rfl, rfl, rfl, rfl, rfl, trivial⟩
          · refine g_iload X dX0_heaviest_65 rfl ?_
            refine g_istore_n_3 X dX0_heaviest_67 rfl rfl (fun v3_67 ev3_67 => ?_)
            subst v3_67
            refine g_aload_n X dX0_heaviest_68 rfl rfl ?_
            refine g_getl (kz := 3) X kd_100 fc0 (k := 3) (by decide) rfl wd_263 rfl dX0_heaviest_69 ?_
            refine g_teql (b := upT M (and32 cb (nbS q)) (and32 nb (nbS q))) (by exact hc44.2.2.1.trans (UT_cg h101 h102 _ _)) ?_
            refine g_lstore_4 X dX0_heaviest_72 rfl (fun v4_72 ev4_72 => ?_)
            subst v4_72
            refine g_aload_n X dX0_heaviest_74 rfl rfl ?_
            refine g_getl (kz := 4) X kd_100 fc0 (k := 4) (by decide) rfl wd_265 rfl dX0_heaviest_75 ?_
            refine g_teql (b := lowT M (and32 cb (nbS q)) (and32 nb (nbS q))) (by exact hc44.2.2.2.trans (LT_cg h101 h102 _ _)) ?_
            refine g_lstore_6 X dX0_heaviest_78 trivial (fun v6_78 ev6_78 => ?_)
            subst v6_78
            refine g_iinc_8 X dX0_heaviest_80 trivial (fun v8_80 ev8_80 => ?_)
            subst v8_80
            refine g_goto (tgt := 11) X dX0_heaviest_83 (by decide) ?_
            exact g_sub (ih_11 _ _ _ _ _ (by omega) (by omega) (by omega) (by first | exact ha | exact ⟨by omega, by omega⟩) (by first | exact hb | exact ⟨by omega, by omega⟩) (by rw [hgT_s M cb nb hq, hh]; show (if bit cb q = 1 ∧ a * lowT M (and32 cb (nbS q)) (and32 nb (nbS q)) < upT M (and32 cb (nbS q)) (and32 nb (nbS q)) * b then (q, upT M (and32 cb (nbS q)) (and32 nb (nbS q)), lowT M (and32 cb (nbS q)) (and32 nb (nbS q))) else (best, a, b)) = _; first | rw [if_pos (by omega)] | rw [if_neg (by omega)]) (by first | exact hO | exact hO.tr hc44.1) (by omega)) ⟨rfl, rfl, rfl, rfl, rfl, rfl, rfl, trivial⟩
  exact g_sub (L_11 _ _ _ _ _ _ (by omega) (by omega) (by omega) (by omega) (by omega) (by rfl) (OF.rf M) (Nat.lt_succ_self _)) ⟨rfl, rfl, rfl, rfl, rfl, rfl, rfl, trivial⟩
set_option maxRecDepth 100000 in
set_option maxHeartbeats 4000000 in
theorem c_X0_aboveWith (lL : Launch) (tT : TT) (dD : va_G) (al : Int → Nat) (M : Mem) (q v cb nb : Int) (hD : DK M cb nb) (h0 : 0 ≤ q ∧ q < 16) (hv : -1 ≤ v ∧ v ≤ 1000000) : CJ lL yX0_aboveWith cX0_aboveWith 6 4 95 tT dD al [.ref (al 100), .int (iN q), .int (iN v), .int (iN cb), .int (iN nb)] M (fun r M' => r = upT (mu M 102 q v) cb nb ∧ OF M M') := by
  refine CJ.of (own := "RedSkies$Dealing") (ls0 := [some (.ref (al 100)), some (.int (iN q)), some (.int (iN v)), some (.int (iN cb)), some (.int (iN nb)), none]) (by decide +kernel) rfl (Nat.le_of_ble_eq_true rfl) rfl ?_
  intro pP eE sS mI aA bB mM cC X hr hlk
  obtain ⟨Q, hQ⟩ : ∃ Q : State → Prop, Q = MQ bB (QJ tT dD al (fun r M' => r = upT (mu M 102 q v) cb nb ∧ OF M M')) aA sS 0 0 (fA al) := ⟨_, rfl⟩
  rw [← hQ]
  refine g_aload_n X dX0_aboveWith_0 rfl rfl ?_
  refine g_getr (r := 102) X kd_100 fc0 (k := 1) (by decide) rfl wd_259 rfl (by decide) dX0_aboveWith_1 ?_
  refine g_iload_n X dX0_aboveWith_4 rfl rfl ?_
  refine g_iald X kd_102 (by omega) (by omega) dX0_aboveWith_5 ?_
  refine g_istore_5 X dX0_aboveWith_6 rfl (fun v5_6 ev5_6 => ?_)
  subst v5_6
  refine g_aload_n X dX0_aboveWith_8 rfl rfl ?_
  refine g_getr (r := 102) X kd_100 fc0 (k := 1) (by decide) rfl wd_259 rfl (by decide) dX0_aboveWith_9 ?_
  refine g_iload_n X dX0_aboveWith_12 rfl rfl ?_
  refine g_iload_n X dX0_aboveWith_13 rfl rfl ?_
  refine g_iast X kd_102 (by omega) (by omega) dX0_aboveWith_14 ?_
  refine g_aload_n X dX0_aboveWith_15 rfl rfl ?_
  refine g_iload_n X dX0_aboveWith_16 rfl rfl ?_
  refine g_iload X dX0_aboveWith_17 rfl ?_
  refine g_callVV X (c_X0_deal lL tT dD al _ _ _ (hD.put q hv)) kd_100 fc0 lk_RX0_67 rfl rfl ⟨by decide, by decide⟩ rfl (Nat.le_of_ble_eq_true rfl) dX0_aboveWith_19 (fun M19 hc19 => ?_)
  refine g_aload_n X dX0_aboveWith_22 rfl rfl ?_
  refine g_getr (r := 102) X kd_100 fc0 (k := 1) (by decide) rfl wd_259 rfl (by decide) dX0_aboveWith_23 ?_
  refine g_iload_n X dX0_aboveWith_26 rfl rfl ?_
  refine g_iload X dX0_aboveWith_27 rfl ?_
  refine g_iast X kd_102 (by omega) (by omega) dX0_aboveWith_29 ?_
  refine g_aload_n X dX0_aboveWith_30 rfl rfl ?_
  refine g_getl (kz := 3) X kd_100 fc0 (k := 3) (by decide) rfl wd_263 rfl dX0_aboveWith_31 ?_
  refine g_teql (b := (M19 100 3)) (by first | (simp [mu]; done) | (simp only [mu]; repeat (first | rw [if_pos (⟨rfl, rfl⟩)] | rw [if_neg (by omega)]))) ?_
  refine g_teql (b := upT (mu M 102 q v) cb nb) (by exact hc19.2.2.1) ?_
  rw [hQ]
  refine g_lret X hr hlk dX0_aboveWith_34 ?_
  exact ⟨rfl, put_back hc19.1⟩
set_option maxRecDepth 100000 in
set_option maxHeartbeats 4000000 in
theorem c_X0_mostOpen (lL : Launch) (tT : TT) (dD : va_G) (al : Int → Nat) (M : Mem) (cb nb : Int) (hD : DK M cb nb) : CI lL yX0_mostOpen cX0_mostOpen 9 FieldType.int 5 120 tT dD al [.ref (al 100), .int (iN cb), .int (iN nb)] M (fun r M' => r = (nvT M cb nb 16).1 ∧ OF M M') := by
  refine CI.of (own := "RedSkies$Dealing") (ls0 := [some (.ref (al 100)), some (.int (iN cb)), some (.int (iN nb)), none, none, none, none, none, none]) (by decide +kernel) rfl (Nat.le_of_ble_eq_true rfl) rfl ?_
  intro pP eE sS mI aA bB mM cC X hr hlk
  obtain ⟨Q, hQ⟩ : ∃ Q : State → Prop, Q = MQ bB (QI tT dD al (fun r M' => r = (nvT M cb nb 16).1 ∧ OF M M')) aA sS 0 0 (fA al) := ⟨_, rfl⟩
  rw [← hQ]
  obtain ⟨d1, d2, d3, d4⟩ := id hD
  refine g_iconst X dX0_mostOpen_0 ?_
  refine g_istore_n_3 X dX0_mostOpen_1 rfl rfl (fun v3_1 ev3_1 => ?_)
  subst v3_1
  refine g_ldc2 X (n := (-1)) wd_714 (by decide +kernel) dX0_mostOpen_2 ?_
  refine g_lstore_4 X dX0_mostOpen_5 rfl (fun v4_5 ev4_5 => ?_)
  subst v4_5
  refine g_iconst X dX0_mostOpen_7 ?_
  refine g_istore_6 X dX0_mostOpen_8 trivial (fun v6_8 ev6_8 => ?_)
  subst v6_8
  have L_10 : ∀ (n : Nat) (best : Int) (a : Int) (q : Int) (M1 : Mem), (0 ≤ q) → (q ≤ 16) → (-1 ≤ best ∧ best ≤ 15) → (-1 ≤ a ∧ a ≤ 33619968) → (nvT M cb nb q.toNat = (best, a)) → (OF M M1) → (16 - q).toNat < n → Gd pP lL eE (rmN 5 120) sS mI aA bB mM cC 0 0 Q tT dD al (fA al) 10 [some (.ref (al 100)), some (.int (iN cb)), some (.int (iN nb)), some (.int (iN best)), some (.long (jN a)), none, some (.int (iN q)), none, none] [] M1 := by
    intro n
    induction n with
    | zero => intro best a q M1 hq hq2 hbest ha hh hO hm; exact absurd hm (Nat.not_lt_zero _)
    | succ n ih =>
      intro best a q M1 hq hq2 hbest ha hh hO hm
      have h101 : M1 101 = M 101 := hO.row (by omega)
      have h102 : M1 102 = M 102 := hO.row (by omega)
      have hD1 := hD.cg h101 h102
      have ih_10 := ih
      clear ih
      refine g_iload X dX0_mostOpen_10 rfl ?_
      refine g_bipush X dX0_mostOpen_12 (by decide +kernel) ?_
      refine g_icmp_ge (tgt := 72) X dX0_mostOpen_14 (by decide) ⟨by omega, by omega⟩ (by decide) (fun q14 => ?_) (fun q14 => ?_)
      · refine g_iload_n X dX0_mostOpen_72 rfl rfl ?_
        rw [hQ]
        refine g_iret X hr hlk dX0_mostOpen_73 ?_
        obtain rfl : q = 16 := by omega
        have hh2 : nvT M cb nb 16 = (best, a) := hh
        exact ⟨by rw [hh2], hO⟩
      · refine g_iload_n X dX0_mostOpen_17 rfl rfl ?_
        refine g_iload X dX0_mostOpen_18 rfl ?_
        refine g_callSI X (c_X0_holds lL tT dD al _ _ _ d1 ⟨hq, by omega⟩) lk_RX0_23 rfl rfl ⟨by decide, by decide⟩ rfl (Nat.le_of_ble_eq_true rfl) dX0_mostOpen_20 (fun r20 M20 hc20 => ?_)
        obtain ⟨hr20, hm20⟩ := hc20
        subst r20
        subst M20
        refine g_if_eq (tgt := 66) X dX0_mostOpen_23 (by decide) (b2i_i32 _) (fun q23 => ?_) (fun q23 => ?_)
        · have q23 := b2i_f q23
          refine g_iinc_6 X dX0_mostOpen_66 trivial (fun v6_66 ev6_66 => ?_)
          subst v6_66
          refine g_goto (tgt := 10) X dX0_mostOpen_69 (by decide) ?_
          exact g_sub (ih_10 _ _ _ _ (by omega) (by omega) (by omega) (by omega) (by rw [nvT_s M cb nb hq, hh]; show (if bit cb q = 1 ∧ a < nvW M cb nb q then (q, nvW M cb nb q) else (best, a)) = _; first | rw [if_pos (by omega)] | rw [if_neg (by omega)]) (by first | exact hO | exact (hO.tr hc32).tr hc42) (by omega)) ⟨rfl, rfl, rfl, rfl, rfl, rfl, trivial⟩
        · have q23 := b2i_t q23
          refine g_aload_n X dX0_mostOpen_26 rfl rfl ?_
          refine g_iload X dX0_mostOpen_27 rfl ?_
          refine g_iconst X dX0_mostOpen_29 ?_
          refine g_iload_n X dX0_mostOpen_30 rfl rfl ?_
          refine g_iload_n X dX0_mostOpen_31 rfl rfl ?_
          refine g_callVJ X (c_X0_aboveWith lL tT dD al _ _ _ _ _ hD1 ⟨hq, by omega⟩ (by decide)) kd_100 fc0 lk_RX0_72 rfl rfl ⟨by decide, by decide⟩ rfl (Nat.le_of_ble_eq_true rfl) dX0_mostOpen_32 (fun r32 M32 hc32 => ?_)
          obtain ⟨hr32, hc32⟩ := hc32
          subst r32
          refine g_teql (b := upT (mu M 102 q (-1)) cb nb) (by exact upT_of hO cb nb q (-1)) ?_
          refine g_aload_n X dX0_mostOpen_35 rfl rfl ?_
          refine g_iload X dX0_mostOpen_36 rfl ?_
          refine g_ldc X (n := 1000000) wd_719 (by decide +kernel) dX0_mostOpen_38 ?_
          refine g_iload_n X dX0_mostOpen_40 rfl rfl ?_
          refine g_iload_n X dX0_mostOpen_41 rfl rfl ?_
          refine g_callVJ X (c_X0_aboveWith lL tT dD al _ _ _ _ _ (hD1.cg (hc32.row (by omega)) (hc32.row (by omega))) ⟨hq, by omega⟩ (by decide)) kd_100 fc0 lk_RX0_72 rfl rfl ⟨by decide, by decide⟩ rfl (Nat.le_of_ble_eq_true rfl) dX0_mostOpen_42 (fun r42 M42 hc42 => ?_)
          obtain ⟨hr42, hc42⟩ := hc42
          subst r42
          have ur1 := up_le (mu M 102 q (-1)) cb nb
          have ur2 := up_le (mu M 102 q 1000000) cb nb
          have hw : 0 ≤ nvW M cb nb q ∧ nvW M cb nb q ≤ 33619968 := by unfold nvW dif; split <;> omega
          refine g_teql (b := upT (mu M 102 q 1000000) cb nb) (by exact upT_of (hO.tr hc32) cb nb q 1000000) ?_
          refine g_lsub X dX0_mostOpen_45 ?_
          refine g_mabsl X wd_720 wd_721 wd_80 wd_722 ⟨by omega, by omega⟩ rfl ⟨by decide, by decide⟩ (Nat.le_of_ble_eq_true rfl) dX0_mostOpen_46 ?_
          refine g_teql (b := nvW M cb nb q) (by unfold nvW dif; (repeat' split) <;> omega) ?_
          refine g_lstore_7 X dX0_mostOpen_49 rfl (fun v7_49 ev7_49 => ?_)
          subst v7_49
          refine g_lload X dX0_mostOpen_51 rfl ?_
          refine g_lload X dX0_mostOpen_53 rfl ?_
          refine g_lcmp_le (tgt := 66) X dX0_mostOpen_55 dX0_mostOpen_56 (by decide) ⟨by omega, by omega⟩ ⟨by omega, by omega⟩ (fun q55 => ?_) (fun q55 => ?_)
          · refine g_iinc_6 X dX0_mostOpen_66 trivial (fun v6_66 ev6_66 => ?_)
            subst v6_66
            refine g_goto (tgt := 10) X dX0_mostOpen_69 (by decide) ?_
            exact g_sub (ih_10 _ _ _ _ (by omega) (by omega) (by omega) (by omega) (by rw [nvT_s M cb nb hq, hh]; show (if bit cb q = 1 ∧ a < nvW M cb nb q then (q, nvW M cb nb q) else (best, a)) = _; first | rw [if_pos (by omega)] | rw [if_neg (by omega)]) (by first | exact hO | exact (hO.tr hc32).tr hc42) (by omega)) ⟨rfl, rfl, rfl, rfl, rfl, rfl, trivial⟩
          · refine g_iload X dX0_mostOpen_59 rfl ?_
            refine g_istore_n_3 X dX0_mostOpen_61 rfl rfl (fun v3_61 ev3_61 => ?_)
            subst v3_61
            refine g_lload X dX0_mostOpen_62 rfl ?_
            refine g_lstore_4 X dX0_mostOpen_64 rfl (fun v4_64 ev4_64 => ?_)
            subst v4_64
            refine g_iinc_6 X dX0_mostOpen_66 trivial (fun v6_66 ev6_66 => ?_)
            subst v6_66
            refine g_goto (tgt := 10) X dX0_mostOpen_69 (by decide) ?_
            exact g_sub (ih_10 _ _ _ _ (by omega) (by omega) (by omega) (by omega) (by rw [nvT_s M cb nb hq, hh]; show (if bit cb q = 1 ∧ a < nvW M cb nb q then (q, nvW M cb nb q) else (best, a)) = _; first | rw [if_pos (by omega)] | rw [if_neg (by omega)]) (by first | exact hO | exact (hO.tr hc32).tr hc42) (by omega)) ⟨rfl, rfl, rfl, rfl, rfl, rfl, trivial⟩
  exact g_sub (L_10 _ _ _ _ _ (by omega) (by omega) (by omega) (by omega) (by rfl) (OF.rf M) (Nat.lt_succ_self _)) ⟨rfl, rfl, rfl, rfl, rfl, rfl, trivial⟩
