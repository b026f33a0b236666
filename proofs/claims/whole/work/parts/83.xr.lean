set_option maxRecDepth 100000 in
set_option maxHeartbeats 4000000 in
theorem c_X9_withPictures (lL : Launch) (tT : TT) (dD : va_G) (al : Int → Nat) (M : Mem) (h0 : Int) (hV : IV M) : CJ lL yX9_withPictures cX9_withPictures 7 3 75 tT dD al [.ref (al 0), .long (jN h0)] M (fun r M' => r = itH (spH M) h0 (M 114 23).toNat ∧ M' = M) := by
  refine CJ.of (own := "RedSkies") (ls0 := [some (.ref (al 0)), some (.long (jN h0)), none, none, none, none, none]) (by decide +kernel) rfl (Nat.le_of_ble_eq_true rfl) rfl ?_
  intro pP eE sS mI aA bB mM cC X hr hlk
  obtain ⟨Q, hQ⟩ : ∃ Q : State → Prop, Q = MQ bB (QJ tT dD al (fun r M' => r = itH (spH M) h0 (M 114 23).toNat ∧ M' = M)) aA sS 0 0 (fA al) := ⟨_, rfl⟩
  rw [← hQ]
  have hW := hV.w
  have w2 := hW.n
  have n1 := hV.hn
  have w3 := hW.mea
  have w4 := hW.pig
  have w5 := hW.lam
  have w6 := hW.law
  have k1 := hV.la
  have k2 := hV.pi
  have k3 := hV.me
  have k4 := hV.lw
  refine g_lload_n X dX9_withPictures_0 rfl rfl ?_
  refine g_lstore_n_3 X dX9_withPictures_1 rfl trivial (fun v3_1 ev3_1 => ?_)
  subst v3_1
  refine g_iconst X dX9_withPictures_2 ?_
  refine g_istore_5 X dX9_withPictures_3 trivial (fun v5_3 ev5_3 => ?_)
  subst v5_3
  have L_5 : ∀ (n : Nat) (h : Int) (p : Int), (0 ≤ p) → (p ≤ M 114 23) → (h = (itH (spH M) h0 p.toNat)) → (16 - p).toNat < n → Gd pP lL eE (rmN 3 75) sS mI aA bB mM cC 0 0 Q tT dD al (fA al) 5 [some (.ref (al 0)), none, none, some (.long (jN h)), none, some (.int (iN p)), none] [] M := by
    intro n
    induction n with
    | zero => intro h p hp hp2 hh hm; exact absurd hm (Nat.not_lt_zero _)
    | succ n ih =>
      intro h p hp hp2 hh hm
      have ih_5 := ih
      clear ih
      refine g_iload X dX9_withPictures_5 rfl ?_
      refine g_aload_n X dX9_withPictures_7 rfl rfl ?_
      refine g_getr (r := 24) X kd_0 fc8 (k := 9) (by decide) rfl wd_312 rfl (by decide) dX9_withPictures_8 ?_
      refine g_geti (kz := 5) X kd_24 fc7 (k := 5) (by decide) rfl wd_228 rfl dX9_withPictures_11 ?_
      refine g_icmp_ge (tgt := 133) X dX9_withPictures_14 (by decide) ⟨by omega, by omega⟩ ⟨by omega, by omega⟩ (fun q14 => ?_) (fun q14 => ?_)
      · refine g_lload_n X dX9_withPictures_133 rfl rfl ?_
        rw [hQ]
        refine g_lret X hr hlk dX9_withPictures_134 ?_
        obtain rfl : p = M 114 23 := by omega
        exact ⟨hh, rfl⟩
      · refine g_iconst X dX9_withPictures_17 ?_
        refine g_istore_6 X dX9_withPictures_18 rfl (fun v6_18 ev6_18 => ?_)
        subst v6_18
        have L_20 : ∀ (n : Nat) (h2 : Int) (i : Int), (0 ≤ i) → (i ≤ 6) → (h2 = hf (itH (spH M) h0 p.toNat) (fun i => M 124 (6 * p + i)) i.toNat) → (6 - i).toNat < n → Gd pP lL eE (rmN 3 75) sS mI aA bB mM cC 0 0 Q tT dD al (fA al) 20 [some (.ref (al 0)), none, none, some (.long (jN h2)), none, some (.int (iN p)), some (.int (iN i))] [] M := by
          intro n
          induction n with
          | zero => intro h2 i hi hi2 hj2 hm; exact absurd hm (Nat.not_lt_zero _)
          | succ n ih =>
            intro h2 i hi hi2 hj2 hm
            have ih_20 := ih
            clear ih
            refine g_iload X dX9_withPictures_20 rfl ?_
            refine g_bipush X dX9_withPictures_22 (by decide +kernel) ?_
            refine g_icmp_ge (tgt := 52) X dX9_withPictures_24 (by decide) ⟨by omega, by omega⟩ (by decide) (fun q24 => ?_) (fun q24 => ?_)
            · refine g_iconst X dX9_withPictures_52 ?_
              refine g_istore_6 X dX9_withPictures_53 rfl (fun v6_53 ev6_53 => ?_)
              subst v6_53
              have L_55 : ∀ (n : Nat) (h3 : Int) (i : Int), (0 ≤ i) → (i ≤ 12) → (h3 = hf (spA M p (itH (spH M) h0 p.toNat)) (fun c => rgt M p c) i.toNat) → (12 - i).toNat < n → Gd pP lL eE (rmN 3 75) sS mI aA bB mM cC 0 0 Q tT dD al (fA al) 55 [some (.ref (al 0)), none, none, some (.long (jN h3)), none, some (.int (iN p)), some (.int (iN i))] [] M := by
                intro n
                induction n with
                | zero => intro h3 i hi hi2 hj3 hm; exact absurd hm (Nat.not_lt_zero _)
                | succ n ih =>
                  intro h3 i hi hi2 hj3 hm
                  have ih_55 := ih
                  clear ih
                  refine g_iload X dX9_withPictures_55 rfl ?_
                  refine g_bipush X dX9_withPictures_57 (by decide +kernel) ?_
                  refine g_icmp_ge (tgt := 82) X dX9_withPictures_59 (by decide) ⟨by omega, by omega⟩ (by decide) (fun q59 => ?_) (fun q59 => ?_)
                  · refine g_lload_n X dX9_withPictures_82 rfl rfl ?_
                    refine g_aload_n X dX9_withPictures_83 rfl rfl ?_
                    refine g_iload X dX9_withPictures_84 rfl ?_
                    refine g_iconst X dX9_withPictures_86 ?_
                    refine g_callVI X (c_X9_nearness lL tT dD al _ _ _ hV hp (by omega) ⟨by decide, by decide⟩) kd_0 fc8 lk_RX9_172 rfl rfl ⟨by decide, by decide⟩ rfl (Nat.le_of_ble_eq_true rfl) dX9_withPictures_87 (fun r87 M87 hc87 => ?_)
                    obtain ⟨hr87, hm87⟩ := hc87
                    subst r87
                    subst M87
                    have hno := nrO_rng M p 2
                    refine g_i2l X dX9_withPictures_90 ⟨by omega, by omega⟩ ?_
                    refine g_callSJ X (c_X9_mixed lL tT dD al _ _ _ ) lk_RX9_297 rfl rfl ⟨by decide, by decide⟩ rfl (Nat.le_of_ble_eq_true rfl) dX9_withPictures_91 (fun r91 M91 hc91 => ?_)
                    obtain ⟨hr91, hm91⟩ := hc91
                    subst r91
                    subst M91
                    refine g_lstore_n_3 X dX9_withPictures_94 rfl trivial (fun v3_94 ev3_94 => ?_)
                    subst v3_94
                    refine g_iconst X dX9_withPictures_95 ?_
                    refine g_istore_6 X dX9_withPictures_96 rfl (fun v6_96 ev6_96 => ?_)
                    subst v6_96
                    have L_98 : ∀ (n : Nat) (h4 : Int) (i : Int), (0 ≤ i) → (i ≤ M 114 15) → (h4 = hf (spB M p (itH (spH M) h0 p.toNat)) (fun m => vlu M m p) i.toNat) → (4 - i).toNat < n → Gd pP lL eE (rmN 3 75) sS mI aA bB mM cC 0 0 Q tT dD al (fA al) 98 [some (.ref (al 0)), none, none, some (.long (jN h4)), none, some (.int (iN p)), some (.int (iN i))] [] M := by
                      intro n
                      induction n with
                      | zero => intro h4 i hi hi2 hj4 hm; exact absurd hm (Nat.not_lt_zero _)
                      | succ n ih =>
                        intro h4 i hi hi2 hj4 hm
                        have ih_98 := ih
                        clear ih
                        refine g_iload X dX9_withPictures_98 rfl ?_
                        refine g_aload_n X dX9_withPictures_100 rfl rfl ?_
                        refine g_geti (kz := 15) X kd_0 fc8 (k := 15) (by decide) rfl wd_318 rfl dX9_withPictures_101 ?_
                        refine g_icmp_ge (tgt := 127) X dX9_withPictures_104 (by decide) ⟨by omega, by omega⟩ ⟨by omega, by omega⟩ (fun q104 => ?_) (fun q104 => ?_)
                        · refine g_iinc_5 X dX9_withPictures_127 trivial (fun v5_127 ev5_127 => ?_)
                          subst v5_127
                          refine g_goto (tgt := 5) X dX9_withPictures_130 (by decide) ?_
                          exact g_sub (ih_5 _ _ (by omega) (by omega) (by rw [hj4, show i = M 114 15 by omega, itH_s _ _ hp]; rfl) (by omega)) ⟨rfl, rfl, rfl, trivial⟩
                        · refine g_lload_n X dX9_withPictures_107 rfl rfl ?_
                          refine g_aload_n X dX9_withPictures_108 rfl rfl ?_
                          refine g_iload X dX9_withPictures_109 rfl ?_
                          refine g_iload X dX9_withPictures_111 rfl ?_
                          refine g_callVI X (c_X9_valueOf lL tT dD al _ _ _ hV hi (by omega) hp (by omega)) kd_0 fc8 lk_RX9_163 rfl rfl ⟨by decide, by decide⟩ rfl (Nat.le_of_ble_eq_true rfl) dX9_withPictures_113 (fun r113 M113 hc113 => ?_)
                          obtain ⟨hr113, hm113⟩ := hc113
                          subst r113
                          subst M113
                          have hvr := vlu_rng hW (m := i) (p := p) hi (by omega)
                          refine g_i2l X dX9_withPictures_116 ⟨by omega, by omega⟩ ?_
                          refine g_callSJ X (c_X9_mixed lL tT dD al _ _ _ ) lk_RX9_297 rfl rfl ⟨by decide, by decide⟩ rfl (Nat.le_of_ble_eq_true rfl) dX9_withPictures_117 (fun r117 M117 hc117 => ?_)
                          obtain ⟨hr117, hm117⟩ := hc117
                          subst r117
                          subst M117
                          refine g_lstore_n_3 X dX9_withPictures_120 rfl trivial (fun v3_120 ev3_120 => ?_)
                          subst v3_120
                          refine g_iinc_6 X dX9_withPictures_121 rfl (fun v6_121 ev6_121 => ?_)
                          subst v6_121
                          refine g_goto (tgt := 98) X dX9_withPictures_124 (by decide) ?_
                          exact g_sub (ih_98 _ _ (by omega) (by omega) (by rw [hf_s _ _ hi, ← hj4]) (by omega)) ⟨rfl, rfl, rfl, rfl, trivial⟩
                    exact g_sub (L_98 _ _ _ (by omega) (by omega) (by obtain rfl : i = 12 := (by omega); rw [hj3]; rfl) (Nat.lt_succ_self _)) ⟨rfl, rfl, rfl, rfl, trivial⟩
                  · refine g_lload_n X dX9_withPictures_62 rfl rfl ?_
                    refine g_aload_n X dX9_withPictures_63 rfl rfl ?_
                    refine g_iload X dX9_withPictures_64 rfl ?_
                    refine g_iload X dX9_withPictures_66 rfl ?_
                    refine g_callVI X (c_X9_putRight lL tT dD al _ _ _ hV hp (by omega) hi (by omega)) kd_0 fc8 lk_RX9_156 rfl rfl ⟨by decide, by decide⟩ rfl (Nat.le_of_ble_eq_true rfl) dX9_withPictures_68 (fun r68 M68 hc68 => ?_)
                    obtain ⟨hr68, hm68⟩ := hc68
                    subst r68
                    subst M68
                    have hrg := rgt_rng M p i
                    refine g_i2l X dX9_withPictures_71 ⟨by omega, by omega⟩ ?_
                    refine g_callSJ X (c_X9_mixed lL tT dD al _ _ _ ) lk_RX9_297 rfl rfl ⟨by decide, by decide⟩ rfl (Nat.le_of_ble_eq_true rfl) dX9_withPictures_72 (fun r72 M72 hc72 => ?_)
                    obtain ⟨hr72, hm72⟩ := hc72
                    subst r72
                    subst M72
                    refine g_lstore_n_3 X dX9_withPictures_75 rfl trivial (fun v3_75 ev3_75 => ?_)
                    subst v3_75
                    refine g_iinc_6 X dX9_withPictures_76 rfl (fun v6_76 ev6_76 => ?_)
                    subst v6_76
                    refine g_goto (tgt := 55) X dX9_withPictures_79 (by decide) ?_
                    exact g_sub (ih_55 _ _ (by omega) (by omega) (by rw [hf_s _ _ hi, ← hj3]) (by omega)) ⟨rfl, rfl, rfl, rfl, trivial⟩
              exact g_sub (L_55 _ _ _ (by omega) (by omega) (by obtain rfl : i = 6 := (by omega); rw [hj2]; rfl) (Nat.lt_succ_self _)) ⟨rfl, rfl, rfl, rfl, trivial⟩
            · refine g_lload_n X dX9_withPictures_27 rfl rfl ?_
              refine g_aload_n X dX9_withPictures_28 rfl rfl ?_
              refine g_getr (r := 24) X kd_0 fc8 (k := 9) (by decide) rfl wd_312 rfl (by decide) dX9_withPictures_29 ?_
              refine g_getr (r := 25) X kd_24 fc7 (k := 0) (by decide) rfl wd_217 rfl (by decide) dX9_withPictures_32 ?_
              refine g_iload X dX9_withPictures_35 rfl ?_
              have b0_37_66 : 0 ≤ p := by omega
              have b1_37_66 : p < 16 := by omega
              refine g_aald X kd_25 (bz := 26) rfl b0_37_66 b1_37_66 dX9_withPictures_37 ?_
              have kr_37_66 := kr_26 b0_37_66 b1_37_66
              refine g_iload X dX9_withPictures_38 rfl ?_
              refine g_iald X kr_37_66 (by omega) (by omega) dX9_withPictures_40 ?_
              have hrr := row_rng hW hp (by omega) hi (by omega)
              refine g_teq (b := M 124 (6 * p + i)) (by exact hV.fa hp (by omega) hi (by omega)) ?_
              refine g_i2l X dX9_withPictures_41 hrr ?_
              refine g_callSJ X (c_X9_mixed lL tT dD al _ _ _ ) lk_RX9_297 rfl rfl ⟨by decide, by decide⟩ rfl (Nat.le_of_ble_eq_true rfl) dX9_withPictures_42 (fun r42 M42 hc42 => ?_)
              obtain ⟨hr42, hm42⟩ := hc42
              subst r42
              subst M42
              refine g_lstore_n_3 X dX9_withPictures_45 rfl trivial (fun v3_45 ev3_45 => ?_)
              subst v3_45
              refine g_iinc_6 X dX9_withPictures_46 rfl (fun v6_46 ev6_46 => ?_)
              subst v6_46
              refine g_goto (tgt := 20) X dX9_withPictures_49 (by decide) ?_
              exact g_sub (ih_20 _ _ (by omega) (by omega) (by rw [hf_s _ _ hi, ← hj2]) (by omega)) ⟨rfl, rfl, rfl, rfl, trivial⟩
        exact g_sub (L_20 _ _ _ (by omega) (by omega) (by rw [hh]; rfl) (Nat.lt_succ_self _)) ⟨rfl, rfl, rfl, rfl, trivial⟩
  exact g_sub (L_5 _ _ _ (by omega) (by omega) (rfl) (Nat.lt_succ_self _)) ⟨rfl, rfl, rfl, trivial⟩
set_option maxRecDepth 100000 in
set_option maxHeartbeats 4000000 in
theorem c_X9_withIce (lL : Launch) (tT : TT) (dD : va_G) (al : Int → Nat) (M : Mem) (h0 : Int) (hV : IV M) : CJ lL yX9_withIce cX9_withIce 6 1 23 tT dD al [.ref (al 0), .long (jN h0)] M (fun r M' => r = itH (g6 M) h0 (401 : Int).toNat ∧ M' = M) := by
  refine CJ.of (own := "RedSkies") (ls0 := [some (.ref (al 0)), some (.long (jN h0)), none, none, none, none]) (by decide +kernel) rfl (Nat.le_of_ble_eq_true rfl) rfl ?_
  intro pP eE sS mI aA bB mM cC X hr hlk
  obtain ⟨Q, hQ⟩ : ∃ Q : State → Prop, Q = MQ bB (QJ tT dD al (fun r M' => r = itH (g6 M) h0 (401 : Int).toNat ∧ M' = M)) aA sS 0 0 (fA al) := ⟨_, rfl⟩
  rw [← hQ]
  have hW := hV.w
  have w2 := hW.n
  have n1 := hV.hn
  have w3 := hW.mea
  have w4 := hW.pig
  have w5 := hW.lam
  have w6 := hW.law
  have k1 := hV.la
  have k2 := hV.pi
  have k3 := hV.me
  have k4 := hV.lw
  refine g_lload_n X dX9_withIce_0 rfl rfl ?_
  refine g_lstore_n_3 X dX9_withIce_1 rfl trivial (fun v3_1 ev3_1 => ?_)
  subst v3_1
  refine g_iconst X dX9_withIce_2 ?_
  refine g_istore_5 X dX9_withIce_3 trivial (fun v5_3 ev5_3 => ?_)
  subst v5_3
  have L_5 : ∀ (n : Nat) (h : Int) (y : Int), (0 ≤ y) → (y ≤ 401) → (h = itH (g6 M) h0 y.toNat) → (401 - y).toNat < n → Gd pP lL eE (rmN 1 23) sS mI aA bB mM cC 0 0 Q tT dD al (fA al) 5 [some (.ref (al 0)), none, none, some (.long (jN h)), none, some (.int (iN y))] [] M := by
    intro n
    induction n with
    | zero => intro h y hy hy2 hh hm; exact absurd hm (Nat.not_lt_zero _)
    | succ n ih =>
      intro h y hy hy2 hh hm
      have ih_5 := ih
      clear ih
      refine g_iload X dX9_withIce_5 rfl ?_
      refine g_sipush X dX9_withIce_7 (by decide +kernel) ?_
      refine g_icmp_gt (tgt := 69) X dX9_withIce_10 (by decide) ⟨by omega, by omega⟩ (by decide) (fun q10 => ?_) (fun q10 => ?_)
      · refine g_lload_n X dX9_withIce_69 rfl rfl ?_
        rw [hQ]
        refine g_lret X hr hlk dX9_withIce_70 ?_
        obtain rfl : y = 401 := by omega
        exact ⟨hh, rfl⟩
      · refine g_aload_n X dX9_withIce_13 rfl rfl ?_
        refine g_getr (r := 24) X kd_0 fc8 (k := 9) (by decide) rfl wd_312 rfl (by decide) dX9_withIce_14 ?_
        refine g_getr (r := 60) X kd_24 fc7 (k := 3) (by decide) rfl wd_224 rfl (by decide) dX9_withIce_17 ?_
        refine g_iload X dX9_withIce_20 rfl ?_
        refine g_iald X kd_60 (by omega) (by omega) dX9_withIce_22 ?_
        have e60 := hV.ic hy (by omega)
        have hic := ice_rng hW hy (by omega)
        refine g_teq (b := M 134 y) (by exact e60.1) ?_
        refine g_iconst X dX9_withIce_23 ?_
        refine g_icmp_eq (tgt := 63) X dX9_withIce_24 (by decide) hic.1 (by decide) (fun q24 => ?_) (fun q24 => ?_)
        · refine g_iinc_5 X dX9_withIce_63 trivial (fun v5_63 ev5_63 => ?_)
          subst v5_63
          refine g_goto (tgt := 5) X dX9_withIce_66 (by decide) ?_
          exact g_sub (ih_5 _ _ (by omega) (by omega) (by rw [itH_s _ _ hy, ← hh]; unfold g6; first | (rw [if_pos (by omega)]; done) | (rw [if_pos (by omega)]; rfl) | (rw [if_neg (by omega)]; done) | (rw [if_neg (by omega)]; rfl)) (by omega)) ⟨rfl, rfl, rfl, trivial⟩
        · refine g_lload_n X dX9_withIce_27 rfl rfl ?_
          refine g_iload X dX9_withIce_28 rfl ?_
          refine g_i2l X dX9_withIce_30 ⟨by omega, by omega⟩ ?_
          refine g_callSJ X (c_X9_mixed lL tT dD al _ _ _ ) lk_RX9_297 rfl rfl ⟨by decide, by decide⟩ rfl (Nat.le_of_ble_eq_true rfl) dX9_withIce_31 (fun r31 M31 hc31 => ?_)
          obtain ⟨hr31, hm31⟩ := hc31
          subst r31
          subst M31
          refine g_aload_n X dX9_withIce_34 rfl rfl ?_
          refine g_getr (r := 24) X kd_0 fc8 (k := 9) (by decide) rfl wd_312 rfl (by decide) dX9_withIce_35 ?_
          refine g_getr (r := 60) X kd_24 fc7 (k := 3) (by decide) rfl wd_224 rfl (by decide) dX9_withIce_38 ?_
          refine g_iload X dX9_withIce_41 rfl ?_
          refine g_iald X kd_60 (by omega) (by omega) dX9_withIce_43 ?_
          refine g_teq (b := M 134 y) (by exact e60.1) ?_
          refine g_i2l X dX9_withIce_44 hic.1 ?_
          refine g_callSJ X (c_X9_mixed lL tT dD al _ _ _ ) lk_RX9_297 rfl rfl ⟨by decide, by decide⟩ rfl (Nat.le_of_ble_eq_true rfl) dX9_withIce_45 (fun r45 M45 hc45 => ?_)
          obtain ⟨hr45, hm45⟩ := hc45
          subst r45
          subst M45
          refine g_aload_n X dX9_withIce_48 rfl rfl ?_
          refine g_getr (r := 24) X kd_0 fc8 (k := 9) (by decide) rfl wd_312 rfl (by decide) dX9_withIce_49 ?_
          refine g_getr (r := 61) X kd_24 fc7 (k := 4) (by decide) rfl wd_226 rfl (by decide) dX9_withIce_52 ?_
          refine g_iload X dX9_withIce_55 rfl ?_
          refine g_iald X kd_61 (by omega) (by omega) dX9_withIce_57 ?_
          refine g_teq (b := M 135 y) (by exact e60.2 (by omega)) ?_
          refine g_i2l X dX9_withIce_58 hic.2 ?_
          refine g_callSJ X (c_X9_mixed lL tT dD al _ _ _ ) lk_RX9_297 rfl rfl ⟨by decide, by decide⟩ rfl (Nat.le_of_ble_eq_true rfl) dX9_withIce_59 (fun r59 M59 hc59 => ?_)
          obtain ⟨hr59, hm59⟩ := hc59
          subst r59
          subst M59
          refine g_lstore_n_3 X dX9_withIce_62 rfl trivial (fun v3_62 ev3_62 => ?_)
          subst v3_62
          refine g_iinc_5 X dX9_withIce_63 trivial (fun v5_63 ev5_63 => ?_)
          subst v5_63
          refine g_goto (tgt := 5) X dX9_withIce_66 (by decide) ?_
          exact g_sub (ih_5 _ _ (by omega) (by omega) (by rw [itH_s _ _ hy, ← hh]; unfold g6; first | (rw [if_pos (by omega)]; done) | (rw [if_pos (by omega)]; rfl) | (rw [if_neg (by omega)]; done) | (rw [if_neg (by omega)]; rfl)) (by omega)) ⟨rfl, rfl, rfl, trivial⟩
  exact g_sub (L_5 _ _ _ (by omega) (by omega) (rfl) (Nat.lt_succ_self _)) ⟨rfl, rfl, rfl, trivial⟩
set_option maxRecDepth 100000 in
set_option maxHeartbeats 4000000 in
theorem c_X9_withMeasures (lL : Launch) (tT : TT) (dD : va_G) (al : Int → Nat) (M : Mem) (h0 : Int) (hV : IV M) : CJ lL yX9_withMeasures cX9_withMeasures 8 5 131 tT dD al [.ref (al 0), .long (jN h0)] M (fun r M' => r = wmH M h0 ∧ XS M M') := by
  refine CJ.of (own := "RedSkies") (ls0 := [some (.ref (al 0)), some (.long (jN h0)), none, none, none, none, none, none]) (by decide +kernel) rfl (Nat.le_of_ble_eq_true rfl) rfl ?_
  intro pP eE sS mI aA bB mM cC X hr hlk
  obtain ⟨Q, hQ⟩ : ∃ Q : State → Prop, Q = MQ bB (QJ tT dD al (fun r M' => r = wmH M h0 ∧ XS M M')) aA sS 0 0 (fA al) := ⟨_, rfl⟩
  rw [← hQ]
  have hW := hV.w
  have w2 := hW.n
  have n1 := hV.hn
  have w3 := hW.mea
  have w4 := hW.pig
  have w5 := hW.lam
  have w6 := hW.law
  have k1 := hV.la
  have k2 := hV.pi
  have k3 := hV.me
  have k4 := hV.lw
  refine g_lload_n X dX9_withMeasures_0 rfl rfl ?_
  refine g_lstore_n_3 X dX9_withMeasures_1 rfl trivial (fun v3_1 ev3_1 => ?_)
  subst v3_1
  refine g_aload_n X dX9_withMeasures_2 rfl rfl ?_
  refine g_getr (r := 24) X kd_0 fc8 (k := 9) (by decide) rfl wd_312 rfl (by decide) dX9_withMeasures_3 ?_
  refine g_callVI X (c_X8_counted lL tT dD al _  hV) kd_24 fc7 lk_RX9_190 rfl rfl ⟨by decide, by decide⟩ rfl (Nat.le_of_ble_eq_true rfl) dX9_withMeasures_6 (fun r6 M6 hc6 => ?_)
  obtain ⟨hr6, hm6⟩ := hc6
  subst r6
  subst M6
  refine g_istore_5 X dX9_withMeasures_9 trivial (fun v5_9 ev5_9 => ?_)
  subst v5_9
  refine g_aload_n X dX9_withMeasures_11 rfl rfl ?_
  refine g_getr (r := 24) X kd_0 fc8 (k := 9) (by decide) rfl wd_312 rfl (by decide) dX9_withMeasures_12 ?_
  refine g_iconst X dX9_withMeasures_15 ?_
  refine g_callVI X (c_X8_nearOnes lL tT dD al _ _ hV ⟨by decide, by decide⟩) kd_24 fc7 lk_RX9_194 rfl rfl ⟨by decide, by decide⟩ rfl (Nat.le_of_ble_eq_true rfl) dX9_withMeasures_16 (fun r16 M16 hc16 => ?_)
  obtain ⟨hr16, hm16⟩ := hc16
  subst r16
  subst M16
  refine g_istore_6 X dX9_withMeasures_19 rfl (fun v6_19 ev6_19 => ?_)
  subst v6_19
  refine g_iconst X dX9_withMeasures_21 ?_
  refine g_istore_7 X dX9_withMeasures_22 rfl (fun v7_22 ev7_22 => ?_)
  subst v7_22
  have L_24 : ∀ (n : Nat) (h : Int) (m : Int) (M1 : Mem), (0 ≤ m) → (m ≤ M 114 15) → (XS M M1) → (h = itH (smH M) h0 m.toNat) → (4 - m).toNat < n → Gd pP lL eE (rmN 5 131) sS mI aA bB mM cC 0 0 Q tT dD al (fA al) 24 [some (.ref (al 0)), none, none, some (.long (jN h)), none, some (.int (iN (cntB M (M 114 23).toNat))), some (.int (iN (nrB M 2 (M 114 23).toNat))), some (.int (iN m))] [] M1 := by
    intro n
    induction n with
    | zero => intro h m M1 hm_ hm2 hX hh hm; exact absurd hm (Nat.not_lt_zero _)
    | succ n ih =>
      intro h m M1 hm_ hm2 hX hh hm
      have hV1 := hX.iv hV
      have e15 : M1 114 15 = M 114 15 := hX.eq.fld (by decide)
      have e23 : M1 114 23 = M 114 23 := hX.eq.fld (by decide)
      have f15 : M1 0 15 = M 114 15 := hV1.me.trans e15
      have ih_24 := ih
      clear ih
      refine g_iload X dX9_withMeasures_24 rfl ?_
      refine g_aload_n X dX9_withMeasures_26 rfl rfl ?_
      refine g_geti (kz := 15) X kd_0 fc8 (k := 15) (by decide) rfl wd_318 rfl dX9_withMeasures_27 ?_
      refine g_icmp_ge (tgt := 115) X dX9_withMeasures_30 (by decide) ⟨by omega, by omega⟩ ⟨by omega, by omega⟩ (fun q30 => ?_) (fun q30 => ?_)
      · refine g_iconst X dX9_withMeasures_115 ?_
        refine g_istore_7 X dX9_withMeasures_116 rfl (fun v7_116 ev7_116 => ?_)
        subst v7_116
        have L_118 : ∀ (n : Nat) (h : Int) (i : Int) (M2 : Mem), (0 ≤ i) → (i ≤ M 114 15) → (XS M M2) → (h = itH (g5 M) (itH (smH M) h0 (M 114 15).toNat) i.toNat) → (i = 0 ∨ 0 < M 114 17) → (4 - i).toNat < n → Gd pP lL eE (rmN 5 131) sS mI aA bB mM cC 0 0 Q tT dD al (fA al) 118 [some (.ref (al 0)), none, none, some (.long (jN h)), none, none, none, some (.int (iN i))] [] M2 := by
          intro n
          induction n with
          | zero => intro h i M2 hi hi2 hX2 hg hb hm; exact absurd hm (Nat.not_lt_zero _)
          | succ n ih =>
            intro h i M2 hi hi2 hX2 hg hb hm
            have hV2 := hX2.iv hV
            have e15 : M2 114 15 = M 114 15 := hX2.eq.fld (by decide)
            have e23 : M2 114 23 = M 114 23 := hX2.eq.fld (by decide)
            have f15 : M2 0 15 = M 114 15 := hV2.me.trans e15
            have e17 : M2 114 17 = M 114 17 := hX2.eq.fld (by decide)
            have f17 : M2 22 1 = M 114 17 := hV2.lw.1.trans e17
            have ih_118 := ih
            clear ih
            refine g_iload X dX9_withMeasures_118 rfl ?_
            refine g_aload_n X dX9_withMeasures_120 rfl rfl ?_
            refine g_geti (kz := 15) X kd_0 fc8 (k := 15) (by decide) rfl wd_318 rfl dX9_withMeasures_121 ?_
            refine g_icmp_ge (tgt := 155) X dX9_withMeasures_124 (by decide) ⟨by omega, by omega⟩ ⟨by omega, by omega⟩ (fun q124 => ?_) (fun q124 => ?_)
            · refine g_lload_n X dX9_withMeasures_155 rfl rfl ?_
              rw [hQ]
              refine g_lret X hr hlk dX9_withMeasures_156 ?_
              refine ⟨?_, hX2⟩
              unfold wmH
              first | (rw [if_neg (by omega), hg, show i = 0 by omega]; rfl) | (rw [if_pos (by omega), hg, show i = M 114 15 by omega]) | (rw [hg, show i = M 114 15 by omega]; by_cases z : 0 < M 114 17; rw [if_pos z]; rw [if_neg z, show M 114 15 = 0 by omega]; rfl)
            · refine g_aload_n X dX9_withMeasures_127 rfl rfl ?_
              refine g_getr (r := 22) X kd_0 fc8 (k := 8) (by decide) rfl wd_311 rfl (by decide) dX9_withMeasures_128 ?_
              refine g_geti (kz := 1) X kd_22 fc2 (k := 1) (by decide) rfl wd_197 rfl dX9_withMeasures_131 ?_
              refine g_if_le (tgt := 155) X dX9_withMeasures_134 (by decide) ⟨by omega, by omega⟩ (fun q134 => ?_) (fun q134 => ?_)
              · refine g_lload_n X dX9_withMeasures_155 rfl rfl ?_
                rw [hQ]
                refine g_lret X hr hlk dX9_withMeasures_156 ?_
                refine ⟨?_, hX2⟩
                unfold wmH
                first | (rw [if_neg (by omega), hg, show i = 0 by omega]; rfl) | (rw [if_pos (by omega), hg, show i = M 114 15 by omega]) | (rw [hg, show i = M 114 15 by omega]; by_cases z : 0 < M 114 17; rw [if_pos z]; rw [if_neg z, show M 114 15 = 0 by omega]; rfl)
              · refine g_lload_n X dX9_withMeasures_137 rfl rfl ?_
                refine g_aload_n X dX9_withMeasures_138 rfl rfl ?_
                refine g_iload X dX9_withMeasures_139 rfl ?_
                refine g_callVI X (c_X9_dateless lL tT dD al _ _ hV2 hi (by omega)) kd_0 fc8 lk_RX9_282 rfl rfl ⟨by decide, by decide⟩ rfl (Nat.le_of_ble_eq_true rfl) dX9_withMeasures_141 (fun r141 M141 hc141 => ?_)
                obtain ⟨hr141, hm141⟩ := hc141
                subst r141
                subst M141
                have hwr := wrS_rng (M := M) i (n := (M 114 23).toNat) (by omega)
                refine g_teq (b := wrS M i (M 114 23).toNat) (by rw [hX2.eq.e_wrS, e23]) ?_
                refine g_i2l X dX9_withMeasures_144 ⟨by omega, by omega⟩ ?_
                refine g_callSJ X (c_X9_mixed lL tT dD al _ _ _ ) lk_RX9_297 rfl rfl ⟨by decide, by decide⟩ rfl (Nat.le_of_ble_eq_true rfl) dX9_withMeasures_145 (fun r145 M145 hc145 => ?_)
                obtain ⟨hr145, hm145⟩ := hc145
                subst r145
                subst M145
                refine g_lstore_n_3 X dX9_withMeasures_148 rfl trivial (fun v3_148 ev3_148 => ?_)
                subst v3_148
                refine g_iinc_7 X dX9_withMeasures_149 trivial (fun v7_149 ev7_149 => ?_)
                subst v7_149
                refine g_goto (tgt := 118) X dX9_withMeasures_152 (by decide) ?_
                exact g_sub (ih_118 _ _ _ (by omega) (by omega) (hX2) (by rw [itH_s _ _ hi, ← hg]; rfl) (by omega) (by omega)) ⟨rfl, rfl, rfl, trivial⟩
        exact g_sub (L_118 _ _ _ _ (by omega) (by omega) (hX) (by obtain rfl : m = M 114 15 := (by omega); exact hh) (Or.inl rfl) (Nat.lt_succ_self _)) ⟨rfl, rfl, rfl, trivial⟩
      · refine g_aload_n X dX9_withMeasures_33 rfl rfl ?_
        refine g_iload X dX9_withMeasures_34 rfl ?_
        refine g_callVV X (c_X9_layOut lL tT dD al _ _ hV1 hm_ (by omega)) kd_0 fc8 lk_RX9_186 rfl rfl ⟨by decide, by decide⟩ rfl (Nat.le_of_ble_eq_true rfl) dX9_withMeasures_36 (fun M36 hc36 => ?_)
        rw [e23] at hc36
        have hL := LO.pre hX hc36
        have hP1 := hL.pf hW hm_ (by omega) 2
        have es := congrFun (congrFun (congrFun hL.1.eq.e_stV m) 2) (-1)
        have eu := congrFun (congrFun (congrFun hL.1.eq.e_upV m) 2) (-1)
        have el := congrFun (congrFun (congrFun hL.1.eq.e_lowV m) 2) (-1)
        refine g_aload_n X dX9_withMeasures_39 rfl rfl ?_
        refine g_getr (r := 100) X kd_0 fc8 (k := 11) (by decide) rfl wd_314 rfl (by decide) dX9_withMeasures_40 ?_
        refine g_iload X dX9_withMeasures_43 rfl ?_
        refine g_iload X dX9_withMeasures_45 rfl ?_
        refine g_callVV X (c_X0_deal lL tT dD al _ _ _ hP1.1) kd_100 fc0 lk_RX9_205 rfl rfl ⟨by decide, by decide⟩ rfl (Nat.le_of_ble_eq_true rfl) dX9_withMeasures_47 (fun M47 hc47 => ?_)
        have ur := up_le M36 (cntB M (M 114 23).toNat) (nrB M 2 (M 114 23).toNat)
        have up := upT_pos hP1.1
        rw [hP1.up, eu] at ur up
        rw [hP1.low, el] at ur
        have hst := stT_rng M36 (cntB M (M 114 23).toNat) (nrB M 2 (M 114 23).toNat)
        rw [hP1.st] at hst
        refine g_lload_n X dX9_withMeasures_50 rfl rfl ?_
        refine g_aload_n X dX9_withMeasures_51 rfl rfl ?_
        refine g_getr (r := 100) X kd_0 fc8 (k := 11) (by decide) rfl wd_314 rfl (by decide) dX9_withMeasures_52 ?_
        refine g_geti (kz := 2) X kd_100 fc0 (k := 2) (by decide) rfl wd_262 rfl dX9_withMeasures_55 ?_
        refine g_teq (b := stV M m 2 (-1)) (by exact hc47.2.1.trans (hP1.st.trans es)) ?_
        refine g_i2l X dX9_withMeasures_58 ⟨by omega, by omega⟩ ?_
        refine g_callSJ X (c_X9_mixed lL tT dD al _ _ _ ) lk_RX9_297 rfl rfl ⟨by decide, by decide⟩ rfl (Nat.le_of_ble_eq_true rfl) dX9_withMeasures_59 (fun r59 M59 hc59 => ?_)
        obtain ⟨hr59, hm59⟩ := hc59
        subst r59
        subst M59
        refine g_lstore_n_3 X dX9_withMeasures_62 rfl trivial (fun v3_62 ev3_62 => ?_)
        subst v3_62
        refine g_lload_n X dX9_withMeasures_63 rfl rfl ?_
        refine g_aload_n X dX9_withMeasures_64 rfl rfl ?_
        refine g_getr (r := 100) X kd_0 fc8 (k := 11) (by decide) rfl wd_314 rfl (by decide) dX9_withMeasures_65 ?_
        refine g_getl (kz := 3) X kd_100 fc0 (k := 3) (by decide) rfl wd_264 rfl dX9_withMeasures_68 ?_
        refine g_teql (b := upV M m 2 (-1)) (by exact hc47.2.2.1.trans (hP1.up.trans eu)) ?_
        refine g_aload_n X dX9_withMeasures_71 rfl rfl ?_
        refine g_getr (r := 100) X kd_0 fc8 (k := 11) (by decide) rfl wd_314 rfl (by decide) dX9_withMeasures_72 ?_
        refine g_getl (kz := 4) X kd_100 fc0 (k := 4) (by decide) rfl wd_266 rfl dX9_withMeasures_75 ?_
        refine g_teql (b := lowV M m 2 (-1)) (by exact hc47.2.2.2.trans (hP1.low.trans el)) ?_
        refine g_iconst X dX9_withMeasures_78 ?_
        refine g_callSJ X (c_X9_inLowestTerms lL tT dD al _ _ _ _ (by omega) (by omega) ⟨by decide, by decide⟩) lk_RX9_215 rfl rfl ⟨by decide, by decide⟩ rfl (Nat.le_of_ble_eq_true rfl) dX9_withMeasures_79 (fun r79 M79 hc79 => ?_)
        obtain ⟨hr79, hm79⟩ := hc79
        subst r79
        subst M79
        refine g_callSJ X (c_X9_mixed lL tT dD al _ _ _ ) lk_RX9_297 rfl rfl ⟨by decide, by decide⟩ rfl (Nat.le_of_ble_eq_true rfl) dX9_withMeasures_82 (fun r82 M82 hc82 => ?_)
        obtain ⟨hr82, hm82⟩ := hc82
        subst r82
        subst M82
        refine g_lstore_n_3 X dX9_withMeasures_85 rfl trivial (fun v3_85 ev3_85 => ?_)
        subst v3_85
        refine g_lload_n X dX9_withMeasures_86 rfl rfl ?_
        refine g_aload_n X dX9_withMeasures_87 rfl rfl ?_
        refine g_getr (r := 100) X kd_0 fc8 (k := 11) (by decide) rfl wd_314 rfl (by decide) dX9_withMeasures_88 ?_
        refine g_getl (kz := 3) X kd_100 fc0 (k := 3) (by decide) rfl wd_264 rfl dX9_withMeasures_91 ?_
        refine g_teql (b := upV M m 2 (-1)) (by exact hc47.2.2.1.trans (hP1.up.trans eu)) ?_
        refine g_aload_n X dX9_withMeasures_94 rfl rfl ?_
        refine g_getr (r := 100) X kd_0 fc8 (k := 11) (by decide) rfl wd_314 rfl (by decide) dX9_withMeasures_95 ?_
        refine g_getl (kz := 4) X kd_100 fc0 (k := 4) (by decide) rfl wd_266 rfl dX9_withMeasures_98 ?_
        refine g_teql (b := lowV M m 2 (-1)) (by exact hc47.2.2.2.trans (hP1.low.trans el)) ?_
        refine g_iconst X dX9_withMeasures_101 ?_
        refine g_callSJ X (c_X9_inLowestTerms lL tT dD al _ _ _ _ (by omega) (by omega) ⟨by decide, by decide⟩) lk_RX9_215 rfl rfl ⟨by decide, by decide⟩ rfl (Nat.le_of_ble_eq_true rfl) dX9_withMeasures_102 (fun r102 M102 hc102 => ?_)
        obtain ⟨hr102, hm102⟩ := hc102
        subst r102
        subst M102
        refine g_callSJ X (c_X9_mixed lL tT dD al _ _ _ ) lk_RX9_297 rfl rfl ⟨by decide, by decide⟩ rfl (Nat.le_of_ble_eq_true rfl) dX9_withMeasures_105 (fun r105 M105 hc105 => ?_)
        obtain ⟨hr105, hm105⟩ := hc105
        subst r105
        subst M105
        refine g_lstore_n_3 X dX9_withMeasures_108 rfl trivial (fun v3_108 ev3_108 => ?_)
        subst v3_108
        refine g_iinc_7 X dX9_withMeasures_109 rfl (fun v7_109 ev7_109 => ?_)
        subst v7_109
        refine g_goto (tgt := 24) X dX9_withMeasures_112 (by decide) ?_
        exact g_sub (ih_24 _ _ _ (by omega) (by omega) ((hX.tr hc36.1).tr hc47.1.xs) (by rw [itH_s _ _ hm_, ← hh]; rfl) (by omega)) ⟨rfl, rfl, rfl, rfl, rfl, trivial⟩
  exact g_sub (L_24 _ _ _ _ (by omega) (by omega) (XS.rf M) (rfl) (Nat.lt_succ_self _)) ⟨rfl, rfl, rfl, rfl, rfl, trivial⟩
set_option maxRecDepth 100000 in
set_option maxHeartbeats 4000000 in
theorem c_X9_digest (lL : Launch) (tT : TT) (dD : va_G) (al : Int → Nat) (M : Mem)  (hV : IV M) (hG : IG M) (hD : ID M) (hN : WDone M) (hP : WPage M) : CJ lL yX9_digest cX9_digest 4 6 158 tT dD al [.ref (al 0)] M (fun r M' => r = k8 M ∧ XS M M') := by
  refine CJ.of (own := "RedSkies") (ls0 := [some (.ref (al 0)), none, none, none]) (by decide +kernel) rfl (Nat.le_of_ble_eq_true rfl) rfl ?_
  intro pP eE sS mI aA bB mM cC X hr hlk
  obtain ⟨Q, hQ⟩ : ∃ Q : State → Prop, Q = MQ bB (QJ tT dD al (fun r M' => r = k8 M ∧ XS M M')) aA sS 0 0 (fA al) := ⟨_, rfl⟩
  rw [← hQ]
  have hW := hV.w
  have w2 := hW.n
  have n1 := hV.hn
  have w3 := hW.mea
  have w4 := hW.pig
  have w5 := hW.lam
  have w6 := hW.law
  have ka1 := hV.la
  have ka2 := hV.pi
  have ka3 := hV.me
  have ka4 := hV.lw
  have g0 := hG.1
  have p0 := hP.1
  have d0 : 0 ≤ M 114 39 ∧ M 114 39 ≤ 30 := hN
  refine g_ldc2 X (n := 421) wd_804 (by decide +kernel) dX9_digest_0 ?_
  refine g_lstore_n_1 X dX9_digest_3 rfl rfl (fun v1_3 ev1_3 => ?_)
  subst v1_3
  refine g_iconst X dX9_digest_4 ?_
  refine g_istore_n_3 X dX9_digest_5 rfl trivial (fun v3_5 ev3_5 => ?_)
  subst v3_5
  have L_6 : ∀ (n : Nat) (h : Int) (i : Int), (0 ≤ i) → (i ≤ M 114 20) → (h = itH (g1 M) 421 i.toNat) → (4 - i).toNat < n → Gd pP lL eE (rmN 6 158) sS mI aA bB mM cC 0 0 Q tT dD al (fA al) 6 [some (.ref (al 0)), some (.long (jN h)), none, some (.int (iN i))] [] M := by
    intro n
    induction n with
    | zero => intro h i hi hi2 hh hm; exact absurd hm (Nat.not_lt_zero _)
    | succ n ih =>
      intro h i hi hi2 hh hm
      have ih_6 := ih
      clear ih
      refine g_iload_n X dX9_digest_6 rfl rfl ?_
      refine g_aload_n X dX9_digest_7 rfl rfl ?_
      refine g_geti (kz := 14) X kd_0 fc8 (k := 14) (by decide) rfl wd_317 rfl dX9_digest_8 ?_
      refine g_icmp_ge (tgt := 42) X dX9_digest_11 (by decide) ⟨by omega, by omega⟩ ⟨by omega, by omega⟩ (fun q11 => ?_) (fun q11 => ?_)
      · refine g_aload_n X dX9_digest_42 rfl rfl ?_
        refine g_lload_n X dX9_digest_43 rfl rfl ?_
        refine g_callVJ X (c_X9_withPictures lL tT dD al _ _ hV) kd_0 fc8 lk_RX9_301 rfl rfl ⟨by decide, by decide⟩ rfl (Nat.le_of_ble_eq_true rfl) dX9_digest_44 (fun r44 M44 hc44 => ?_)
        obtain ⟨hr44, hm44⟩ := hc44
        subst r44
        subst M44
        refine g_lstore_n_1 X dX9_digest_47 rfl rfl (fun v1_47 ev1_47 => ?_)
        subst v1_47
        refine g_iconst X dX9_digest_48 ?_
        refine g_istore_n_3 X dX9_digest_49 rfl trivial (fun v3_49 ev3_49 => ?_)
        subst v3_49
        have L_50 : ∀ (n : Nat) (h : Int) (i : Int), (0 ≤ i) → (i ≤ M 114 26) → (h = itH (g3 M) (k2 M) i.toNat) → (6 - i).toNat < n → Gd pP lL eE (rmN 6 158) sS mI aA bB mM cC 0 0 Q tT dD al (fA al) 50 [some (.ref (al 0)), some (.long (jN h)), none, some (.int (iN i))] [] M := by
          intro n
          induction n with
          | zero => intro h i hi hi2 hj hm; exact absurd hm (Nat.not_lt_zero _)
          | succ n ih =>
            intro h i hi hi2 hj hm
            have ih_50 := ih
            clear ih
            refine g_iload_n X dX9_digest_50 rfl rfl ?_
            refine g_aload_n X dX9_digest_51 rfl rfl ?_
            refine g_getr (r := 24) X kd_0 fc8 (k := 9) (by decide) rfl wd_312 rfl (by decide) dX9_digest_52 ?_
            refine g_geti (kz := 6) X kd_24 fc7 (k := 6) (by decide) rfl wd_230 rfl dX9_digest_55 ?_
            refine g_icmp_ge (tgt := 82) X dX9_digest_58 (by decide) ⟨by omega, by omega⟩ ⟨by omega, by omega⟩ (fun q58 => ?_) (fun q58 => ?_)
            · refine g_aload_n X dX9_digest_82 rfl rfl ?_
              refine g_lload_n X dX9_digest_83 rfl rfl ?_
              refine g_callVJ X (c_X9_withMeasures lL tT dD al _ _ hV) kd_0 fc8 lk_RX9_305 rfl rfl ⟨by decide, by decide⟩ rfl (Nat.le_of_ble_eq_true rfl) dX9_digest_84 (fun r84 M84 hc84 => ?_)
              obtain ⟨hr84, hc84⟩ := hc84
              subst r84
              refine g_lstore_n_1 X dX9_digest_87 rfl rfl (fun v1_87 ev1_87 => ?_)
              subst v1_87
              refine g_aload_n X dX9_digest_88 rfl rfl ?_
              refine g_lload_n X dX9_digest_89 rfl rfl ?_
              refine g_callVJ X (c_X9_withIce lL tT dD al _ _ (hc84.iv hV)) kd_0 fc8 lk_RX9_308 rfl rfl ⟨by decide, by decide⟩ rfl (Nat.le_of_ble_eq_true rfl) dX9_digest_90 (fun r90 M90 hc90 => ?_)
              obtain ⟨hr90, hm90⟩ := hc90
              subst r90
              subst M90
              refine g_lstore_n_1 X dX9_digest_93 rfl rfl (fun v1_93 ev1_93 => ?_)
              subst v1_93
              refine g_iconst X dX9_digest_94 ?_
              refine g_istore_n_3 X dX9_digest_95 rfl trivial (fun v3_95 ev3_95 => ?_)
              subst v3_95
              have L_96 : ∀ (n : Nat) (h : Int) (i : Int) (M1 : Mem), (0 ≤ i) → (i ≤ M 114 1) → (XS M M1) → (h = itH (g7 M) (k6 M) i.toNat) → (40 - i).toNat < n → Gd pP lL eE (rmN 6 158) sS mI aA bB mM cC 0 0 Q tT dD al (fA al) 96 [some (.ref (al 0)), some (.long (jN h)), none, some (.int (iN i))] [] M1 := by
                intro n
                induction n with
                | zero => intro h i M1 hi hi2 hX hk hm; exact absurd hm (Nat.not_lt_zero _)
                | succ n ih =>
                  intro h i M1 hi hi2 hX hk hm
                  have hG1 := hX.ig hG
                  have e1 : M1 114 1 = M 114 1 := hX.eq.fld (by decide)
                  have g1_ := hG1.1
                  have ih_96 := ih
                  clear ih
                  refine g_iload_n X dX9_digest_96 rfl rfl ?_
                  refine g_aload_n X dX9_digest_97 rfl rfl ?_
                  refine g_getr (r := 1) X kd_0 fc8 (k := 0) (by decide) rfl wd_303 rfl (by decide) dX9_digest_98 ?_
                  refine g_geti (kz := 1) X kd_1 fc5 (k := 1) (by decide) rfl wd_98 rfl dX9_digest_101 ?_
                  refine g_icmp_ge (tgt := 128) X dX9_digest_104 (by decide) ⟨by omega, by omega⟩ ⟨by omega, by omega⟩ (fun q104 => ?_) (fun q104 => ?_)
                  · refine g_iconst X dX9_digest_128 ?_
                    refine g_istore_n_3 X dX9_digest_129 rfl trivial (fun v3_129 ev3_129 => ?_)
                    subst v3_129
                    have L_130 : ∀ (n : Nat) (h : Int) (i : Int) (M2 : Mem), (0 ≤ i) → (i ≤ 9) → (XS M M2) → (h = itH (g8 M) (k7 M) i.toNat) → (9 - i).toNat < n → Gd pP lL eE (rmN 6 158) sS mI aA bB mM cC 0 0 Q tT dD al (fA al) 130 [some (.ref (al 0)), some (.long (jN h)), none, some (.int (iN i))] [] M2 := by
                      intro n
                      induction n with
                      | zero => intro h i M2 hi hi2 hX2 hl hm; exact absurd hm (Nat.not_lt_zero _)
                      | succ n ih =>
                        intro h i M2 hi hi2 hX2 hl hm
                        have hV2 := hX2.iv hV
                        have ih_130 := ih
                        clear ih
                        refine g_iload_n X dX9_digest_130 rfl rfl ?_
                        refine g_bipush X dX9_digest_131 (by decide +kernel) ?_
                        refine g_icmp_gt (tgt := 153) X dX9_digest_133 (by decide) ⟨by omega, by omega⟩ (by decide) (fun q133 => ?_) (fun q133 => ?_)
                        · refine g_lload_n X dX9_digest_153 rfl rfl ?_
                          rw [hQ]
                          refine g_lret X hr hlk dX9_digest_154 ?_
                          obtain rfl : i = 9 := by omega
                          exact ⟨hl, hX2⟩
                        · refine g_lload_n X dX9_digest_136 rfl rfl ?_
                          refine g_aload_n X dX9_digest_137 rfl rfl ?_
                          refine g_iload_n X dX9_digest_138 rfl rfl ?_
                          refine g_callVI X (c_X9_howMany lL tT dD al _ _ hV2 (hX2.ig hG) (hX2.id hD) ⟨hi, by omega⟩) kd_0 fc8 lk_RX9_292 rfl rfl ⟨by decide, by decide⟩ rfl (Nat.le_of_ble_eq_true rfl) dX9_digest_139 (fun r139 M139 hc139 => ?_)
                          obtain ⟨hr139, hm139⟩ := hc139
                          subst r139
                          subst M139
                          have hcr : -102 ≤ cntS M i ∧ cntS M i ≤ 100 := by unfold cntS; (repeat' split) <;> omega
                          refine g_teq (b := cntS M i) (by rw [hX2.eq.e_cntS]) ?_
                          refine g_i2l X dX9_digest_142 ⟨by omega, by omega⟩ ?_
                          refine g_callSJ X (c_X9_mixed lL tT dD al _ _ _ ) lk_RX9_297 rfl rfl ⟨by decide, by decide⟩ rfl (Nat.le_of_ble_eq_true rfl) dX9_digest_143 (fun r143 M143 hc143 => ?_)
                          obtain ⟨hr143, hm143⟩ := hc143
                          subst r143
                          subst M143
                          refine g_lstore_n_1 X dX9_digest_146 rfl rfl (fun v1_146 ev1_146 => ?_)
                          subst v1_146
                          refine g_iinc_3 X dX9_digest_147 trivial (fun v3_147 ev3_147 => ?_)
                          subst v3_147
                          refine g_goto (tgt := 130) X dX9_digest_150 (by decide) ?_
                          exact g_sub (ih_130 _ _ _ (by omega) (by omega) (hX2) (by rw [itH_s _ _ hi, ← hl]; rfl) (by omega)) ⟨rfl, rfl, rfl, trivial⟩
                    exact g_sub (L_130 _ _ _ _ (by omega) (by omega) (hX) (by rw [itH_0, hk, show i = M 114 1 by omega]; rfl) (Nat.lt_succ_self _)) ⟨rfl, rfl, rfl, trivial⟩
                  · refine g_lload_n X dX9_digest_107 rfl rfl ?_
                    refine g_aload_n X dX9_digest_108 rfl rfl ?_
                    refine g_getr (r := 1) X kd_0 fc8 (k := 0) (by decide) rfl wd_303 rfl (by decide) dX9_digest_109 ?_
                    refine g_getr (r := 2) X kd_1 fc5 (k := 0) (by decide) rfl wd_97 rfl (by decide) dX9_digest_112 ?_
                    refine g_iload_n X dX9_digest_115 rfl rfl ?_
                    refine g_iald X kd_2 (by omega) (by omega) dX9_digest_116 ?_
                    have hv := hP.2 i hi (by omega)
                    refine g_teq (b := M 115 i) (by rw [hG1.2 i hi (by omega), hX.eq.row (o := 115) (by omega)]) ?_
                    refine g_i2l X dX9_digest_117 ⟨by omega, by omega⟩ ?_
                    refine g_callSJ X (c_X9_mixed lL tT dD al _ _ _ ) lk_RX9_297 rfl rfl ⟨by decide, by decide⟩ rfl (Nat.le_of_ble_eq_true rfl) dX9_digest_118 (fun r118 M118 hc118 => ?_)
                    obtain ⟨hr118, hm118⟩ := hc118
                    subst r118
                    subst M118
                    refine g_lstore_n_1 X dX9_digest_121 rfl rfl (fun v1_121 ev1_121 => ?_)
                    subst v1_121
                    refine g_iinc_3 X dX9_digest_122 trivial (fun v3_122 ev3_122 => ?_)
                    subst v3_122
                    refine g_goto (tgt := 96) X dX9_digest_125 (by decide) ?_
                    exact g_sub (ih_96 _ _ _ (by omega) (by omega) (hX) (by rw [itH_s _ _ hi, ← hk]; rfl) (by omega)) ⟨rfl, rfl, rfl, trivial⟩
              exact g_sub (L_96 _ _ _ _ (by omega) (by omega) (hc84) (by rw [itH_0, hc84.eq.e_g6, hj, show i = M 114 26 by omega]; rfl) (Nat.lt_succ_self _)) ⟨rfl, rfl, rfl, trivial⟩
            · refine g_lload_n X dX9_digest_61 rfl rfl ?_
              refine g_aload_n X dX9_digest_62 rfl rfl ?_
              refine g_getr (r := 24) X kd_0 fc8 (k := 9) (by decide) rfl wd_312 rfl (by decide) dX9_digest_63 ?_
              refine g_getr (r := 59) X kd_24 fc7 (k := 2) (by decide) rfl wd_222 rfl (by decide) dX9_digest_66 ?_
              refine g_iload_n X dX9_digest_69 rfl rfl ?_
              refine g_iald X kd_59 (by omega) (by omega) dX9_digest_70 ?_
              have hv := hW.mts hi (by omega)
              refine g_teq (b := M 126 i) (by exact hV.er hi (by omega)) ?_
              refine g_i2l X dX9_digest_71 ⟨by omega, by omega⟩ ?_
              refine g_callSJ X (c_X9_mixed lL tT dD al _ _ _ ) lk_RX9_297 rfl rfl ⟨by decide, by decide⟩ rfl (Nat.le_of_ble_eq_true rfl) dX9_digest_72 (fun r72 M72 hc72 => ?_)
              obtain ⟨hr72, hm72⟩ := hc72
              subst r72
              subst M72
              refine g_lstore_n_1 X dX9_digest_75 rfl rfl (fun v1_75 ev1_75 => ?_)
              subst v1_75
              refine g_iinc_3 X dX9_digest_76 trivial (fun v3_76 ev3_76 => ?_)
              subst v3_76
              refine g_goto (tgt := 50) X dX9_digest_79 (by decide) ?_
              exact g_sub (ih_50 _ _ (by omega) (by omega) (by rw [itH_s _ _ hi, ← hj]; rfl) (by omega)) ⟨rfl, rfl, rfl, trivial⟩
        exact g_sub (L_50 _ _ _ (by omega) (by omega) (by rw [itH_0, hh, show i = M 114 20 by omega]; rfl) (Nat.lt_succ_self _)) ⟨rfl, rfl, rfl, trivial⟩
      · refine g_lload_n X dX9_digest_14 rfl rfl ?_
        refine g_aload_n X dX9_digest_15 rfl rfl ?_
        refine g_getr (r := 15) X kd_0 fc8 (k := 5) (by decide) rfl wd_308 rfl (by decide) dX9_digest_16 ?_
        refine g_iload_n X dX9_digest_19 rfl rfl ?_
        refine g_iald X kd_15 (by omega) (by omega) dX9_digest_20 ?_
        have hv := w4.2 i hi (by omega)
        refine g_teq (b := M 122 i) (by exact (hV.pr hi (by omega)).1) ?_
        refine g_i2l X dX9_digest_21 ⟨by omega, by omega⟩ ?_
        refine g_callSJ X (c_X9_mixed lL tT dD al _ _ _ ) lk_RX9_297 rfl rfl ⟨by decide, by decide⟩ rfl (Nat.le_of_ble_eq_true rfl) dX9_digest_22 (fun r22 M22 hc22 => ?_)
        obtain ⟨hr22, hm22⟩ := hc22
        subst r22
        subst M22
        refine g_aload_n X dX9_digest_25 rfl rfl ?_
        refine g_getr (r := 16) X kd_0 fc8 (k := 6) (by decide) rfl wd_309 rfl (by decide) dX9_digest_26 ?_
        refine g_iload_n X dX9_digest_29 rfl rfl ?_
        refine g_iald X kd_16 (by omega) (by omega) dX9_digest_30 ?_
        refine g_teq (b := M 123 i) (by exact (hV.pr hi (by omega)).2) ?_
        refine g_i2l X dX9_digest_31 ⟨by omega, by omega⟩ ?_
        refine g_callSJ X (c_X9_mixed lL tT dD al _ _ _ ) lk_RX9_297 rfl rfl ⟨by decide, by decide⟩ rfl (Nat.le_of_ble_eq_true rfl) dX9_digest_32 (fun r32 M32 hc32 => ?_)
        obtain ⟨hr32, hm32⟩ := hc32
        subst r32
        subst M32
        refine g_lstore_n_1 X dX9_digest_35 rfl rfl (fun v1_35 ev1_35 => ?_)
        subst v1_35
        refine g_iinc_3 X dX9_digest_36 trivial (fun v3_36 ev3_36 => ?_)
        subst v3_36
        refine g_goto (tgt := 6) X dX9_digest_39 (by decide) ?_
        exact g_sub (ih_6 _ _ (by omega) (by omega) (by rw [itH_s _ _ hi, ← hh]; rfl) (by omega)) ⟨rfl, rfl, rfl, trivial⟩
  exact g_sub (L_6 _ _ _ (by omega) (by omega) (rfl) (Nat.lt_succ_self _)) ⟨rfl, rfl, rfl, trivial⟩
