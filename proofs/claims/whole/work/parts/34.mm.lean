set_option maxRecDepth 100000 in
set_option maxHeartbeats 4000000 in
theorem c_X10_hangs (lL : Launch) (tT : TT) (dD : va_G) (al : Int → Nat) (M : Mem) (m w : Int) (hW : WV M) (hD : WDone M) (im : i32 m) (iw : i32 w) : CI lL yX10_hangs cX10_hangs 10 FieldType.int 5 117 tT dD al [.ref (al 114), .int (iN m), .int (iN w)] M (fun r M' => r = (if 0 ≤ m ∧ m < M 114 15 then (if 0 ≤ w ∧ w ≤ 9 then (if M 114 39 = 30 then -103 else (hgS M m w (M 114 23).toNat).1) else -102) else -101) ∧ (if (0 ≤ m ∧ m < M 114 15) ∧ (0 ≤ w ∧ w ≤ 9) ∧ M 114 39 ≠ 30 then SM (mu M 114 39 (M 114 39 + 1)) M' else M' = M)) := by
  refine CI.of (own := "RedSkiesModel") (ls0 := [some (.ref (al 114)), some (.int (iN m)), some (.int (iN w)), none, none, none, none, none, none, none]) (by decide +kernel) rfl (Nat.le_of_ble_eq_true rfl) rfl ?_
  intro pP eE sS mI aA bB mM cC X hr hlk
  obtain ⟨Q, hQ⟩ : ∃ Q : State → Prop, Q = MQ bB (QI tT dD al (fun r M' => r = (if 0 ≤ m ∧ m < M 114 15 then (if 0 ≤ w ∧ w ≤ 9 then (if M 114 39 = 30 then -103 else (hgS M m w (M 114 23).toNat).1) else -102) else -101) ∧ (if (0 ≤ m ∧ m < M 114 15) ∧ (0 ≤ w ∧ w ≤ 9) ∧ M 114 39 ≠ 30 then SM (mu M 114 39 (M 114 39 + 1)) M' else M' = M))) aA sS 0 0 (fA al) := ⟨_, rfl⟩
  rw [← hQ]
  have w1 := hW.mea
  have w2 := hW.n
  have w3 : 0 ≤ M 114 39 ∧ M 114 39 ≤ 30 := hD
  refine g_aload_n X dX10_hangs_0 rfl rfl ?_
  refine g_iload_n X dX10_hangs_1 rfl rfl ?_
  refine g_callVI X (c_X10_isMeasure lL tT dD al _ _ im ⟨by omega, by omega⟩) kd_114 fc9 lk_RX10_215 rfl rfl ⟨by decide, by decide⟩ rfl (Nat.le_of_ble_eq_true rfl) dX10_hangs_2 (fun r2 M2 hc2 => ?_)
  obtain ⟨hr2, hm2⟩ := hc2
  subst r2
  subst M2
  refine g_if_ne (tgt := 11) X dX10_hangs_5 (by decide) (b2i_i32 _) (fun q5 => ?_) (fun q5 => ?_)
  · have q5 := b2i_t q5
    refine g_iload_n X dX10_hangs_11 rfl rfl ?_
    refine g_callSI X (c_X10_isWindow lL tT dD al _ _ iw) lk_RX10_235 rfl rfl ⟨by decide, by decide⟩ rfl (Nat.le_of_ble_eq_true rfl) dX10_hangs_12 (fun r12 M12 hc12 => ?_)
    obtain ⟨hr12, hm12⟩ := hc12
    subst r12
    subst M12
    refine g_if_ne (tgt := 21) X dX10_hangs_15 (by decide) (b2i_i32 _) (fun q15 => ?_) (fun q15 => ?_)
    · have q15 := b2i_t q15
      refine g_aload_n X dX10_hangs_21 rfl rfl ?_
      refine g_geti (kz := 39) X kd_114 fc9 (k := 39) (by decide) rfl wd_866 rfl dX10_hangs_22 ?_
      refine g_bipush X dX10_hangs_25 (by decide +kernel) ?_
      refine g_icmp_ne (tgt := 33) X dX10_hangs_27 (by decide) ⟨by omega, by omega⟩ (by decide) (fun q27 => ?_) (fun q27 => ?_)
      · refine g_aload_n X dX10_hangs_33 rfl rfl ?_
        refine g_dup X dX10_hangs_34 rfl ?_
        refine g_geti (kz := 39) X kd_114 fc9 (k := 39) (by decide) rfl wd_866 rfl dX10_hangs_35 ?_
        refine g_iconst X dX10_hangs_38 ?_
        refine g_iadd X dX10_hangs_39 ?_
        refine g_puti (kz := 39) X kd_114 fc9 (k := 39) (by decide) rfl wd_866 rfl rfl rfl dX10_hangs_40 ?_
        have hN : DN M (mu M 114 39 (M 114 39 + 1)) := DN.of M _
        have hWd : WV (mu M 114 39 (M 114 39 + 1)) := hN.WV hW
        refine g_iconst X dX10_hangs_43 ?_
        refine g_istore_n_3 X dX10_hangs_44 rfl rfl (fun v3_44 ev3_44 => ?_)
        subst v3_44
        refine g_lconst X (v := 0) dX10_hangs_45 (by decide +kernel) ?_
        refine g_lstore_4 X dX10_hangs_46 rfl (fun v4_46 ev4_46 => ?_)
        subst v4_46
        refine g_lconst X (v := 1) dX10_hangs_48 (by decide +kernel) ?_
        refine g_lstore_6 X dX10_hangs_49 trivial (fun v6_49 ev6_49 => ?_)
        subst v6_49
        refine g_iconst X dX10_hangs_51 ?_
        refine g_istore_8 X dX10_hangs_52 trivial (fun v8_52 ev8_52 => ?_)
        subst v8_52
        have L_54 : ∀ (n : Nat) (best : Int) (a : Int) (b : Int) (q : Int) (M1 : Mem), (0 ≤ q) → (q ≤ M 114 23) → (-1 ≤ best ∧ best ≤ 15) → (0 ≤ a ∧ a ≤ 33619968) → (1 ≤ b ∧ b ≤ 33619968) → (hgS M m w q.toNat = (best, a, b)) → (SM (mu M 114 39 (M 114 39 + 1)) M1) → (16 - q).toNat < n → Gd pP lL eE (rmN 5 117) sS mI aA bB mM cC 0 0 Q tT dD al (fA al) 54 [some (.ref (al 114)), some (.int (iN m)), some (.int (iN w)), some (.int (iN best)), some (.long (jN a)), none, some (.long (jN b)), none, some (.int (iN q)), none] [] M1 := by
          intro n
          induction n with
          | zero => intro best a b q M1 hq hq2 hbest ha hb hh hS hm; exact absurd hm (Nat.not_lt_zero _)
          | succ n ih =>
            intro best a b q M1 hq hq2 hbest ha hb hh hS hm
            have r23 := hS.fld (k := 23) (by omega)
            rw [hN.fld (k := 23) (by omega)] at r23
            have r15 := hS.fld (k := 15) (by omega)
            rw [hN.fld (k := 15) (by omega)] at r15
            have r1 : M1 124 (6 * q) = M 124 (6 * q) := by rw [hS.row (o := 124) (by omega), hN.row (o := 124) (by omega)]
            have ih_54 := ih
            clear ih
            refine g_iload X dX10_hangs_54 rfl ?_
            refine g_aload_n X dX10_hangs_56 rfl rfl ?_
            refine g_geti (kz := 23) X kd_114 fc9 (k := 23) (by decide) rfl wd_850 rfl dX10_hangs_57 ?_
            refine g_icmp_ge (tgt := 164) X dX10_hangs_60 (by decide) ⟨by omega, by omega⟩ ⟨by omega, by omega⟩ (fun q60 => ?_) (fun q60 => ?_)
            · refine g_iload_n X dX10_hangs_164 rfl rfl ?_
              rw [hQ]
              refine g_iret X hr hlk dX10_hangs_165 ?_
              clear X hr hlk hQ ih_54
              obtain rfl : q = M 114 23 := by omega
              refine ⟨by rw [hh]; grind, ?_⟩
              rw [if_pos (by grind)]; exact hS
            · refine g_aload_n X dX10_hangs_63 rfl rfl ?_
              refine g_iload X dX10_hangs_64 rfl ?_
              refine g_callVI X (c_X10_isCounted lL tT dD al _ _ (hS.WV hWd) hq (by omega)) kd_114 fc9 lk_RX10_228 rfl rfl ⟨by decide, by decide⟩ rfl (Nat.le_of_ble_eq_true rfl) dX10_hangs_66 (fun r66 M66 hc66 => ?_)
              obtain ⟨hr66, hm66⟩ := hc66
              subst r66
              subst M66
              refine g_if_eq (tgt := 158) X dX10_hangs_69 (by decide) (b2i_i32 _) (fun q69 => ?_) (fun q69 => ?_)
              · have q69 := b2i_f q69
                refine g_iinc_8 X dX10_hangs_158 trivial (fun v8_158 ev8_158 => ?_)
                subst v8_158
                refine g_goto (tgt := 54) X dX10_hangs_161 (by decide) ?_
                exact g_sub (ih_54 _ _ _ _ _ (by omega) (by omega) (by first | exact hbest | omega) (by first | exact ha | exact ⟨by omega, by omega⟩) (by first | exact hb | exact ⟨by omega, rg.2.2⟩) (by rw [hgS_s M m w hq, hh]; show (if M 124 (6 * q) ≠ 3 ∧ (best = -1 ∨ a * lowV M m w q < upV M m w q * b) then (q, upV M m w q, lowV M m w q) else (best, a, b)) = _; first | rw [if_pos (by omega)] | rw [if_neg (by omega)]) (by first | exact hS | exact hS2) (by omega)) ⟨rfl, rfl, rfl, rfl, rfl, rfl, rfl, trivial⟩
              · have q69 := b2i_t q69
                refine g_aload_n X dX10_hangs_72 rfl rfl ?_
                refine g_iload_n X dX10_hangs_73 rfl rfl ?_
                refine g_iload_n X dX10_hangs_74 rfl rfl ?_
                refine g_iload X dX10_hangs_75 rfl ?_
                refine g_callVV X (c_X10_look lL tT dD al _ _ _ _ (hS.WV hWd) (by omega) (by omega) (by omega) ⟨by omega, by omega⟩) kd_114 fc9 lk_RX10_262 rfl rfl ⟨by decide, by decide⟩ rfl (Nat.le_of_ble_eq_true rfl) dX10_hangs_77 (fun M77 hc77 => ?_)
                refine g_aload_n X dX10_hangs_80 rfl rfl ?_
                refine g_callVV X (c_X10_layOdds lL tT dD al _  hc77.2.2.1) kd_114 fc9 lk_RX10_293 rfl rfl ⟨by decide, by decide⟩ rfl (Nat.le_of_ble_eq_true rfl) dX10_hangs_81 (fun M81 hc81 => ?_)
                obtain ⟨hS2, el, eu, rg⟩ := odds_ok hWd hS hc77 hc81
                rw [hN.e_lowV] at el rg
                rw [hN.e_upV] at eu rg
                have mu1 := mulr (x := upV M m w q) (y := b) (by omega) (by omega)
                have mu2 := mulr (x := a) (y := lowV M m w q) (by omega) (by omega)
                refine g_iload_n X dX10_hangs_84 rfl rfl ?_
                refine g_iconst X dX10_hangs_85 ?_
                refine g_icmp_eq (tgt := 107) X dX10_hangs_86 (by decide) ⟨by omega, by omega⟩ (by decide) (fun q86 => ?_) (fun q86 => ?_)
                · refine g_iconst X dX10_hangs_107 ?_
                  refine g_goto (tgt := 112) X dX10_hangs_108 (by decide) ?_
                  refine g_istore_9 X dX10_hangs_112 rfl (fun v9_112 ev9_112 => ?_)
                  subst v9_112
                  refine g_iload X dX10_hangs_114 rfl ?_
                  refine g_if_eq (tgt := 124) X dX10_hangs_116 (by decide) (by decide) (fun q => absurd q (by decide)) (fun _ => ?_)
                  refine g_iload X dX10_hangs_119 rfl ?_
                  refine g_goto (tgt := 125) X dX10_hangs_121 (by decide) ?_
                  refine g_istore_n_3 X dX10_hangs_125 rfl rfl (fun v3_125 ev3_125 => ?_)
                  subst v3_125
                  refine g_iload X dX10_hangs_126 rfl ?_
                  refine g_if_eq (tgt := 138) X dX10_hangs_128 (by decide) (by decide) (fun q => absurd q (by decide)) (fun _ => ?_)
                  refine g_aload_n X dX10_hangs_131 rfl rfl ?_
                  refine g_getl (kz := 37) X kd_114 fc9 (k := 37) (by decide) rfl wd_864 rfl dX10_hangs_132 ?_
                  refine g_teql (b := upV M m w q) (by exact eu) ?_
                  refine g_goto (tgt := 140) X dX10_hangs_135 (by decide) ?_
                  refine g_lstore_4 X dX10_hangs_140 rfl (fun v4_140 ev4_140 => ?_)
                  subst v4_140
                  refine g_iload X dX10_hangs_142 rfl ?_
                  refine g_if_eq (tgt := 154) X dX10_hangs_144 (by decide) (by decide) (fun q => absurd q (by decide)) (fun _ => ?_)
                  refine g_aload_n X dX10_hangs_147 rfl rfl ?_
                  refine g_getl (kz := 38) X kd_114 fc9 (k := 38) (by decide) rfl wd_865 rfl dX10_hangs_148 ?_
                  refine g_teql (b := lowV M m w q) (by exact el) ?_
                  refine g_goto (tgt := 156) X dX10_hangs_151 (by decide) ?_
                  refine g_lstore_6 X dX10_hangs_156 trivial (fun v6_156 ev6_156 => ?_)
                  subst v6_156
                  refine g_iinc_8 X dX10_hangs_158 trivial (fun v8_158 ev8_158 => ?_)
                  subst v8_158
                  refine g_goto (tgt := 54) X dX10_hangs_161 (by decide) ?_
                  exact g_sub (ih_54 _ _ _ _ _ (by omega) (by omega) (by first | exact hbest | omega) (by first | exact ha | exact ⟨by omega, by omega⟩) (by first | exact hb | exact ⟨by omega, rg.2.2⟩) (by rw [hgS_s M m w hq, hh]; show (if M 124 (6 * q) ≠ 3 ∧ (best = -1 ∨ a * lowV M m w q < upV M m w q * b) then (q, upV M m w q, lowV M m w q) else (best, a, b)) = _; first | rw [if_pos (by omega)] | rw [if_neg (by omega)]) (by first | exact hS | exact hS2) (by omega)) ⟨rfl, rfl, rfl, rfl, rfl, rfl, rfl, trivial⟩
                · refine g_aload_n X dX10_hangs_89 rfl rfl ?_
                  refine g_getl (kz := 37) X kd_114 fc9 (k := 37) (by decide) rfl wd_864 rfl dX10_hangs_90 ?_
                  refine g_teql (b := upV M m w q) (by exact eu) ?_
                  refine g_lload X dX10_hangs_93 rfl ?_
                  refine g_lmul X dX10_hangs_95 ?_
                  refine g_lload X dX10_hangs_96 rfl ?_
                  refine g_aload_n X dX10_hangs_98 rfl rfl ?_
                  refine g_getl (kz := 38) X kd_114 fc9 (k := 38) (by decide) rfl wd_865 rfl dX10_hangs_99 ?_
                  refine g_teql (b := lowV M m w q) (by exact el) ?_
                  refine g_lmul X dX10_hangs_102 ?_
                  refine g_lcmp_le (tgt := 111) X dX10_hangs_103 dX10_hangs_104 (by decide) ⟨by omega, by omega⟩ ⟨by omega, by omega⟩ (fun q103 => ?_) (fun q103 => ?_)
                  · refine g_iconst X dX10_hangs_111 ?_
                    refine g_istore_9 X dX10_hangs_112 rfl (fun v9_112 ev9_112 => ?_)
                    subst v9_112
                    refine g_iload X dX10_hangs_114 rfl ?_
                    refine g_if_eq (tgt := 124) X dX10_hangs_116 (by decide) (by decide) (fun _ => ?_) (fun q => absurd q (by decide))
                    refine g_iload_n X dX10_hangs_124 rfl rfl ?_
                    refine g_istore_n_3 X dX10_hangs_125 rfl rfl (fun v3_125 ev3_125 => ?_)
                    subst v3_125
                    refine g_iload X dX10_hangs_126 rfl ?_
                    refine g_if_eq (tgt := 138) X dX10_hangs_128 (by decide) (by decide) (fun _ => ?_) (fun q => absurd q (by decide))
                    refine g_lload X dX10_hangs_138 rfl ?_
                    refine g_lstore_4 X dX10_hangs_140 rfl (fun v4_140 ev4_140 => ?_)
                    subst v4_140
                    refine g_iload X dX10_hangs_142 rfl ?_
                    refine g_if_eq (tgt := 154) X dX10_hangs_144 (by decide) (by decide) (fun _ => ?_) (fun q => absurd q (by decide))
                    refine g_lload X dX10_hangs_154 rfl ?_
                    refine g_lstore_6 X dX10_hangs_156 trivial (fun v6_156 ev6_156 => ?_)
                    subst v6_156
                    refine g_iinc_8 X dX10_hangs_158 trivial (fun v8_158 ev8_158 => ?_)
                    subst v8_158
                    refine g_goto (tgt := 54) X dX10_hangs_161 (by decide) ?_
                    exact g_sub (ih_54 _ _ _ _ _ (by omega) (by omega) (by first | exact hbest | omega) (by first | exact ha | exact ⟨by omega, by omega⟩) (by first | exact hb | exact ⟨by omega, rg.2.2⟩) (by rw [hgS_s M m w hq, hh]; show (if M 124 (6 * q) ≠ 3 ∧ (best = -1 ∨ a * lowV M m w q < upV M m w q * b) then (q, upV M m w q, lowV M m w q) else (best, a, b)) = _; first | rw [if_pos (by omega)] | rw [if_neg (by omega)]) (by first | exact hS | exact hS2) (by omega)) ⟨rfl, rfl, rfl, rfl, rfl, rfl, rfl, trivial⟩
                  · refine g_iconst X dX10_hangs_107 ?_
                    refine g_goto (tgt := 112) X dX10_hangs_108 (by decide) ?_
                    refine g_istore_9 X dX10_hangs_112 rfl (fun v9_112 ev9_112 => ?_)
                    subst v9_112
                    refine g_iload X dX10_hangs_114 rfl ?_
                    refine g_if_eq (tgt := 124) X dX10_hangs_116 (by decide) (by decide) (fun q => absurd q (by decide)) (fun _ => ?_)
                    refine g_iload X dX10_hangs_119 rfl ?_
                    refine g_goto (tgt := 125) X dX10_hangs_121 (by decide) ?_
                    refine g_istore_n_3 X dX10_hangs_125 rfl rfl (fun v3_125 ev3_125 => ?_)
                    subst v3_125
                    refine g_iload X dX10_hangs_126 rfl ?_
                    refine g_if_eq (tgt := 138) X dX10_hangs_128 (by decide) (by decide) (fun q => absurd q (by decide)) (fun _ => ?_)
                    refine g_aload_n X dX10_hangs_131 rfl rfl ?_
                    refine g_getl (kz := 37) X kd_114 fc9 (k := 37) (by decide) rfl wd_864 rfl dX10_hangs_132 ?_
                    refine g_teql (b := upV M m w q) (by exact eu) ?_
                    refine g_goto (tgt := 140) X dX10_hangs_135 (by decide) ?_
                    refine g_lstore_4 X dX10_hangs_140 rfl (fun v4_140 ev4_140 => ?_)
                    subst v4_140
                    refine g_iload X dX10_hangs_142 rfl ?_
                    refine g_if_eq (tgt := 154) X dX10_hangs_144 (by decide) (by decide) (fun q => absurd q (by decide)) (fun _ => ?_)
                    refine g_aload_n X dX10_hangs_147 rfl rfl ?_
                    refine g_getl (kz := 38) X kd_114 fc9 (k := 38) (by decide) rfl wd_865 rfl dX10_hangs_148 ?_
                    refine g_teql (b := lowV M m w q) (by exact el) ?_
                    refine g_goto (tgt := 156) X dX10_hangs_151 (by decide) ?_
                    refine g_lstore_6 X dX10_hangs_156 trivial (fun v6_156 ev6_156 => ?_)
                    subst v6_156
                    refine g_iinc_8 X dX10_hangs_158 trivial (fun v8_158 ev8_158 => ?_)
                    subst v8_158
                    refine g_goto (tgt := 54) X dX10_hangs_161 (by decide) ?_
                    exact g_sub (ih_54 _ _ _ _ _ (by omega) (by omega) (by first | exact hbest | omega) (by first | exact ha | exact ⟨by omega, by omega⟩) (by first | exact hb | exact ⟨by omega, rg.2.2⟩) (by rw [hgS_s M m w hq, hh]; show (if M 124 (6 * q) ≠ 3 ∧ (best = -1 ∨ a * lowV M m w q < upV M m w q * b) then (q, upV M m w q, lowV M m w q) else (best, a, b)) = _; first | rw [if_pos (by omega)] | rw [if_neg (by omega)]) (by first | exact hS | exact hS2) (by omega)) ⟨rfl, rfl, rfl, rfl, rfl, rfl, rfl, trivial⟩
        exact g_sub (L_54 _ _ _ _ _ _ (by omega) (by omega) (by omega) (by omega) (by omega) (by rfl) (SM.rfl' _) (Nat.lt_succ_self _)) ⟨rfl, rfl, rfl, rfl, rfl, rfl, rfl, trivial⟩
      · refine g_bipush X dX10_hangs_30 (by decide +kernel) ?_
        rw [hQ]
        refine g_iret X hr hlk dX10_hangs_32 ?_
        clear X hr hlk hQ
        refine ⟨by grind, ?_⟩
        rw [if_neg (by grind)]
    · have q15 := b2i_f q15
      refine g_bipush X dX10_hangs_18 (by decide +kernel) ?_
      rw [hQ]
      refine g_iret X hr hlk dX10_hangs_20 ?_
      clear X hr hlk hQ
      refine ⟨by grind, ?_⟩
      rw [if_neg (by grind)]
  · have q5 := b2i_f q5
    refine g_bipush X dX10_hangs_8 (by decide +kernel) ?_
    rw [hQ]
    refine g_iret X hr hlk dX10_hangs_10 ?_
    clear X hr hlk hQ
    refine ⟨by grind, ?_⟩
    rw [if_neg (by grind)]
set_option maxRecDepth 100000 in
set_option maxHeartbeats 4000000 in
theorem c_X10_next (lL : Launch) (tT : TT) (dD : va_G) (al : Int → Nat) (M : Mem) (m w : Int) (hW : WV M) (hD : WDone M) (im : i32 m) (iw : i32 w) : CI lL yX10_next cX10_next 12 FieldType.int 5 117 tT dD al [.ref (al 114), .int (iN m), .int (iN w)] M (fun r M' => r = (if 0 ≤ m ∧ m < M 114 15 then (if 0 ≤ w ∧ w ≤ 9 then (if M 114 39 = 30 then -103 else (nvV M m w).1) else -102) else -101) ∧ (if (0 ≤ m ∧ m < M 114 15) ∧ (0 ≤ w ∧ w ≤ 9) ∧ M 114 39 ≠ 30 then SM (mu M 114 39 (M 114 39 + 1)) M' else M' = M)) := by
  refine CI.of (own := "RedSkiesModel") (ls0 := [some (.ref (al 114)), some (.int (iN m)), some (.int (iN w)), none, none, none, none, none, none, none, none, none]) (by decide +kernel) rfl (Nat.le_of_ble_eq_true rfl) rfl ?_
  intro pP eE sS mI aA bB mM cC X hr hlk
  obtain ⟨Q, hQ⟩ : ∃ Q : State → Prop, Q = MQ bB (QI tT dD al (fun r M' => r = (if 0 ≤ m ∧ m < M 114 15 then (if 0 ≤ w ∧ w ≤ 9 then (if M 114 39 = 30 then -103 else (nvV M m w).1) else -102) else -101) ∧ (if (0 ≤ m ∧ m < M 114 15) ∧ (0 ≤ w ∧ w ≤ 9) ∧ M 114 39 ≠ 30 then SM (mu M 114 39 (M 114 39 + 1)) M' else M' = M))) aA sS 0 0 (fA al) := ⟨_, rfl⟩
  rw [← hQ]
  have w1 := hW.mea
  have w2 := hW.n
  have w3 : 0 ≤ M 114 39 ∧ M 114 39 ≤ 30 := hD
  refine g_aload_n X dX10_next_0 rfl rfl ?_
  refine g_iload_n X dX10_next_1 rfl rfl ?_
  refine g_callVI X (c_X10_isMeasure lL tT dD al _ _ im ⟨by omega, by omega⟩) kd_114 fc9 lk_RX10_215 rfl rfl ⟨by decide, by decide⟩ rfl (Nat.le_of_ble_eq_true rfl) dX10_next_2 (fun r2 M2 hc2 => ?_)
  obtain ⟨hr2, hm2⟩ := hc2
  subst r2
  subst M2
  refine g_if_ne (tgt := 11) X dX10_next_5 (by decide) (b2i_i32 _) (fun q5 => ?_) (fun q5 => ?_)
  · have q5 := b2i_t q5
    refine g_iload_n X dX10_next_11 rfl rfl ?_
    refine g_callSI X (c_X10_isWindow lL tT dD al _ _ iw) lk_RX10_235 rfl rfl ⟨by decide, by decide⟩ rfl (Nat.le_of_ble_eq_true rfl) dX10_next_12 (fun r12 M12 hc12 => ?_)
    obtain ⟨hr12, hm12⟩ := hc12
    subst r12
    subst M12
    refine g_if_ne (tgt := 21) X dX10_next_15 (by decide) (b2i_i32 _) (fun q15 => ?_) (fun q15 => ?_)
    · have q15 := b2i_t q15
      refine g_aload_n X dX10_next_21 rfl rfl ?_
      refine g_geti (kz := 39) X kd_114 fc9 (k := 39) (by decide) rfl wd_866 rfl dX10_next_22 ?_
      refine g_bipush X dX10_next_25 (by decide +kernel) ?_
      refine g_icmp_ne (tgt := 33) X dX10_next_27 (by decide) ⟨by omega, by omega⟩ (by decide) (fun q27 => ?_) (fun q27 => ?_)
      · refine g_aload_n X dX10_next_33 rfl rfl ?_
        refine g_dup X dX10_next_34 rfl ?_
        refine g_geti (kz := 39) X kd_114 fc9 (k := 39) (by decide) rfl wd_866 rfl dX10_next_35 ?_
        refine g_iconst X dX10_next_38 ?_
        refine g_iadd X dX10_next_39 ?_
        refine g_puti (kz := 39) X kd_114 fc9 (k := 39) (by decide) rfl wd_866 rfl rfl rfl dX10_next_40 ?_
        have hN : DN M (mu M 114 39 (M 114 39 + 1)) := DN.of M _
        have hWd : WV (mu M 114 39 (M 114 39 + 1)) := hN.WV hW
        have f15 : (mu M 114 39 (M 114 39 + 1)) 114 15 = M 114 15 := hN.fld (by omega)
        refine g_iconst X dX10_next_43 ?_
        refine g_istore_n_3 X dX10_next_44 rfl rfl (fun v3_44 ev3_44 => ?_)
        subst v3_44
        refine g_ldc2 X (n := (-1)) wd_1064 (by decide +kernel) dX10_next_45 ?_
        refine g_lstore_4 X dX10_next_48 rfl (fun v4_48 ev4_48 => ?_)
        subst v4_48
        refine g_aload_n X dX10_next_50 rfl rfl ?_
        refine g_iload_n X dX10_next_51 rfl rfl ?_
        refine g_iload_n X dX10_next_52 rfl rfl ?_
        refine g_iconst X dX10_next_53 ?_
        refine g_callVV X (c_X10_look lL tT dD al _ _ _ _ hWd (by omega) (by omega) (by omega) (by decide)) kd_114 fc9 lk_RX10_262 rfl rfl ⟨by decide, by decide⟩ rfl (Nat.le_of_ble_eq_true rfl) dX10_next_54 (fun M54 hc54 => ?_)
        have hL0 : LK M54 := hc54.2.2.1
        have w6 := hL0.1
        refine g_iconst X dX10_next_57 ?_
        refine g_istore_6 X dX10_next_58 trivial (fun v6_58 ev6_58 => ?_)
        subst v6_58
        have L_60 : ∀ (n : Nat) (best : Int) (mx : Int) (i : Int) (M1 : Mem), (0 ≤ i) → (i ≤ M54 114 29) → (-1 ≤ best ∧ best ≤ 15) → (-1 ≤ mx ∧ mx ≤ 33619968) → (nxR M54 i.toNat = (best, mx)) → (OT M54 M1) → (16 - i).toNat < n → Gd pP lL eE (rmN 5 117) sS mI aA bB mM cC 0 0 Q tT dD al (fA al) 60 [some (.ref (al 114)), none, none, some (.int (iN best)), some (.long (jN mx)), none, some (.int (iN i)), none, none, none, none, none] [] M1 := by
          intro n
          induction n with
          | zero => intro best mx i M1 hi hi2 hbest hmx hh hO hm; exact absurd hm (Nat.not_lt_zero _)
          | succ n ih =>
            intro best mx i M1 hi hi2 hbest hmx hh hO hm
            have r29 := hO.fld (k := 29) (by omega)
            have r128 : M1 128 i = M54 128 i := by rw [hO.row (o := 128) (by omega)]
            have ih_60 := ih
            clear ih
            refine g_iload X dX10_next_60 rfl ?_
            refine g_aload_n X dX10_next_62 rfl rfl ?_
            refine g_geti (kz := 29) X kd_114 fc9 (k := 29) (by decide) rfl wd_856 rfl dX10_next_63 ?_
            refine g_icmp_ge (tgt := 191) X dX10_next_66 (by decide) ⟨by omega, by omega⟩ ⟨by omega, by omega⟩ (fun q66 => ?_) (fun q66 => ?_)
            · refine g_iload_n X dX10_next_191 rfl rfl ?_
              rw [hQ]
              refine g_iret X hr hlk dX10_next_192 ?_
              clear X hr hlk hQ ih_60
              obtain rfl : i = M54 114 29 := by omega
              have e := LkU.nx hWd hc54.2
              rw [hN.e_nvV, hh] at e
              refine ⟨by rw [← e]; grind, ?_⟩
              rw [if_pos (by grind)]; exact hc54.1.trans hO.sm
            · refine g_aload_n X dX10_next_69 rfl rfl ?_
              refine g_getr (r := 128) X kd_114 fc9 (k := 31) (by decide) rfl wd_858 rfl (by decide) dX10_next_70 ?_
              refine g_iload X dX10_next_73 rfl ?_
              refine g_iald X kd_128 (by omega) (by omega) dX10_next_75 ?_
              refine g_teq (b := M54 128 i) (by exact r128) ?_
              refine g_istore_7 X dX10_next_76 rfl (fun v7_76 ev7_76 => ?_)
              subst v7_76
              refine g_aload_n X dX10_next_78 rfl rfl ?_
              refine g_getr (r := 128) X kd_114 fc9 (k := 31) (by decide) rfl wd_858 rfl (by decide) dX10_next_79 ?_
              refine g_iload X dX10_next_82 rfl ?_
              refine g_iconst X dX10_next_84 ?_
              refine g_iast X kd_128 (by omega) (by omega) dX10_next_85 ?_
              refine g_aload_n X dX10_next_86 rfl rfl ?_
              refine g_callVV X (c_X10_layOdds lL tT dD al _  (LK.put (hO.e_LK hL0) i (-1) (by decide))) kd_114 fc9 lk_RX10_293 rfl rfl ⟨by decide, by decide⟩ rfl (Nat.le_of_ble_eq_true rfl) dX10_next_87 (fun M87 hc87 => ?_)
              have hL87 : LK M87 := hc87.1.e_LK (LK.put (hO.e_LK hL0) i (-1) (by decide))
              refine g_aload_n X dX10_next_90 rfl rfl ?_
              refine g_getl (kz := 37) X kd_114 fc9 (k := 37) (by decide) rfl wd_864 rfl dX10_next_91 ?_
              refine g_teql (b := upM (mu M54 128 i (-1))) (by rw [hc87.2.2]; exact ot_up hO i (-1) rfl) ?_
              refine g_lstore_8 X dX10_next_94 rfl (fun v8_94 ev8_94 => ?_)
              subst v8_94
              refine g_aload_n X dX10_next_96 rfl rfl ?_
              refine g_getr (r := 128) X kd_114 fc9 (k := 31) (by decide) rfl wd_858 rfl (by decide) dX10_next_97 ?_
              refine g_iload X dX10_next_100 rfl ?_
              refine g_ldcw X (n := 1000000) wd_1209 (by decide +kernel) dX10_next_102 ?_
              refine g_iast X kd_128 (by omega) (by omega) dX10_next_105 ?_
              refine g_aload_n X dX10_next_106 rfl rfl ?_
              refine g_callVV X (c_X10_layOdds lL tT dD al _  (LK.put hL87 i 1000000 (by decide))) kd_114 fc9 lk_RX10_293 rfl rfl ⟨by decide, by decide⟩ rfl (Nat.le_of_ble_eq_true rfl) dX10_next_107 (fun M107 hc107 => ?_)
              have hF := ot_back hO hc87.1 hc107.1
              have h130 : M107 130 i = M54 130 i := by have z := hF 130 i (by omega); rw [mu_o _ _ _ (by decide)] at z; exact z
              have w8 := hL0.2 i hi (by omega)
              have hA := upM_rng (LK.put hL0 i (-1) (by decide))
              have hB := upM_rng (LK.put hL0 i 1000000 (by decide))
              refine g_lload X dX10_next_110 rfl ?_
              refine g_aload_n X dX10_next_112 rfl rfl ?_
              refine g_getl (kz := 37) X kd_114 fc9 (k := 37) (by decide) rfl wd_864 rfl dX10_next_113 ?_
              refine g_teql (b := upM (mu M54 128 i 1000000)) (by rw [hc107.2.2]; exact ot_up2 hO hc87.1 1000000) ?_
              refine g_lcmp_le (tgt := 130) X dX10_next_116 dX10_next_117 (by decide) ⟨by omega, by omega⟩ ⟨by omega, by omega⟩ (fun q116 => ?_) (fun q116 => ?_)
              · have hd : nxU M54 i = upM (mu M54 128 i 1000000) - upM (mu M54 128 i (-1)) := by unfold nxU dif; rw [if_neg (by omega)]
                refine g_aload_n X dX10_next_130 rfl rfl ?_
                refine g_getl (kz := 37) X kd_114 fc9 (k := 37) (by decide) rfl wd_864 rfl dX10_next_131 ?_
                refine g_teql (b := upM (mu M54 128 i 1000000)) (by rw [hc107.2.2]; exact ot_up2 hO hc87.1 1000000) ?_
                refine g_lload X dX10_next_134 rfl ?_
                refine g_lsub X dX10_next_136 ?_
                refine g_lstore_10 X dX10_next_137 trivial (fun v10_137 ev10_137 => ?_)
                subst v10_137
                refine g_aload_n X dX10_next_139 rfl rfl ?_
                refine g_getr (r := 128) X kd_114 fc9 (k := 31) (by decide) rfl wd_858 rfl (by decide) dX10_next_140 ?_
                refine g_iload X dX10_next_143 rfl ?_
                refine g_iload X dX10_next_145 rfl ?_
                refine g_iast X kd_128 (by omega) (by omega) dX10_next_147 ?_
                refine g_lload X dX10_next_148 rfl ?_
                refine g_lload X dX10_next_150 rfl ?_
                refine g_lcmp_le (tgt := 166) X dX10_next_152 dX10_next_153 (by decide) ⟨by omega, by omega⟩ ⟨by omega, by omega⟩ (fun q152 => ?_) (fun q152 => ?_)
                · refine g_iload_n X dX10_next_166 rfl rfl ?_
                  refine g_istore_n_3 X dX10_next_167 rfl trivial (fun v3_167 ev3_167 => ?_)
                  subst v3_167
                  refine g_lload X dX10_next_168 rfl ?_
                  refine g_lload X dX10_next_170 rfl ?_
                  refine g_lcmp_le (tgt := 181) X dX10_next_172 dX10_next_173 (by decide) ⟨by omega, by omega⟩ ⟨by omega, by omega⟩ (fun q172 => ?_) (fun q172 => ?_)
                  · refine g_lload X dX10_next_181 rfl ?_
                    refine g_lstore_4 X dX10_next_183 rfl (fun v4_183 ev4_183 => ?_)
                    subst v4_183
                    refine g_iinc_6 X dX10_next_185 trivial (fun v6_185 ev6_185 => ?_)
                    subst v6_185
                    refine g_goto (tgt := 60) X dX10_next_188 (by decide) ?_
                    exact g_sub (ih_60 _ _ _ _ (by omega) (by omega) (by omega) (by omega) (by rw [nxR_s _ hi, hh]; show (if mx < nxU M54 i then (M54 130 i, nxU M54 i) else (best, mx)) = _; rw [hd]; first | (exfalso; omega) | rw [if_pos (by omega)] | rw [if_neg (by omega)]) (hF) (by omega)) ⟨rfl, rfl, rfl, rfl, trivial⟩
                  · refine g_lload X dX10_next_176 rfl ?_
                    refine g_goto (tgt := 183) X dX10_next_178 (by decide) ?_
                    refine g_lstore_4 X dX10_next_183 rfl (fun v4_183 ev4_183 => ?_)
                    subst v4_183
                    refine g_iinc_6 X dX10_next_185 trivial (fun v6_185 ev6_185 => ?_)
                    subst v6_185
                    refine g_goto (tgt := 60) X dX10_next_188 (by decide) ?_
                    exact g_sub (ih_60 _ _ _ _ (by omega) (by omega) (by omega) (by omega) (by rw [nxR_s _ hi, hh]; show (if mx < nxU M54 i then (M54 130 i, nxU M54 i) else (best, mx)) = _; rw [hd]; first | (exfalso; omega) | rw [if_pos (by omega)] | rw [if_neg (by omega)]) (hF) (by omega)) ⟨rfl, rfl, rfl, rfl, trivial⟩
                · refine g_aload_n X dX10_next_156 rfl rfl ?_
                  refine g_getr (r := 130) X kd_114 fc9 (k := 33) (by decide) rfl wd_860 rfl (by decide) dX10_next_157 ?_
                  refine g_iload X dX10_next_160 rfl ?_
                  refine g_iald X kd_130 (by omega) (by omega) dX10_next_162 ?_
                  refine g_teq (b := (M107 130 i)) (by first | (simp [mu]; done) | (simp only [mu]; repeat (first | rw [if_pos (⟨rfl, rfl⟩)] | rw [if_neg (by omega)]))) ?_
                  refine g_teq (b := M54 130 i) (by exact h130) ?_
                  refine g_goto (tgt := 167) X dX10_next_163 (by decide) ?_
                  refine g_istore_n_3 X dX10_next_167 rfl trivial (fun v3_167 ev3_167 => ?_)
                  subst v3_167
                  refine g_lload X dX10_next_168 rfl ?_
                  refine g_lload X dX10_next_170 rfl ?_
                  refine g_lcmp_le (tgt := 181) X dX10_next_172 dX10_next_173 (by decide) ⟨by omega, by omega⟩ ⟨by omega, by omega⟩ (fun q172 => ?_) (fun q172 => ?_)
                  · refine g_lload X dX10_next_181 rfl ?_
                    refine g_lstore_4 X dX10_next_183 rfl (fun v4_183 ev4_183 => ?_)
                    subst v4_183
                    refine g_iinc_6 X dX10_next_185 trivial (fun v6_185 ev6_185 => ?_)
                    subst v6_185
                    refine g_goto (tgt := 60) X dX10_next_188 (by decide) ?_
                    exact g_sub (ih_60 _ _ _ _ (by omega) (by omega) (by omega) (by omega) (by rw [nxR_s _ hi, hh]; show (if mx < nxU M54 i then (M54 130 i, nxU M54 i) else (best, mx)) = _; rw [hd]; first | (exfalso; omega) | rw [if_pos (by omega)] | rw [if_neg (by omega)]) (hF) (by omega)) ⟨rfl, rfl, rfl, rfl, trivial⟩
                  · refine g_lload X dX10_next_176 rfl ?_
                    refine g_goto (tgt := 183) X dX10_next_178 (by decide) ?_
                    refine g_lstore_4 X dX10_next_183 rfl (fun v4_183 ev4_183 => ?_)
                    subst v4_183
                    refine g_iinc_6 X dX10_next_185 trivial (fun v6_185 ev6_185 => ?_)
                    subst v6_185
                    refine g_goto (tgt := 60) X dX10_next_188 (by decide) ?_
                    exact g_sub (ih_60 _ _ _ _ (by omega) (by omega) (by omega) (by omega) (by rw [nxR_s _ hi, hh]; show (if mx < nxU M54 i then (M54 130 i, nxU M54 i) else (best, mx)) = _; rw [hd]; first | (exfalso; omega) | rw [if_pos (by omega)] | rw [if_neg (by omega)]) (hF) (by omega)) ⟨rfl, rfl, rfl, rfl, trivial⟩
              · have hd : nxU M54 i = upM (mu M54 128 i (-1)) - upM (mu M54 128 i 1000000) := by unfold nxU dif; rw [if_pos (by omega)]
                refine g_lload X dX10_next_120 rfl ?_
                refine g_aload_n X dX10_next_122 rfl rfl ?_
                refine g_getl (kz := 37) X kd_114 fc9 (k := 37) (by decide) rfl wd_864 rfl dX10_next_123 ?_
                refine g_teql (b := upM (mu M54 128 i 1000000)) (by rw [hc107.2.2]; exact ot_up2 hO hc87.1 1000000) ?_
                refine g_lsub X dX10_next_126 ?_
                refine g_goto (tgt := 137) X dX10_next_127 (by decide) ?_
                refine g_lstore_10 X dX10_next_137 trivial (fun v10_137 ev10_137 => ?_)
                subst v10_137
                refine g_aload_n X dX10_next_139 rfl rfl ?_
                refine g_getr (r := 128) X kd_114 fc9 (k := 31) (by decide) rfl wd_858 rfl (by decide) dX10_next_140 ?_
                refine g_iload X dX10_next_143 rfl ?_
                refine g_iload X dX10_next_145 rfl ?_
                refine g_iast X kd_128 (by omega) (by omega) dX10_next_147 ?_
                refine g_lload X dX10_next_148 rfl ?_
                refine g_lload X dX10_next_150 rfl ?_
                refine g_lcmp_le (tgt := 166) X dX10_next_152 dX10_next_153 (by decide) ⟨by omega, by omega⟩ ⟨by omega, by omega⟩ (fun q152 => ?_) (fun q152 => ?_)
                · refine g_iload_n X dX10_next_166 rfl rfl ?_
                  refine g_istore_n_3 X dX10_next_167 rfl trivial (fun v3_167 ev3_167 => ?_)
                  subst v3_167
                  refine g_lload X dX10_next_168 rfl ?_
                  refine g_lload X dX10_next_170 rfl ?_
                  refine g_lcmp_le (tgt := 181) X dX10_next_172 dX10_next_173 (by decide) ⟨by omega, by omega⟩ ⟨by omega, by omega⟩ (fun q172 => ?_) (fun q172 => ?_)
                  · refine g_lload X dX10_next_181 rfl ?_
                    refine g_lstore_4 X dX10_next_183 rfl (fun v4_183 ev4_183 => ?_)
                    subst v4_183
                    refine g_iinc_6 X dX10_next_185 trivial (fun v6_185 ev6_185 => ?_)
                    subst v6_185
                    refine g_goto (tgt := 60) X dX10_next_188 (by decide) ?_
                    exact g_sub (ih_60 _ _ _ _ (by omega) (by omega) (by omega) (by omega) (by rw [nxR_s _ hi, hh]; show (if mx < nxU M54 i then (M54 130 i, nxU M54 i) else (best, mx)) = _; rw [hd]; first | (exfalso; omega) | rw [if_pos (by omega)] | rw [if_neg (by omega)]) (hF) (by omega)) ⟨rfl, rfl, rfl, rfl, trivial⟩
                  · refine g_lload X dX10_next_176 rfl ?_
                    refine g_goto (tgt := 183) X dX10_next_178 (by decide) ?_
                    refine g_lstore_4 X dX10_next_183 rfl (fun v4_183 ev4_183 => ?_)
                    subst v4_183
                    refine g_iinc_6 X dX10_next_185 trivial (fun v6_185 ev6_185 => ?_)
                    subst v6_185
                    refine g_goto (tgt := 60) X dX10_next_188 (by decide) ?_
                    exact g_sub (ih_60 _ _ _ _ (by omega) (by omega) (by omega) (by omega) (by rw [nxR_s _ hi, hh]; show (if mx < nxU M54 i then (M54 130 i, nxU M54 i) else (best, mx)) = _; rw [hd]; first | (exfalso; omega) | rw [if_pos (by omega)] | rw [if_neg (by omega)]) (hF) (by omega)) ⟨rfl, rfl, rfl, rfl, trivial⟩
                · refine g_aload_n X dX10_next_156 rfl rfl ?_
                  refine g_getr (r := 130) X kd_114 fc9 (k := 33) (by decide) rfl wd_860 rfl (by decide) dX10_next_157 ?_
                  refine g_iload X dX10_next_160 rfl ?_
                  refine g_iald X kd_130 (by omega) (by omega) dX10_next_162 ?_
                  refine g_teq (b := (M107 130 i)) (by first | (simp [mu]; done) | (simp only [mu]; repeat (first | rw [if_pos (⟨rfl, rfl⟩)] | rw [if_neg (by omega)]))) ?_
                  refine g_teq (b := M54 130 i) (by exact h130) ?_
                  refine g_goto (tgt := 167) X dX10_next_163 (by decide) ?_
                  refine g_istore_n_3 X dX10_next_167 rfl trivial (fun v3_167 ev3_167 => ?_)
                  subst v3_167
                  refine g_lload X dX10_next_168 rfl ?_
                  refine g_lload X dX10_next_170 rfl ?_
                  refine g_lcmp_le (tgt := 181) X dX10_next_172 dX10_next_173 (by decide) ⟨by omega, by omega⟩ ⟨by omega, by omega⟩ (fun q172 => ?_) (fun q172 => ?_)
                  · refine g_lload X dX10_next_181 rfl ?_
                    refine g_lstore_4 X dX10_next_183 rfl (fun v4_183 ev4_183 => ?_)
                    subst v4_183
                    refine g_iinc_6 X dX10_next_185 trivial (fun v6_185 ev6_185 => ?_)
                    subst v6_185
                    refine g_goto (tgt := 60) X dX10_next_188 (by decide) ?_
                    exact g_sub (ih_60 _ _ _ _ (by omega) (by omega) (by omega) (by omega) (by rw [nxR_s _ hi, hh]; show (if mx < nxU M54 i then (M54 130 i, nxU M54 i) else (best, mx)) = _; rw [hd]; first | (exfalso; omega) | rw [if_pos (by omega)] | rw [if_neg (by omega)]) (hF) (by omega)) ⟨rfl, rfl, rfl, rfl, trivial⟩
                  · refine g_lload X dX10_next_176 rfl ?_
                    refine g_goto (tgt := 183) X dX10_next_178 (by decide) ?_
                    refine g_lstore_4 X dX10_next_183 rfl (fun v4_183 ev4_183 => ?_)
                    subst v4_183
                    refine g_iinc_6 X dX10_next_185 trivial (fun v6_185 ev6_185 => ?_)
                    subst v6_185
                    refine g_goto (tgt := 60) X dX10_next_188 (by decide) ?_
                    exact g_sub (ih_60 _ _ _ _ (by omega) (by omega) (by omega) (by omega) (by rw [nxR_s _ hi, hh]; show (if mx < nxU M54 i then (M54 130 i, nxU M54 i) else (best, mx)) = _; rw [hd]; first | (exfalso; omega) | rw [if_pos (by omega)] | rw [if_neg (by omega)]) (hF) (by omega)) ⟨rfl, rfl, rfl, rfl, trivial⟩
        exact g_sub (L_60 _ _ _ _ _ (by omega) (by omega) (by omega) (by omega) (by rfl) (OT.rf _) (Nat.lt_succ_self _)) ⟨rfl, rfl, rfl, rfl, trivial⟩
      · refine g_bipush X dX10_next_30 (by decide +kernel) ?_
        rw [hQ]
        refine g_iret X hr hlk dX10_next_32 ?_
        clear X hr hlk hQ
        refine ⟨by grind, ?_⟩
        rw [if_neg (by grind)]
    · have q15 := b2i_f q15
      refine g_bipush X dX10_next_18 (by decide +kernel) ?_
      rw [hQ]
      refine g_iret X hr hlk dX10_next_20 ?_
      clear X hr hlk hQ
      refine ⟨by grind, ?_⟩
      rw [if_neg (by grind)]
  · have q5 := b2i_f q5
    refine g_bipush X dX10_next_8 (by decide +kernel) ?_
    rw [hQ]
    refine g_iret X hr hlk dX10_next_10 ?_
    clear X hr hlk hQ
    refine ⟨by grind, ?_⟩
    rw [if_neg (by grind)]
