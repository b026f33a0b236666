set_option maxRecDepth 100000 in
set_option maxHeartbeats 4000000 in
theorem c_X10_stat (lL : Launch) (tT : TT) (dD : va_G) (al : Int → Nat) (M : Mem) (m w : Int) (hW : WV M) (im : i32 m) (iw : i32 w) : CI lL yX10_stat cX10_stat 3 FieldType.int 5 117 tT dD al [.ref (al 114), .int (iN m), .int (iN w)] M (fun r M' => r = (if 0 ≤ m ∧ m < M 114 15 then (if 0 ≤ w ∧ w ≤ 9 then stV M m w (-1) else -1002) else -1001) ∧ SM M M') := by
  refine CI.of (own := "RedSkiesModel") (ls0 := [some (.ref (al 114)), some (.int (iN m)), some (.int (iN w))]) (by decide +kernel) rfl (Nat.le_of_ble_eq_true rfl) rfl ?_
  intro pP eE sS mI aA bB mM cC X hr hlk
  obtain ⟨Q, hQ⟩ : ∃ Q : State → Prop, Q = MQ bB (QI tT dD al (fun r M' => r = (if 0 ≤ m ∧ m < M 114 15 then (if 0 ≤ w ∧ w ≤ 9 then stV M m w (-1) else -1002) else -1001) ∧ SM M M')) aA sS 0 0 (fA al) := ⟨_, rfl⟩
  rw [← hQ]
  have w1 := hW.mea
  refine g_aload_n X dX10_stat_0 rfl rfl ?_
  refine g_iload_n X dX10_stat_1 rfl rfl ?_
  refine g_callVI X (c_X10_isMeasure lL tT dD al _ _ im ⟨by omega, by omega⟩) kd_114 fc9 lk_RX10_215 rfl rfl ⟨by decide, by decide⟩ rfl (Nat.le_of_ble_eq_true rfl) dX10_stat_2 (fun r2 M2 hc2 => ?_)
  obtain ⟨hr2, hm2⟩ := hc2
  subst r2
  subst M2
  refine g_if_ne (tgt := 12) X dX10_stat_5 (by decide) (b2i_i32 _) (fun q5 => ?_) (fun q5 => ?_)
  · have q5 := b2i_t q5
    refine g_iload_n X dX10_stat_12 rfl rfl ?_
    refine g_callSI X (c_X10_isWindow lL tT dD al _ _ iw) lk_RX10_235 rfl rfl ⟨by decide, by decide⟩ rfl (Nat.le_of_ble_eq_true rfl) dX10_stat_13 (fun r13 M13 hc13 => ?_)
    obtain ⟨hr13, hm13⟩ := hc13
    subst r13
    subst M13
    refine g_if_ne (tgt := 23) X dX10_stat_16 (by decide) (b2i_i32 _) (fun q16 => ?_) (fun q16 => ?_)
    · have q16 := b2i_t q16
      refine g_aload_n X dX10_stat_23 rfl rfl ?_
      refine g_iload_n X dX10_stat_24 rfl rfl ?_
      refine g_iload_n X dX10_stat_25 rfl rfl ?_
      refine g_iconst X dX10_stat_26 ?_
      refine g_callVV X (c_X10_look lL tT dD al _ _ _ _ hW (by omega) (by omega) (by omega) (by decide)) kd_114 fc9 lk_RX10_262 rfl rfl ⟨by decide, by decide⟩ rfl (Nat.le_of_ble_eq_true rfl) dX10_stat_27 (fun M27 hc27 => ?_)
      refine g_aload_n X dX10_stat_30 rfl rfl ?_
      refine g_callVI X (c_X10_statNow lL tT dD al _  hc27.2.2.1) kd_114 fc9 lk_RX10_266 rfl rfl ⟨by decide, by decide⟩ rfl (Nat.le_of_ble_eq_true rfl) dX10_stat_31 (fun r31 M31 hc31 => ?_)
      obtain ⟨hr31, hm31⟩ := hc31
      subst r31
      subst M31
      refine g_teq (b := stV M m w (-1)) (by exact (hc27.2.pr hW).st) ?_
      rw [hQ]
      refine g_iret X hr hlk dX10_stat_34 ?_
      clear X hr hlk hQ
      exact ⟨by grind, by first | exact SM.rfl' M | exact hc27.1⟩
    · have q16 := b2i_f q16
      refine g_sipush X dX10_stat_19 (by decide +kernel) ?_
      rw [hQ]
      refine g_iret X hr hlk dX10_stat_22 ?_
      clear X hr hlk hQ
      exact ⟨by grind, by first | exact SM.rfl' M | exact hc27.1⟩
  · have q5 := b2i_f q5
    refine g_sipush X dX10_stat_8 (by decide +kernel) ?_
    rw [hQ]
    refine g_iret X hr hlk dX10_stat_11 ?_
    clear X hr hlk hQ
    exact ⟨by grind, by first | exact SM.rfl' M | exact hc27.1⟩
set_option maxRecDepth 100000 in
set_option maxHeartbeats 4000000 in
theorem c_X10_odds (lL : Launch) (tT : TT) (dD : va_G) (al : Int → Nat) (M : Mem) (m w z : Int) (hW : WV M) (im : i32 m) (iw : i32 w) (iz : i32 z) : CJ lL yX10_odds cX10_odds 4 5 117 tT dD al [.ref (al 114), .int (iN m), .int (iN w), .int (iN z)] M (fun r M' => r = (if 0 ≤ m ∧ m < M 114 15 then (if (0 ≤ w ∧ w ≤ 9) ∧ (0 ≤ z ∧ z ≤ 1) then trmS (upV M m w (-1)) (lowV M m w (-1)) z else -102) else -101) ∧ SM M M') := by
  refine CJ.of (own := "RedSkiesModel") (ls0 := [some (.ref (al 114)), some (.int (iN m)), some (.int (iN w)), some (.int (iN z))]) (by decide +kernel) rfl (Nat.le_of_ble_eq_true rfl) rfl ?_
  intro pP eE sS mI aA bB mM cC X hr hlk
  obtain ⟨Q, hQ⟩ : ∃ Q : State → Prop, Q = MQ bB (QJ tT dD al (fun r M' => r = (if 0 ≤ m ∧ m < M 114 15 then (if (0 ≤ w ∧ w ≤ 9) ∧ (0 ≤ z ∧ z ≤ 1) then trmS (upV M m w (-1)) (lowV M m w (-1)) z else -102) else -101) ∧ SM M M')) aA sS 0 0 (fA al) := ⟨_, rfl⟩
  rw [← hQ]
  have w1 := hW.mea
  refine g_aload_n X dX10_odds_0 rfl rfl ?_
  refine g_iload_n X dX10_odds_1 rfl rfl ?_
  refine g_callVI X (c_X10_isMeasure lL tT dD al _ _ im ⟨by omega, by omega⟩) kd_114 fc9 lk_RX10_215 rfl rfl ⟨by decide, by decide⟩ rfl (Nat.le_of_ble_eq_true rfl) dX10_odds_2 (fun r2 M2 hc2 => ?_)
  obtain ⟨hr2, hm2⟩ := hc2
  subst r2
  subst M2
  refine g_if_ne (tgt := 12) X dX10_odds_5 (by decide) (b2i_i32 _) (fun q5 => ?_) (fun q5 => ?_)
  · have q5 := b2i_t q5
    refine g_iload_n X dX10_odds_12 rfl rfl ?_
    refine g_callSI X (c_X10_isWindow lL tT dD al _ _ iw) lk_RX10_235 rfl rfl ⟨by decide, by decide⟩ rfl (Nat.le_of_ble_eq_true rfl) dX10_odds_13 (fun r13 M13 hc13 => ?_)
    obtain ⟨hr13, hm13⟩ := hc13
    subst r13
    subst M13
    refine g_if_eq (tgt := 26) X dX10_odds_16 (by decide) (b2i_i32 _) (fun q16 => ?_) (fun q16 => ?_)
    · have q16 := b2i_f q16
      refine g_ldc2 X (n := (-102)) wd_1177 (by decide +kernel) dX10_odds_26 ?_
      rw [hQ]
      refine g_lret X hr hlk dX10_odds_29 ?_
      clear X hr hlk hQ
      exact ⟨by grind, by first | exact SM.rfl' M | exact hS⟩
    · have q16 := b2i_t q16
      refine g_iload_n X dX10_odds_19 rfl rfl ?_
      refine g_callSI X (c_X10_isPart lL tT dD al _ _ iz) lk_RX10_288 rfl rfl ⟨by decide, by decide⟩ rfl (Nat.le_of_ble_eq_true rfl) dX10_odds_20 (fun r20 M20 hc20 => ?_)
      obtain ⟨hr20, hm20⟩ := hc20
      subst r20
      subst M20
      refine g_if_ne (tgt := 30) X dX10_odds_23 (by decide) (b2i_i32 _) (fun q23 => ?_) (fun q23 => ?_)
      · have q23 := b2i_t q23
        refine g_aload_n X dX10_odds_30 rfl rfl ?_
        refine g_iload_n X dX10_odds_31 rfl rfl ?_
        refine g_iload_n X dX10_odds_32 rfl rfl ?_
        refine g_iconst X dX10_odds_33 ?_
        refine g_callVV X (c_X10_look lL tT dD al _ _ _ _ hW (by omega) (by omega) (by omega) (by decide)) kd_114 fc9 lk_RX10_262 rfl rfl ⟨by decide, by decide⟩ rfl (Nat.le_of_ble_eq_true rfl) dX10_odds_34 (fun M34 hc34 => ?_)
        refine g_aload_n X dX10_odds_37 rfl rfl ?_
        refine g_callVV X (c_X10_layOdds lL tT dD al _  hc34.2.2.1) kd_114 fc9 lk_RX10_293 rfl rfl ⟨by decide, by decide⟩ rfl (Nat.le_of_ble_eq_true rfl) dX10_odds_38 (fun M38 hc38 => ?_)
        obtain ⟨hS, el, eu, rg⟩ := odds_ok hW (SM.rfl' M) hc34 hc38
        refine g_aload_n X dX10_odds_41 rfl rfl ?_
        refine g_getl (kz := 37) X kd_114 fc9 (k := 37) (by decide) rfl wd_864 rfl dX10_odds_42 ?_
        refine g_teql (b := upV M m w (-1)) (by exact eu) ?_
        refine g_aload_n X dX10_odds_45 rfl rfl ?_
        refine g_getl (kz := 38) X kd_114 fc9 (k := 38) (by decide) rfl wd_865 rfl dX10_odds_46 ?_
        refine g_teql (b := lowV M m w (-1)) (by exact el) ?_
        refine g_iload_n X dX10_odds_49 rfl rfl ?_
        refine g_callSJ X (c_X10_term lL tT dD al _ _ _ _ (by omega) (by omega) iz) lk_RX10_296 rfl rfl ⟨by decide, by decide⟩ rfl (Nat.le_of_ble_eq_true rfl) dX10_odds_50 (fun r50 M50 hc50 => ?_)
        obtain ⟨hr50, hm50⟩ := hc50
        subst r50
        subst M50
        rw [hQ]
        refine g_lret X hr hlk dX10_odds_53 ?_
        clear X hr hlk hQ
        exact ⟨by grind, by first | exact SM.rfl' M | exact hS⟩
      · have q23 := b2i_f q23
        refine g_ldc2 X (n := (-102)) wd_1177 (by decide +kernel) dX10_odds_26 ?_
        rw [hQ]
        refine g_lret X hr hlk dX10_odds_29 ?_
        clear X hr hlk hQ
        exact ⟨by grind, by first | exact SM.rfl' M | exact hS⟩
  · have q5 := b2i_f q5
    refine g_ldc2 X (n := (-101)) wd_1173 (by decide +kernel) dX10_odds_8 ?_
    rw [hQ]
    refine g_lret X hr hlk dX10_odds_11 ?_
    clear X hr hlk hQ
    exact ⟨by grind, by first | exact SM.rfl' M | exact hS⟩
set_option maxRecDepth 100000 in
set_option maxHeartbeats 4000000 in
theorem c_X10_paid (lL : Launch) (tT : TT) (dD : va_G) (al : Int → Nat) (M : Mem) (w z : Int) (hW : WV M) (iw : i32 w) (iz : i32 z) : CJ lL yX10_paid cX10_paid 10 5 117 tT dD al [.ref (al 114), .int (iN w), .int (iN z)] M (fun r M' => r = (if (0 ≤ w ∧ w ≤ 9) ∧ (0 ≤ z ∧ z ≤ 1) then (if M 114 15 = 0 then -103 else if (pdM M w (M 114 15).toNat).2 < (pdM M w (M 114 15).toNat).1 * (M 114 15 * (w + 1)) then 1 else trmS ((pdM M w (M 114 15).toNat).1 * (M 114 15 * (w + 1))) (pdM M w (M 114 15).toNat).2 z) else -102) ∧ SM M M') := by
  refine CJ.of (own := "RedSkiesModel") (ls0 := [some (.ref (al 114)), some (.int (iN w)), some (.int (iN z)), none, none, none, none, none, none, none]) (by decide +kernel) rfl (Nat.le_of_ble_eq_true rfl) rfl ?_
  intro pP eE sS mI aA bB mM cC X hr hlk
  obtain ⟨Q, hQ⟩ : ∃ Q : State → Prop, Q = MQ bB (QJ tT dD al (fun r M' => r = (if (0 ≤ w ∧ w ≤ 9) ∧ (0 ≤ z ∧ z ≤ 1) then (if M 114 15 = 0 then -103 else if (pdM M w (M 114 15).toNat).2 < (pdM M w (M 114 15).toNat).1 * (M 114 15 * (w + 1)) then 1 else trmS ((pdM M w (M 114 15).toNat).1 * (M 114 15 * (w + 1))) (pdM M w (M 114 15).toNat).2 z) else -102) ∧ SM M M')) aA sS 0 0 (fA al) := ⟨_, rfl⟩
  rw [← hQ]
  have w1 := hW.mea
  refine g_iload_n X dX10_paid_0 rfl rfl ?_
  refine g_callSI X (c_X10_isWindow lL tT dD al _ _ iw) lk_RX10_235 rfl rfl ⟨by decide, by decide⟩ rfl (Nat.le_of_ble_eq_true rfl) dX10_paid_1 (fun r1 M1 hc1 => ?_)
  obtain ⟨hr1, hm1⟩ := hc1
  subst r1
  subst M1
  refine g_if_eq (tgt := 14) X dX10_paid_4 (by decide) (b2i_i32 _) (fun q4 => ?_) (fun q4 => ?_)
  · have q4 := b2i_f q4
    refine g_ldc2 X (n := (-102)) wd_1177 (by decide +kernel) dX10_paid_14 ?_
    rw [hQ]
    refine g_lret X hr hlk dX10_paid_17 ?_
    clear X hr hlk hQ
    exact ⟨by grind, by exact SM.rfl' M⟩
  · have q4 := b2i_t q4
    refine g_iload_n X dX10_paid_7 rfl rfl ?_
    refine g_callSI X (c_X10_isPart lL tT dD al _ _ iz) lk_RX10_288 rfl rfl ⟨by decide, by decide⟩ rfl (Nat.le_of_ble_eq_true rfl) dX10_paid_8 (fun r8 M8 hc8 => ?_)
    obtain ⟨hr8, hm8⟩ := hc8
    subst r8
    subst M8
    refine g_if_ne (tgt := 18) X dX10_paid_11 (by decide) (b2i_i32 _) (fun q11 => ?_) (fun q11 => ?_)
    · have q11 := b2i_t q11
      refine g_aload_n X dX10_paid_18 rfl rfl ?_
      refine g_geti (kz := 15) X kd_114 fc9 (k := 15) (by decide) rfl wd_842 rfl dX10_paid_19 ?_
      refine g_if_ne (tgt := 29) X dX10_paid_22 (by decide) ⟨by omega, by omega⟩ (fun q22 => ?_) (fun q22 => ?_)
      · refine g_lconst X (v := 1) dX10_paid_29 (by decide +kernel) ?_
        refine g_lstore_n_3 X dX10_paid_30 rfl rfl (fun v3_30 ev3_30 => ?_)
        subst v3_30
        refine g_lconst X (v := 1) dX10_paid_31 (by decide +kernel) ?_
        refine g_lstore_5 X dX10_paid_32 trivial (fun v5_32 ev5_32 => ?_)
        subst v5_32
        refine g_iconst X dX10_paid_34 ?_
        refine g_istore_7 X dX10_paid_35 trivial (fun v7_35 ev7_35 => ?_)
        subst v7_35
        have L_37 : ∀ (n : Nat) (a : Int) (b : Int) (m : Int) (Ma : Mem), (0 ≤ m) → (m ≤ M 114 15) → (1 ≤ a ∧ a ≤ 33619968) → (1 ≤ b ∧ b ≤ 33619968) → (pdM M w m.toNat = (a, b)) → (SM M Ma) → (4 - m).toNat < n → Gd pP lL eE (rmN 5 117) sS mI aA bB mM cC 0 0 Q tT dD al (fA al) 37 [some (.ref (al 114)), some (.int (iN w)), some (.int (iN z)), some (.long (jN a)), none, some (.long (jN b)), none, some (.int (iN m)), none, none] [] Ma := by
          intro n
          induction n with
          | zero => intro a b m Ma hm0 hm1 ha hb hp hSa hm; exact absurd hm (Nat.not_lt_zero _)
          | succ n ih =>
            intro a b m Ma hm0 hm1 ha hb hp hSa hm
            have r15 := hSa.fld (k := 15) (by omega)
            have ih_37 := ih
            clear ih
            refine g_iload X dX10_paid_37 rfl ?_
            refine g_aload_n X dX10_paid_39 rfl rfl ?_
            refine g_geti (kz := 15) X kd_114 fc9 (k := 15) (by decide) rfl wd_842 rfl dX10_paid_40 ?_
            refine g_icmp_ge (tgt := 134) X dX10_paid_43 (by decide) ⟨by omega, by omega⟩ ⟨by omega, by omega⟩ (fun q43 => ?_) (fun q43 => ?_)
            · obtain rfl : m = M 114 15 := by omega
              refine g_lload_n X dX10_paid_134 rfl rfl ?_
              refine g_aload_n X dX10_paid_135 rfl rfl ?_
              refine g_geti (kz := 15) X kd_114 fc9 (k := 15) (by decide) rfl wd_842 rfl dX10_paid_136 ?_
              refine g_teq (b := M 114 15) (by exact r15) ?_
              refine g_i2l X dX10_paid_139 ⟨by omega, by omega⟩ ?_
              refine g_iload_n X dX10_paid_140 rfl rfl ?_
              refine g_i2l X dX10_paid_141 ⟨by omega, by omega⟩ ?_
              refine g_lconst X (v := 1) dX10_paid_142 (by decide +kernel) ?_
              refine g_ladd X dX10_paid_143 ?_
              refine g_lmul X dX10_paid_144 ?_
              refine g_lmul X dX10_paid_145 ?_
              have mk : 1 ≤ M 114 15 * (w + 1) ∧ M 114 15 * (w + 1) ≤ 40 := by rcases (by omega : M 114 15 = 1 ∨ M 114 15 = 2 ∨ M 114 15 = 3 ∨ M 114 15 = 4) with e | e | e | e <;> rw [e] <;> omega
              have mu3 := mulr (x := a) (y := M 114 15 * (w + 1)) (by omega) (by omega)
              have mu4 := Int.mul_le_mul ha.1 mk.1 (by omega) (by omega)
              refine g_lstore_n_3 X dX10_paid_146 rfl rfl (fun v3_146 ev3_146 => ?_)
              subst v3_146
              refine g_lload_n X dX10_paid_147 rfl rfl ?_
              refine g_lload X dX10_paid_148 rfl ?_
              refine g_lcmp_le (tgt := 158) X dX10_paid_150 dX10_paid_151 (by decide) ⟨by omega, by omega⟩ ⟨by omega, by omega⟩ (fun q150 => ?_) (fun q150 => ?_)
              · refine g_lload_n X dX10_paid_158 rfl rfl ?_
                refine g_lload X dX10_paid_159 rfl ?_
                refine g_iload_n X dX10_paid_161 rfl rfl ?_
                refine g_callSJ X (c_X10_term lL tT dD al _ _ _ _ (by omega) (by omega) iz) lk_RX10_296 rfl rfl ⟨by decide, by decide⟩ rfl (Nat.le_of_ble_eq_true rfl) dX10_paid_162 (fun r162 M162 hc162 => ?_)
                obtain ⟨hr162, hm162⟩ := hc162
                subst r162
                subst M162
                rw [hQ]
                refine g_lret X hr hlk dX10_paid_165 ?_
                clear X hr hlk hQ ih_37
                refine ⟨?_, hSa⟩
                rw [hp]
                grind
              · refine g_lconst X (v := 1) dX10_paid_154 (by decide +kernel) ?_
                refine g_goto (tgt := 165) X dX10_paid_155 (by decide) ?_
                rw [hQ]
                refine g_lret X hr hlk dX10_paid_165 ?_
                clear X hr hlk hQ ih_37
                refine ⟨?_, hSa⟩
                rw [hp]
                grind
            · refine g_iconst X dX10_paid_46 ?_
              refine g_istore_8 X dX10_paid_47 rfl (fun v8_47 ev8_47 => ?_)
              subst v8_47
              have L_49 : ∀ (n : Nat) (a : Int) (b : Int) (x : Int) (Mb : Mem), (0 ≤ x) → (x ≤ w + 1) → (1 ≤ a ∧ a ≤ 33619968) → (1 ≤ b ∧ b ≤ 33619968) → (pdW M m (pdM M w m.toNat) x.toNat = (a, b)) → (SM M Mb) → (10 - x).toNat < n → Gd pP lL eE (rmN 5 117) sS mI aA bB mM cC 0 0 Q tT dD al (fA al) 49 [some (.ref (al 114)), some (.int (iN w)), some (.int (iN z)), some (.long (jN a)), none, some (.long (jN b)), none, some (.int (iN m)), some (.int (iN x)), none] [] Mb := by
                intro n
                induction n with
                | zero => intro a b x Mb hx0 hx1 hab hbb hpb hSb hm; exact absurd hm (Nat.not_lt_zero _)
                | succ n ih =>
                  intro a b x Mb hx0 hx1 hab hbb hpb hSb hm
                  have r15b := hSb.fld (k := 15) (by omega)
                  have ih_49 := ih
                  clear ih
                  refine g_iload X dX10_paid_49 rfl ?_
                  refine g_iload_n X dX10_paid_51 rfl rfl ?_
                  refine g_icmp_gt (tgt := 128) X dX10_paid_52 (by decide) ⟨by omega, by omega⟩ ⟨by omega, by omega⟩ (fun q52 => ?_) (fun q52 => ?_)
                  · refine g_iinc_7 X dX10_paid_128 trivial (fun v7_128 ev7_128 => ?_)
                    subst v7_128
                    refine g_goto (tgt := 37) X dX10_paid_131 (by decide) ?_
                    exact g_sub (ih_37 _ _ _ _ (by omega) (by omega) (hab) (hbb) (by obtain rfl : x = w + 1 := (by omega); rw [pdM_s M w hm0]; exact hpb) (hSb) (by omega)) ⟨rfl, rfl, rfl, rfl, rfl, rfl, trivial⟩
                  · refine g_aload_n X dX10_paid_55 rfl rfl ?_
                    refine g_iload X dX10_paid_56 rfl ?_
                    refine g_iload X dX10_paid_58 rfl ?_
                    refine g_iconst X dX10_paid_60 ?_
                    refine g_callVV X (c_X10_look lL tT dD al _ _ _ _ (hSb.WV hW) (by omega) (by omega) (by omega) (by decide)) kd_114 fc9 lk_RX10_262 rfl rfl ⟨by decide, by decide⟩ rfl (Nat.le_of_ble_eq_true rfl) dX10_paid_61 (fun M61 hc61 => ?_)
                    refine g_aload_n X dX10_paid_64 rfl rfl ?_
                    refine g_callVV X (c_X10_layOdds lL tT dD al _  hc61.2.2.1) kd_114 fc9 lk_RX10_293 rfl rfl ⟨by decide, by decide⟩ rfl (Nat.le_of_ble_eq_true rfl) dX10_paid_65 (fun M65 hc65 => ?_)
                    obtain ⟨hSc, el, eu, rg⟩ := odds_ok hW hSb hc61 hc65
                    have mu1 := mulr (x := upV M m x (-1)) (y := b) (by omega) (by omega)
                    have mu2 := mulr (x := a) (y := lowV M m x (-1)) (by omega) (by omega)
                    refine g_aload_n X dX10_paid_68 rfl rfl ?_
                    refine g_getl (kz := 37) X kd_114 fc9 (k := 37) (by decide) rfl wd_864 rfl dX10_paid_69 ?_
                    refine g_teql (b := upV M m x (-1)) (by exact eu) ?_
                    refine g_lload X dX10_paid_72 rfl ?_
                    refine g_lmul X dX10_paid_74 ?_
                    refine g_lload_n X dX10_paid_75 rfl rfl ?_
                    refine g_aload_n X dX10_paid_76 rfl rfl ?_
                    refine g_getl (kz := 38) X kd_114 fc9 (k := 38) (by decide) rfl wd_865 rfl dX10_paid_77 ?_
                    refine g_teql (b := lowV M m x (-1)) (by exact el) ?_
                    refine g_lmul X dX10_paid_80 ?_
                    refine g_lcmp_ge (tgt := 89) X dX10_paid_81 dX10_paid_82 (by decide) ⟨by omega, by omega⟩ ⟨by omega, by omega⟩ (fun q81 => ?_) (fun q81 => ?_)
                    · refine g_iconst X dX10_paid_89 ?_
                      refine g_istore_9 X dX10_paid_90 rfl (fun v9_90 ev9_90 => ?_)
                      subst v9_90
                      refine g_iload X dX10_paid_92 rfl ?_
                      refine g_if_eq (tgt := 104) X dX10_paid_94 (by decide) (by decide) (fun _ => ?_) (fun q => absurd q (by decide))
                      refine g_lload_n X dX10_paid_104 rfl rfl ?_
                      refine g_lstore_n_3 X dX10_paid_105 rfl rfl (fun v3_105 ev3_105 => ?_)
                      subst v3_105
                      refine g_iload X dX10_paid_106 rfl ?_
                      refine g_if_eq (tgt := 118) X dX10_paid_108 (by decide) (by decide) (fun _ => ?_) (fun q => absurd q (by decide))
                      refine g_lload X dX10_paid_118 rfl ?_
                      refine g_lstore_5 X dX10_paid_120 trivial (fun v5_120 ev5_120 => ?_)
                      subst v5_120
                      refine g_iinc_8 X dX10_paid_122 rfl (fun v8_122 ev8_122 => ?_)
                      subst v8_122
                      refine g_goto (tgt := 49) X dX10_paid_125 (by decide) ?_
                      exact g_sub (ih_49 _ _ _ _ (by omega) (by omega) (by first | exact ⟨rg.1, by omega⟩ | exact hab) (by first | exact ⟨by omega, rg.2.2⟩ | exact hbb) (by rw [pdW_s M m _ hx0, hpb]; show (if upV M m x (-1) * b < a * lowV M m x (-1) then (upV M m x (-1), lowV M m x (-1)) else (a, b)) = _; first | rw [if_pos q81] | rw [if_neg (by omega)]) (hSc) (by omega)) ⟨rfl, rfl, rfl, rfl, rfl, rfl, rfl, trivial⟩
                    · refine g_iconst X dX10_paid_85 ?_
                      refine g_goto (tgt := 90) X dX10_paid_86 (by decide) ?_
                      refine g_istore_9 X dX10_paid_90 rfl (fun v9_90 ev9_90 => ?_)
                      subst v9_90
                      refine g_iload X dX10_paid_92 rfl ?_
                      refine g_if_eq (tgt := 104) X dX10_paid_94 (by decide) (by decide) (fun q => absurd q (by decide)) (fun _ => ?_)
                      refine g_aload_n X dX10_paid_97 rfl rfl ?_
                      refine g_getl (kz := 37) X kd_114 fc9 (k := 37) (by decide) rfl wd_864 rfl dX10_paid_98 ?_
                      refine g_teql (b := upV M m x (-1)) (by exact eu) ?_
                      refine g_goto (tgt := 105) X dX10_paid_101 (by decide) ?_
                      refine g_lstore_n_3 X dX10_paid_105 rfl rfl (fun v3_105 ev3_105 => ?_)
                      subst v3_105
                      refine g_iload X dX10_paid_106 rfl ?_
                      refine g_if_eq (tgt := 118) X dX10_paid_108 (by decide) (by decide) (fun q => absurd q (by decide)) (fun _ => ?_)
                      refine g_aload_n X dX10_paid_111 rfl rfl ?_
                      refine g_getl (kz := 38) X kd_114 fc9 (k := 38) (by decide) rfl wd_865 rfl dX10_paid_112 ?_
                      refine g_teql (b := lowV M m x (-1)) (by exact el) ?_
                      refine g_goto (tgt := 120) X dX10_paid_115 (by decide) ?_
                      refine g_lstore_5 X dX10_paid_120 trivial (fun v5_120 ev5_120 => ?_)
                      subst v5_120
                      refine g_iinc_8 X dX10_paid_122 rfl (fun v8_122 ev8_122 => ?_)
                      subst v8_122
                      refine g_goto (tgt := 49) X dX10_paid_125 (by decide) ?_
                      exact g_sub (ih_49 _ _ _ _ (by omega) (by omega) (by first | exact ⟨rg.1, by omega⟩ | exact hab) (by first | exact ⟨by omega, rg.2.2⟩ | exact hbb) (by rw [pdW_s M m _ hx0, hpb]; show (if upV M m x (-1) * b < a * lowV M m x (-1) then (upV M m x (-1), lowV M m x (-1)) else (a, b)) = _; first | rw [if_pos q81] | rw [if_neg (by omega)]) (hSc) (by omega)) ⟨rfl, rfl, rfl, rfl, rfl, rfl, rfl, trivial⟩
              exact g_sub (L_49 _ _ _ _ _ (by omega) (by omega) (ha) (hb) (by show pdM M w m.toNat = _; exact hp) (hSa) (Nat.lt_succ_self _)) ⟨rfl, rfl, rfl, rfl, rfl, rfl, rfl, trivial⟩
        exact g_sub (L_37 _ _ _ _ _ (by omega) (by omega) (by omega) (by omega) (by rfl) (SM.rfl' M) (Nat.lt_succ_self _)) ⟨rfl, rfl, rfl, rfl, rfl, rfl, trivial⟩
      · refine g_ldc2 X (n := (-103)) wd_1200 (by decide +kernel) dX10_paid_25 ?_
        rw [hQ]
        refine g_lret X hr hlk dX10_paid_28 ?_
        clear X hr hlk hQ
        exact ⟨by grind, by exact SM.rfl' M⟩
    · have q11 := b2i_f q11
      refine g_ldc2 X (n := (-102)) wd_1177 (by decide +kernel) dX10_paid_14 ?_
      rw [hQ]
      refine g_lret X hr hlk dX10_paid_17 ?_
      clear X hr hlk hQ
      exact ⟨by grind, by exact SM.rfl' M⟩
set_option maxRecDepth 100000 in
set_option maxHeartbeats 4000000 in
theorem c_X10_wrong (lL : Launch) (tT : TT) (dD : va_G) (al : Int → Nat) (M : Mem) (m : Int) (hW : WV M) (im : i32 m) : CI lL yX10_wrong cX10_wrong 2 FieldType.int 8 186 tT dD al [.ref (al 114), .int (iN m)] M (fun r M' => r = (if 0 ≤ m ∧ m < M 114 15 then (if M 114 17 = 0 then -103 else wrS M m (M 114 23).toNat) else -101) ∧ SM M M') := by
  refine CI.of (own := "RedSkiesModel") (ls0 := [some (.ref (al 114)), some (.int (iN m))]) (by decide +kernel) rfl (Nat.le_of_ble_eq_true rfl) rfl ?_
  intro pP eE sS mI aA bB mM cC X hr hlk
  obtain ⟨Q, hQ⟩ : ∃ Q : State → Prop, Q = MQ bB (QI tT dD al (fun r M' => r = (if 0 ≤ m ∧ m < M 114 15 then (if M 114 17 = 0 then -103 else wrS M m (M 114 23).toNat) else -101) ∧ SM M M')) aA sS 0 0 (fA al) := ⟨_, rfl⟩
  rw [← hQ]
  have w1 := hW.mea
  have w3 := hW.law
  refine g_aload_n X dX10_wrong_0 rfl rfl ?_
  refine g_iload_n X dX10_wrong_1 rfl rfl ?_
  refine g_callVI X (c_X10_isMeasure lL tT dD al _ _ im ⟨by omega, by omega⟩) kd_114 fc9 lk_RX10_215 rfl rfl ⟨by decide, by decide⟩ rfl (Nat.le_of_ble_eq_true rfl) dX10_wrong_2 (fun r2 M2 hc2 => ?_)
  obtain ⟨hr2, hm2⟩ := hc2
  subst r2
  subst M2
  refine g_if_ne (tgt := 11) X dX10_wrong_5 (by decide) (b2i_i32 _) (fun q5 => ?_) (fun q5 => ?_)
  · have q5 := b2i_t q5
    refine g_aload_n X dX10_wrong_11 rfl rfl ?_
    refine g_geti (kz := 17) X kd_114 fc9 (k := 17) (by decide) rfl wd_844 rfl dX10_wrong_12 ?_
    refine g_if_ne (tgt := 23) X dX10_wrong_15 (by decide) ⟨by omega, by omega⟩ (fun q15 => ?_) (fun q15 => ?_)
    · refine g_aload_n X dX10_wrong_23 rfl rfl ?_
      refine g_iload_n X dX10_wrong_24 rfl rfl ?_
      refine g_callVI X (c_X10_wrongOf lL tT dD al _ _ hW (by omega) (by omega)) kd_114 fc9 lk_RX10_334 rfl rfl ⟨by decide, by decide⟩ rfl (Nat.le_of_ble_eq_true rfl) dX10_wrong_25 (fun r25 M25 hc25 => ?_)
      obtain ⟨hr25, hc25⟩ := hc25
      subst r25
      rw [hQ]
      refine g_iret X hr hlk dX10_wrong_28 ?_
      clear X hr hlk hQ
      exact ⟨by grind, by first | exact SM.rfl' M | exact hc25⟩
    · refine g_bipush X dX10_wrong_18 (by decide +kernel) ?_
      refine g_goto (tgt := 28) X dX10_wrong_20 (by decide) ?_
      rw [hQ]
      refine g_iret X hr hlk dX10_wrong_28 ?_
      clear X hr hlk hQ
      exact ⟨by grind, by first | exact SM.rfl' M | exact hc25⟩
  · have q5 := b2i_f q5
    refine g_bipush X dX10_wrong_8 (by decide +kernel) ?_
    rw [hQ]
    refine g_iret X hr hlk dX10_wrong_10 ?_
    clear X hr hlk hQ
    exact ⟨by grind, by first | exact SM.rfl' M | exact hc25⟩
