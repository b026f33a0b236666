set_option maxRecDepth 100000 in
set_option maxHeartbeats 4000000 in
theorem c_X10_sumOf (lL : Launch) (tT : TT) (dD : va_G) (al : Int → Nat) (M : Mem) (m q w : Int) (hW : WV M) (hm0 : 0 ≤ m) (hm1 : m < M 114 15) (h0 : 0 ≤ q) (h1 : q < M 114 23) (h2 : 0 ≤ w) (h3 : w < 2) : CI lL yX10_sumOf cX10_sumOf 6 FieldType.int 2 45 tT dD al [.ref (al 114), .int (iN m), .int (iN q), .int (iN w)] M (fun r M' => r = smS M m q w ∧ M' = M) := by
  refine CI.of (own := "RedSkiesModel") (ls0 := [some (.ref (al 114)), some (.int (iN m)), some (.int (iN q)), some (.int (iN w)), none, none]) (by decide +kernel) rfl (Nat.le_of_ble_eq_true rfl) rfl ?_
  intro pP eE sS mI aA bB mM cC X hr hlk
  obtain ⟨Q, hQ⟩ : ∃ Q : State → Prop, Q = MQ bB (QI tT dD al (fun r M' => r = smS M m q w ∧ M' = M)) aA sS 0 0 (fA al) := ⟨_, rfl⟩
  rw [← hQ]
  have w1 := hW.mea
  refine g_iconst X dX10_sumOf_0 ?_
  refine g_istore_4 X dX10_sumOf_1 rfl (fun v4_1 ev4_1 => ?_)
  subst v4_1
  refine g_iconst X dX10_sumOf_3 ?_
  refine g_istore_5 X dX10_sumOf_4 rfl (fun v5_4 ev5_4 => ?_)
  subst v5_4
  have L_6 : ∀ (n : Nat) (sum : Int) (k : Int), (0 ≤ k) → (k ≤ 12) → (sum = sm (fun k => M 120 (24 * m + 12 * w + k) * rgt M q k) k.toNat) → (12 - k).toNat < n → Gd pP lL eE (rmN 2 45) sS mI aA bB mM cC 0 0 Q tT dD al (fA al) 6 [some (.ref (al 114)), some (.int (iN m)), some (.int (iN q)), some (.int (iN w)), some (.int (iN sum)), some (.int (iN k))] [] M := by
    intro n
    induction n with
    | zero => intro sum k hk hk2 hs hm; exact absurd hm (Nat.not_lt_zero _)
    | succ n ih =>
      intro sum k hk hk2 hs hm
      have ih_6 := ih
      clear ih
      refine g_iload X dX10_sumOf_6 rfl ?_
      refine g_bipush X dX10_sumOf_8 (by decide +kernel) ?_
      refine g_icmp_ge (tgt := 49) X dX10_sumOf_10 (by decide) ⟨by omega, by omega⟩ (by decide) (fun q10 => ?_) (fun q10 => ?_)
      · refine g_iload X dX10_sumOf_49 rfl ?_
        rw [hQ]
        refine g_iret X hr hlk dX10_sumOf_51 ?_
        obtain rfl : k = 12 := by omega
        exact ⟨hs, rfl⟩
      · refine g_iload X dX10_sumOf_13 rfl ?_
        refine g_aload_n X dX10_sumOf_15 rfl rfl ?_
        refine g_getr (r := 120) X kd_114 fc9 (k := 16) (by decide) rfl wd_843 rfl (by decide) dX10_sumOf_16 ?_
        refine g_bipush X dX10_sumOf_19 (by decide +kernel) ?_
        refine g_iload_n X dX10_sumOf_21 rfl rfl ?_
        refine g_imul X dX10_sumOf_22 ?_
        refine g_bipush X dX10_sumOf_23 (by decide +kernel) ?_
        refine g_iload_n X dX10_sumOf_25 rfl rfl ?_
        refine g_imul X dX10_sumOf_26 ?_
        refine g_iadd X dX10_sumOf_27 ?_
        refine g_iload X dX10_sumOf_28 rfl ?_
        refine g_iadd X dX10_sumOf_30 ?_
        refine g_iald X kd_120 (by omega) (by omega) dX10_sumOf_31 ?_
        refine g_aload_n X dX10_sumOf_32 rfl rfl ?_
        refine g_iload_n X dX10_sumOf_33 rfl rfl ?_
        refine g_iload X dX10_sumOf_34 rfl ?_
        refine g_callVI X (c_X10_rightOf lL tT dD al _ _ _ hW h0 h1 hk (by omega)) kd_114 fc9 lk_RX10_207 rfl rfl ⟨by decide, by decide⟩ rfl (Nat.le_of_ble_eq_true rfl) dX10_sumOf_36 (fun r36 M36 hc36 => ?_)
        obtain ⟨hr36, hm36⟩ := hc36
        subst r36
        subst M36
        refine g_imul X dX10_sumOf_39 ?_
        refine g_iadd X dX10_sumOf_40 ?_
        refine g_istore_4 X dX10_sumOf_41 rfl (fun v4_41 ev4_41 => ?_)
        subst v4_41
        refine g_iinc_5 X dX10_sumOf_43 rfl (fun v5_43 ev5_43 => ?_)
        subst v5_43
        refine g_goto (tgt := 6) X dX10_sumOf_46 (by decide) ?_
        exact g_sub (ih_6 _ _ (by omega) (by omega) (by rw [sm_s _ hk, hs]) (by omega)) ⟨rfl, rfl, rfl, rfl, rfl, rfl, trivial⟩
  exact g_sub (L_6 _ _ _ (by omega) (by omega) (rfl) (Nat.lt_succ_self _)) ⟨rfl, rfl, rfl, rfl, rfl, rfl, trivial⟩
set_option maxRecDepth 100000 in
set_option maxHeartbeats 4000000 in
theorem c_X10_valueOf (lL : Launch) (tT : TT) (dD : va_G) (al : Int → Nat) (M : Mem) (m q : Int) (hW : WV M) (hm0 : 0 ≤ m) (hm1 : m < M 114 15) (h0 : 0 ≤ q) (h1 : q < M 114 23) : CI lL yX10_valueOf cX10_valueOf 4 FieldType.int 3 70 tT dD al [.ref (al 114), .int (iN m), .int (iN q)] M (fun r M' => r = vlu M m q ∧ M' = M) := by
  refine CI.of (own := "RedSkiesModel") (ls0 := [some (.ref (al 114)), some (.int (iN m)), some (.int (iN q)), none]) (by decide +kernel) rfl (Nat.le_of_ble_eq_true rfl) rfl ?_
  intro pP eE sS mI aA bB mM cC X hr hlk
  obtain ⟨Q, hQ⟩ : ∃ Q : State → Prop, Q = MQ bB (QI tT dD al (fun r M' => r = vlu M m q ∧ M' = M)) aA sS 0 0 (fA al) := ⟨_, rfl⟩
  rw [← hQ]
  have w1 := hW.mea
  have w2 := smS_rng hW (m := m) (p := q) hm0 (by omega) (w := 1) (by omega) (by omega)
  have w3 := smS_rng hW (m := m) (p := q) hm0 (by omega) (w := 0) (by omega) (by omega)
  refine g_aload_n X dX10_valueOf_0 rfl rfl ?_
  refine g_iload_n X dX10_valueOf_1 rfl rfl ?_
  refine g_iload_n X dX10_valueOf_2 rfl rfl ?_
  refine g_iconst X dX10_valueOf_3 ?_
  refine g_callVI X (c_X10_sumOf lL tT dD al _ _ _ _ hW hm0 hm1 h0 h1 (by omega) (by omega)) kd_114 fc9 lk_RX10_211 rfl rfl ⟨by decide, by decide⟩ rfl (Nat.le_of_ble_eq_true rfl) dX10_valueOf_4 (fun r4 M4 hc4 => ?_)
  obtain ⟨hr4, hm4⟩ := hc4
  subst r4
  subst M4
  refine g_istore_n_3 X dX10_valueOf_7 rfl rfl (fun v3_7 ev3_7 => ?_)
  subst v3_7
  refine g_bipush X dX10_valueOf_8 (by decide +kernel) ?_
  refine g_aload_n X dX10_valueOf_10 rfl rfl ?_
  refine g_iload_n X dX10_valueOf_11 rfl rfl ?_
  refine g_iload_n X dX10_valueOf_12 rfl rfl ?_
  refine g_iconst X dX10_valueOf_13 ?_
  refine g_callVI X (c_X10_sumOf lL tT dD al _ _ _ _ hW hm0 hm1 h0 h1 (by omega) (by omega)) kd_114 fc9 lk_RX10_211 rfl rfl ⟨by decide, by decide⟩ rfl (Nat.le_of_ble_eq_true rfl) dX10_valueOf_14 (fun r14 M14 hc14 => ?_)
  obtain ⟨hr14, hm14⟩ := hc14
  subst r14
  subst M14
  refine g_imul X dX10_valueOf_17 ?_
  refine g_iload_n X dX10_valueOf_18 rfl rfl ?_
  refine g_iconst X dX10_valueOf_19 ?_
  refine g_icmp_ge (tgt := 27) X dX10_valueOf_20 (by decide) ⟨by omega, by omega⟩ (by decide) (fun q20 => ?_) (fun q20 => ?_)
  · refine g_iload_n X dX10_valueOf_27 rfl rfl ?_
    refine g_idiv X dX10_valueOf_28 ⟨by omega, by omega⟩ ⟨by omega, by omega⟩ ?_
    rw [hQ]
    refine g_iret X hr hlk dX10_valueOf_29 ?_
    clear X hr hlk hQ
    exact ⟨by unfold vlu; grind, rfl⟩
  · refine g_iconst X dX10_valueOf_23 ?_
    refine g_goto (tgt := 28) X dX10_valueOf_24 (by decide) ?_
    refine g_idiv X dX10_valueOf_28 ⟨by omega, by omega⟩ ⟨by omega, by omega⟩ ?_
    rw [hQ]
    refine g_iret X hr hlk dX10_valueOf_29 ?_
    clear X hr hlk hQ
    exact ⟨by unfold vlu; grind, rfl⟩
set_option maxRecDepth 100000 in
set_option maxHeartbeats 4000000 in
theorem c_X10_value (lL : Launch) (tT : TT) (dD : va_G) (al : Int → Nat) (M : Mem) (m q : Int) (hW : WV M) (h0 : i32 m) (h1 : i32 q) : CI lL yX10_value cX10_value 3 FieldType.int 4 93 tT dD al [.ref (al 114), .int (iN m), .int (iN q)] M (fun r M' => r = (if (0 ≤ m ∧ m < M 114 15) ∧ (0 ≤ q ∧ q < M 114 23) then vlu M m q else -101) ∧ M' = M) := by
  refine CI.of (own := "RedSkiesModel") (ls0 := [some (.ref (al 114)), some (.int (iN m)), some (.int (iN q))]) (by decide +kernel) rfl (Nat.le_of_ble_eq_true rfl) rfl ?_
  intro pP eE sS mI aA bB mM cC X hr hlk
  obtain ⟨Q, hQ⟩ : ∃ Q : State → Prop, Q = MQ bB (QI tT dD al (fun r M' => r = (if (0 ≤ m ∧ m < M 114 15) ∧ (0 ≤ q ∧ q < M 114 23) then vlu M m q else -101) ∧ M' = M)) aA sS 0 0 (fA al) := ⟨_, rfl⟩
  rw [← hQ]
  have w1 := hW.mea
  have w2 := hW.n
  refine g_aload_n X dX10_value_0 rfl rfl ?_
  refine g_iload_n X dX10_value_1 rfl rfl ?_
  refine g_callVI X (c_X10_isMeasure lL tT dD al _ _ h0 ⟨by omega, by omega⟩) kd_114 fc9 lk_RX10_215 rfl rfl ⟨by decide, by decide⟩ rfl (Nat.le_of_ble_eq_true rfl) dX10_value_2 (fun r2 M2 hc2 => ?_)
  obtain ⟨hr2, hm2⟩ := hc2
  subst r2
  subst M2
  refine g_if_eq (tgt := 25) X dX10_value_5 (by decide) (b2i_i32 _) (fun q5 => ?_) (fun q5 => ?_)
  · have q5 := b2i_f q5
    refine g_bipush X dX10_value_25 (by decide +kernel) ?_
    rw [hQ]
    refine g_iret X hr hlk dX10_value_27 ?_
    clear X hr hlk hQ
    exact ⟨by grind, rfl⟩
  · have q5 := b2i_t q5
    refine g_aload_n X dX10_value_8 rfl rfl ?_
    refine g_iload_n X dX10_value_9 rfl rfl ?_
    refine g_callVI X (c_X10_isPicture lL tT dD al _ _ h1 ⟨by omega, by omega⟩) kd_114 fc9 lk_RX10_191 rfl rfl ⟨by decide, by decide⟩ rfl (Nat.le_of_ble_eq_true rfl) dX10_value_10 (fun r10 M10 hc10 => ?_)
    obtain ⟨hr10, hm10⟩ := hc10
    subst r10
    subst M10
    refine g_if_eq (tgt := 25) X dX10_value_13 (by decide) (b2i_i32 _) (fun q13 => ?_) (fun q13 => ?_)
    · have q13 := b2i_f q13
      refine g_bipush X dX10_value_25 (by decide +kernel) ?_
      rw [hQ]
      refine g_iret X hr hlk dX10_value_27 ?_
      clear X hr hlk hQ
      exact ⟨by grind, rfl⟩
    · have q13 := b2i_t q13
      refine g_aload_n X dX10_value_16 rfl rfl ?_
      refine g_iload_n X dX10_value_17 rfl rfl ?_
      refine g_iload_n X dX10_value_18 rfl rfl ?_
      refine g_callVI X (c_X10_valueOf lL tT dD al _ _ _ hW (by omega) (by omega) (by omega) (by omega)) kd_114 fc9 lk_RX10_218 rfl rfl ⟨by decide, by decide⟩ rfl (Nat.le_of_ble_eq_true rfl) dX10_value_19 (fun r19 M19 hc19 => ?_)
      obtain ⟨hr19, hm19⟩ := hc19
      subst r19
      subst M19
      refine g_goto (tgt := 27) X dX10_value_22 (by decide) ?_
      rw [hQ]
      refine g_iret X hr hlk dX10_value_27 ?_
      clear X hr hlk hQ
      exact ⟨by grind, rfl⟩
set_option maxRecDepth 100000 in
set_option maxHeartbeats 4000000 in
theorem c_X10_isCounted (lL : Launch) (tT : TT) (dD : va_G) (al : Int → Nat) (M : Mem) (q : Int) (hW : WV M) (h0 : 0 ≤ q) (h1 : q < M 114 23) : CI lL yX10_isCounted cX10_isCounted 2 FieldType.boolean 0 0 tT dD al [.ref (al 114), .int (iN q)] M (fun r M' => r = b2i (M 124 (6 * q) ≠ 3) ∧ M' = M) := by
  refine CI.of (own := "RedSkiesModel") (ls0 := [some (.ref (al 114)), some (.int (iN q))]) (by decide +kernel) rfl (Nat.le_of_ble_eq_true rfl) rfl ?_
  intro pP eE sS mI aA bB mM cC X hr hlk
  obtain ⟨Q, hQ⟩ : ∃ Q : State → Prop, Q = MQ bB (QI tT dD al (fun r M' => r = b2i (M 124 (6 * q) ≠ 3) ∧ M' = M)) aA sS 0 0 (fA al) := ⟨_, rfl⟩
  rw [← hQ]
  have w1 := hW.row h0 h1
  have w2 := hW.n
  refine g_aload_n X dX10_isCounted_0 rfl rfl ?_
  refine g_getr (r := 124) X kd_114 fc9 (k := 24) (by decide) rfl wd_851 rfl (by decide) dX10_isCounted_1 ?_
  refine g_bipush X dX10_isCounted_4 (by decide +kernel) ?_
  refine g_iload_n X dX10_isCounted_6 rfl rfl ?_
  refine g_imul X dX10_isCounted_7 ?_
  refine g_iald X kd_124 (by omega) (by omega) dX10_isCounted_8 ?_
  refine g_iconst X dX10_isCounted_9 ?_
  refine g_icmp_eq (tgt := 17) X dX10_isCounted_10 (by decide) ⟨by omega, by omega⟩ (by decide) (fun q10 => ?_) (fun q10 => ?_)
  · refine g_iconst X dX10_isCounted_17 ?_
    rw [hQ]
    refine g_zret X hr hlk (by decide) dX10_isCounted_18 ?_
    first | exact ⟨b2i_1 (by omega), rfl⟩ | exact ⟨b2i_0 (by omega), rfl⟩
  · refine g_iconst X dX10_isCounted_13 ?_
    refine g_goto (tgt := 18) X dX10_isCounted_14 (by decide) ?_
    rw [hQ]
    refine g_zret X hr hlk (by decide) dX10_isCounted_18 ?_
    first | exact ⟨b2i_1 (by omega), rfl⟩ | exact ⟨b2i_0 (by omega), rfl⟩
set_option maxRecDepth 100000 in
set_option maxHeartbeats 4000000 in
theorem c_X10_isNear (lL : Launch) (tT : TT) (dD : va_G) (al : Int → Nat) (M : Mem) (kind year w : Int) (hW : WV M) (h0 : 0 ≤ kind ∧ kind ≤ 4) (h1 : 0 ≤ year ∧ year ≤ 400) (h2 : 0 ≤ w ∧ w ≤ 9) : CI lL yX10_isNear cX10_isNear 6 FieldType.boolean 1 25 tT dD al [.ref (al 114), .int (iN kind), .int (iN year), .int (iN w)] M (fun r M' => r = b2i (nrS M kind year w) ∧ M' = M) := by
  refine CI.of (own := "RedSkiesModel") (ls0 := [some (.ref (al 114)), some (.int (iN kind)), some (.int (iN year)), some (.int (iN w)), none, none]) (by decide +kernel) rfl (Nat.le_of_ble_eq_true rfl) rfl ?_
  intro pP eE sS mI aA bB mM cC X hr hlk
  obtain ⟨Q, hQ⟩ : ∃ Q : State → Prop, Q = MQ bB (QI tT dD al (fun r M' => r = b2i (nrS M kind year w) ∧ M' = M)) aA sS 0 0 (fA al) := ⟨_, rfl⟩
  rw [← hQ]
  have w1 := hW.n
  refine g_iconst X dX10_isNear_0 ?_
  refine g_istore_4 X dX10_isNear_1 rfl (fun v4_1 ev4_1 => ?_)
  subst v4_1
  refine g_iconst X dX10_isNear_3 ?_
  refine g_istore_5 X dX10_isNear_4 rfl (fun v5_4 ev5_4 => ?_)
  subst v5_4
  have L_6 : ∀ (n : Nat) (b : Int) (k : Int), (0 ≤ k) → (k ≤ M 114 26) → (b = b2i (nrK M kind year w k.toNat)) → (b = 0 ∨ b = 1) → (6 - k).toNat < n → Gd pP lL eE (rmN 1 25) sS mI aA bB mM cC 0 0 Q tT dD al (fA al) 6 [some (.ref (al 114)), some (.int (iN kind)), some (.int (iN year)), some (.int (iN w)), some (.int (iN b)), some (.int (iN k))] [] M := by
    intro n
    induction n with
    | zero => intro b k hk hk2 hb hb1 hm; exact absurd hm (Nat.not_lt_zero _)
    | succ n ih =>
      intro b k hk hk2 hb hb1 hm
      have ih_6 := ih
      clear ih
      refine g_iload X dX10_isNear_6 rfl ?_
      refine g_aload_n X dX10_isNear_8 rfl rfl ?_
      refine g_geti (kz := 26) X kd_114 fc9 (k := 26) (by decide) rfl wd_853 rfl dX10_isNear_9 ?_
      refine g_icmp_ge (tgt := 64) X dX10_isNear_12 (by decide) ⟨by omega, by omega⟩ ⟨by omega, by omega⟩ (fun q12 => ?_) (fun q12 => ?_)
      · refine g_iload X dX10_isNear_64 rfl ?_
        rw [hQ]
        refine g_zret X hr hlk hb1 dX10_isNear_66 ?_
        obtain rfl : k = M 114 26 := by omega
        exact ⟨hb, rfl⟩
      · refine g_iload X dX10_isNear_15 rfl ?_
        refine g_if_ne (tgt := 51) X dX10_isNear_17 (by decide) ⟨by omega, by omega⟩ (fun q17 => ?_) (fun q17 => ?_)
        · refine g_iconst X dX10_isNear_51 ?_
          refine g_goto (tgt := 56) X dX10_isNear_52 (by decide) ?_
          refine g_istore_4 X dX10_isNear_56 rfl (fun v4_56 ev4_56 => ?_)
          subst v4_56
          refine g_iinc_5 X dX10_isNear_58 rfl (fun v5_58 ev5_58 => ?_)
          subst v5_58
          refine g_goto (tgt := 6) X dX10_isNear_61 (by decide) ?_
          exact g_sub (ih_6 _ _ (by omega) (by omega) (by clear X hr hlk hQ ih_6; have hb2 := b2i_eq hb; apply b2i_of (by omega); rw [nrK_s _ _ _ _ hk]; grind) (by omega) (by omega)) ⟨rfl, rfl, rfl, rfl, rfl, rfl, trivial⟩
        · refine g_iload_n X dX10_isNear_20 rfl rfl ?_
          refine g_aload_n X dX10_isNear_21 rfl rfl ?_
          refine g_getr (r := 126) X kd_114 fc9 (k := 27) (by decide) rfl wd_854 rfl (by decide) dX10_isNear_22 ?_
          refine g_iload X dX10_isNear_25 rfl ?_
          have w2 := hW.mts hk (by omega)
          refine g_iald X kd_126 (by omega) (by omega) dX10_isNear_27 ?_
          refine g_isub X dX10_isNear_28 ?_
          refine g_i2l X dX10_isNear_29 ⟨by omega, by omega⟩ ?_
          refine g_lconst X (v := 0) dX10_isNear_30 (by decide +kernel) ?_
          refine g_iload_n X dX10_isNear_31 rfl rfl ?_
          refine g_iconst X dX10_isNear_32 ?_
          refine g_icmp_ne (tgt := 43) X dX10_isNear_33 (by decide) ⟨by omega, by omega⟩ (by decide) (fun q33 => ?_) (fun q33 => ?_)
          · refine g_iload_n X dX10_isNear_43 rfl rfl ?_
            refine g_i2l X dX10_isNear_44 ⟨by omega, by omega⟩ ?_
            refine g_callSI X (c_X10_in lL tT dD al _ _ _ _ ⟨by omega, by omega⟩ (by decide) ⟨by omega, by omega⟩) lk_RX10_98 rfl rfl ⟨by decide, by decide⟩ rfl (Nat.le_of_ble_eq_true rfl) dX10_isNear_45 (fun r45 M45 hc45 => ?_)
            obtain ⟨hr45, hm45⟩ := hc45
            subst r45
            subst M45
            refine g_if_eq (tgt := 55) X dX10_isNear_48 (by decide) (b2i_i32 _) (fun q48 => ?_) (fun q48 => ?_)
            · have q48 := b2i_f q48
              refine g_iconst X dX10_isNear_55 ?_
              refine g_istore_4 X dX10_isNear_56 rfl (fun v4_56 ev4_56 => ?_)
              subst v4_56
              refine g_iinc_5 X dX10_isNear_58 rfl (fun v5_58 ev5_58 => ?_)
              subst v5_58
              refine g_goto (tgt := 6) X dX10_isNear_61 (by decide) ?_
              exact g_sub (ih_6 _ _ (by omega) (by omega) (by clear X hr hlk hQ ih_6; have hb2 := b2i_eq hb; apply b2i_of (by omega); rw [nrK_s _ _ _ _ hk]; grind) (by omega) (by omega)) ⟨rfl, rfl, rfl, rfl, rfl, rfl, trivial⟩
            · have q48 := b2i_t q48
              refine g_iconst X dX10_isNear_51 ?_
              refine g_goto (tgt := 56) X dX10_isNear_52 (by decide) ?_
              refine g_istore_4 X dX10_isNear_56 rfl (fun v4_56 ev4_56 => ?_)
              subst v4_56
              refine g_iinc_5 X dX10_isNear_58 rfl (fun v5_58 ev5_58 => ?_)
              subst v5_58
              refine g_goto (tgt := 6) X dX10_isNear_61 (by decide) ?_
              exact g_sub (ih_6 _ _ (by omega) (by omega) (by clear X hr hlk hQ ih_6; have hb2 := b2i_eq hb; apply b2i_of (by omega); rw [nrK_s _ _ _ _ hk]; grind) (by omega) (by omega)) ⟨rfl, rfl, rfl, rfl, rfl, rfl, trivial⟩
          · refine g_iload_n X dX10_isNear_36 rfl rfl ?_
            refine g_iconst X dX10_isNear_37 ?_
            refine g_iadd X dX10_isNear_38 ?_
            refine g_i2l X dX10_isNear_39 ⟨by omega, by omega⟩ ?_
            refine g_goto (tgt := 45) X dX10_isNear_40 (by decide) ?_
            refine g_callSI X (c_X10_in lL tT dD al _ _ _ _ ⟨by omega, by omega⟩ (by decide) ⟨by omega, by omega⟩) lk_RX10_98 rfl rfl ⟨by decide, by decide⟩ rfl (Nat.le_of_ble_eq_true rfl) dX10_isNear_45 (fun r45 M45 hc45 => ?_)
            obtain ⟨hr45, hm45⟩ := hc45
            subst r45
            subst M45
            refine g_if_eq (tgt := 55) X dX10_isNear_48 (by decide) (b2i_i32 _) (fun q48 => ?_) (fun q48 => ?_)
            · have q48 := b2i_f q48
              refine g_iconst X dX10_isNear_55 ?_
              refine g_istore_4 X dX10_isNear_56 rfl (fun v4_56 ev4_56 => ?_)
              subst v4_56
              refine g_iinc_5 X dX10_isNear_58 rfl (fun v5_58 ev5_58 => ?_)
              subst v5_58
              refine g_goto (tgt := 6) X dX10_isNear_61 (by decide) ?_
              exact g_sub (ih_6 _ _ (by omega) (by omega) (by clear X hr hlk hQ ih_6; have hb2 := b2i_eq hb; apply b2i_of (by omega); rw [nrK_s _ _ _ _ hk]; grind) (by omega) (by omega)) ⟨rfl, rfl, rfl, rfl, rfl, rfl, trivial⟩
            · have q48 := b2i_t q48
              refine g_iconst X dX10_isNear_51 ?_
              refine g_goto (tgt := 56) X dX10_isNear_52 (by decide) ?_
              refine g_istore_4 X dX10_isNear_56 rfl (fun v4_56 ev4_56 => ?_)
              subst v4_56
              refine g_iinc_5 X dX10_isNear_58 rfl (fun v5_58 ev5_58 => ?_)
              subst v5_58
              refine g_goto (tgt := 6) X dX10_isNear_61 (by decide) ?_
              exact g_sub (ih_6 _ _ (by omega) (by omega) (by clear X hr hlk hQ ih_6; have hb2 := b2i_eq hb; apply b2i_of (by omega); rw [nrK_s _ _ _ _ hk]; grind) (by omega) (by omega)) ⟨rfl, rfl, rfl, rfl, rfl, rfl, trivial⟩
  exact g_sub (L_6 _ _ _ (by omega) (by omega) (b2i_0 (nrK_0 _ _ _ _)) (by omega) (Nat.lt_succ_self _)) ⟨rfl, rfl, rfl, rfl, rfl, rfl, trivial⟩
set_option maxRecDepth 100000 in
set_option maxHeartbeats 4000000 in
theorem c_X10_isNearPicture (lL : Launch) (tT : TT) (dD : va_G) (al : Int → Nat) (M : Mem) (q w : Int) (hW : WV M) (h0 : 0 ≤ q) (h1 : q < M 114 23) (h2 : 0 ≤ w ∧ w ≤ 9) : CI lL yX10_isNearPicture cX10_isNearPicture 3 FieldType.boolean 2 50 tT dD al [.ref (al 114), .int (iN q), .int (iN w)] M (fun r M' => r = b2i (nrS M (M 124 (6 * q)) (M 124 (6 * q + 2)) w) ∧ M' = M) := by
  refine CI.of (own := "RedSkiesModel") (ls0 := [some (.ref (al 114)), some (.int (iN q)), some (.int (iN w))]) (by decide +kernel) rfl (Nat.le_of_ble_eq_true rfl) rfl ?_
  intro pP eE sS mI aA bB mM cC X hr hlk
  obtain ⟨Q, hQ⟩ : ∃ Q : State → Prop, Q = MQ bB (QI tT dD al (fun r M' => r = b2i (nrS M (M 124 (6 * q)) (M 124 (6 * q + 2)) w) ∧ M' = M)) aA sS 0 0 (fA al) := ⟨_, rfl⟩
  rw [← hQ]
  have w1 := hW.row h0 h1
  have w2 := hW.n
  refine g_aload_n X dX10_isNearPicture_0 rfl rfl ?_
  refine g_aload_n X dX10_isNearPicture_1 rfl rfl ?_
  refine g_getr (r := 124) X kd_114 fc9 (k := 24) (by decide) rfl wd_851 rfl (by decide) dX10_isNearPicture_2 ?_
  refine g_bipush X dX10_isNearPicture_5 (by decide +kernel) ?_
  refine g_iload_n X dX10_isNearPicture_7 rfl rfl ?_
  refine g_imul X dX10_isNearPicture_8 ?_
  refine g_iald X kd_124 (by omega) (by omega) dX10_isNearPicture_9 ?_
  refine g_aload_n X dX10_isNearPicture_10 rfl rfl ?_
  refine g_getr (r := 124) X kd_114 fc9 (k := 24) (by decide) rfl wd_851 rfl (by decide) dX10_isNearPicture_11 ?_
  refine g_bipush X dX10_isNearPicture_14 (by decide +kernel) ?_
  refine g_iload_n X dX10_isNearPicture_16 rfl rfl ?_
  refine g_imul X dX10_isNearPicture_17 ?_
  refine g_iconst X dX10_isNearPicture_18 ?_
  refine g_iadd X dX10_isNearPicture_19 ?_
  refine g_iald X kd_124 (by omega) (by omega) dX10_isNearPicture_20 ?_
  refine g_iload_n X dX10_isNearPicture_21 rfl rfl ?_
  refine g_callVI X (c_X10_isNear lL tT dD al _ _ _ _ hW (by omega) (by omega) h2) kd_114 fc9 lk_RX10_224 rfl rfl ⟨by decide, by decide⟩ rfl (Nat.le_of_ble_eq_true rfl) dX10_isNearPicture_22 (fun r22 M22 hc22 => ?_)
  obtain ⟨hr22, hm22⟩ := hc22
  subst r22
  subst M22
  rw [hQ]
  refine g_zret X hr hlk (b2i_01 _) dX10_isNearPicture_25 ?_
  exact ⟨rfl, rfl⟩
set_option maxRecDepth 100000 in
set_option maxHeartbeats 4000000 in
theorem c_X10_nearOf (lL : Launch) (tT : TT) (dD : va_G) (al : Int → Nat) (M : Mem) (q w : Int) (hW : WV M) (h0 : 0 ≤ q) (h1 : q < M 114 23) (h2 : 0 ≤ w ∧ w ≤ 9) : CI lL yX10_nearOf cX10_nearOf 3 FieldType.int 3 72 tT dD al [.ref (al 114), .int (iN q), .int (iN w)] M (fun r M' => r = (if M 124 (6 * q) = 3 then -1 else b2i (nrS M (M 124 (6 * q)) (M 124 (6 * q + 2)) w)) ∧ M' = M) := by
  refine CI.of (own := "RedSkiesModel") (ls0 := [some (.ref (al 114)), some (.int (iN q)), some (.int (iN w))]) (by decide +kernel) rfl (Nat.le_of_ble_eq_true rfl) rfl ?_
  intro pP eE sS mI aA bB mM cC X hr hlk
  obtain ⟨Q, hQ⟩ : ∃ Q : State → Prop, Q = MQ bB (QI tT dD al (fun r M' => r = (if M 124 (6 * q) = 3 then -1 else b2i (nrS M (M 124 (6 * q)) (M 124 (6 * q + 2)) w)) ∧ M' = M)) aA sS 0 0 (fA al) := ⟨_, rfl⟩
  rw [← hQ]
  refine g_aload_n X dX10_nearOf_0 rfl rfl ?_
  refine g_iload_n X dX10_nearOf_1 rfl rfl ?_
  refine g_callVI X (c_X10_isCounted lL tT dD al _ _ hW h0 h1) kd_114 fc9 lk_RX10_228 rfl rfl ⟨by decide, by decide⟩ rfl (Nat.le_of_ble_eq_true rfl) dX10_nearOf_2 (fun r2 M2 hc2 => ?_)
  obtain ⟨hr2, hm2⟩ := hc2
  subst r2
  subst M2
  refine g_if_ne (tgt := 12) X dX10_nearOf_5 (by decide) (b2i_i32 _) (fun q5 => ?_) (fun q5 => ?_)
  · have q5 := b2i_t q5
    refine g_aload_n X dX10_nearOf_12 rfl rfl ?_
    refine g_iload_n X dX10_nearOf_13 rfl rfl ?_
    refine g_iload_n X dX10_nearOf_14 rfl rfl ?_
    refine g_callVI X (c_X10_isNearPicture lL tT dD al _ _ _ hW h0 h1 h2) kd_114 fc9 lk_RX10_231 rfl rfl ⟨by decide, by decide⟩ rfl (Nat.le_of_ble_eq_true rfl) dX10_nearOf_15 (fun r15 M15 hc15 => ?_)
    obtain ⟨hr15, hm15⟩ := hc15
    subst r15
    subst M15
    refine g_if_eq (tgt := 25) X dX10_nearOf_18 (by decide) (b2i_i32 _) (fun q18 => ?_) (fun q18 => ?_)
    · have q18 := b2i_f q18
      refine g_iconst X dX10_nearOf_25 ?_
      rw [hQ]
      refine g_iret X hr hlk dX10_nearOf_26 ?_
      clear X hr hlk hQ
      exact ⟨by first | (rw [if_neg (by omega)]; exact b2i_1 (by assumption)) | (rw [if_neg (by omega)]; exact b2i_0 (by assumption)) | grind, rfl⟩
    · have q18 := b2i_t q18
      refine g_iconst X dX10_nearOf_21 ?_
      refine g_goto (tgt := 26) X dX10_nearOf_22 (by decide) ?_
      rw [hQ]
      refine g_iret X hr hlk dX10_nearOf_26 ?_
      clear X hr hlk hQ
      exact ⟨by first | (rw [if_neg (by omega)]; exact b2i_1 (by assumption)) | (rw [if_neg (by omega)]; exact b2i_0 (by assumption)) | grind, rfl⟩
  · have q5 := b2i_f q5
    refine g_iconst X dX10_nearOf_8 ?_
    refine g_goto (tgt := 26) X dX10_nearOf_9 (by decide) ?_
    rw [hQ]
    refine g_iret X hr hlk dX10_nearOf_26 ?_
    clear X hr hlk hQ
    exact ⟨by first | (rw [if_neg (by omega)]; exact b2i_1 (by assumption)) | (rw [if_neg (by omega)]; exact b2i_0 (by assumption)) | grind, rfl⟩
set_option maxRecDepth 100000 in
set_option maxHeartbeats 4000000 in
theorem c_X10_near (lL : Launch) (tT : TT) (dD : va_G) (al : Int → Nat) (M : Mem) (q w : Int) (hW : WV M) (h0 : i32 q) (h1 : i32 w) : CI lL yX10_near cX10_near 3 FieldType.int 4 94 tT dD al [.ref (al 114), .int (iN q), .int (iN w)] M (fun r M' => r = (if 0 ≤ q ∧ q < M 114 23 then (if 0 ≤ w ∧ w ≤ 9 then (if M 124 (6 * q) = 3 then -1 else b2i (nrS M (M 124 (6 * q)) (M 124 (6 * q + 2)) w)) else -102) else -101) ∧ M' = M) := by
  refine CI.of (own := "RedSkiesModel") (ls0 := [some (.ref (al 114)), some (.int (iN q)), some (.int (iN w))]) (by decide +kernel) rfl (Nat.le_of_ble_eq_true rfl) rfl ?_
  intro pP eE sS mI aA bB mM cC X hr hlk
  obtain ⟨Q, hQ⟩ : ∃ Q : State → Prop, Q = MQ bB (QI tT dD al (fun r M' => r = (if 0 ≤ q ∧ q < M 114 23 then (if 0 ≤ w ∧ w ≤ 9 then (if M 124 (6 * q) = 3 then -1 else b2i (nrS M (M 124 (6 * q)) (M 124 (6 * q + 2)) w)) else -102) else -101) ∧ M' = M)) aA sS 0 0 (fA al) := ⟨_, rfl⟩
  rw [← hQ]
  have w2 := hW.n
  refine g_aload_n X dX10_near_0 rfl rfl ?_
  refine g_iload_n X dX10_near_1 rfl rfl ?_
  refine g_callVI X (c_X10_isPicture lL tT dD al _ _ h0 ⟨by omega, by omega⟩) kd_114 fc9 lk_RX10_191 rfl rfl ⟨by decide, by decide⟩ rfl (Nat.le_of_ble_eq_true rfl) dX10_near_2 (fun r2 M2 hc2 => ?_)
  obtain ⟨hr2, hm2⟩ := hc2
  subst r2
  subst M2
  refine g_if_ne (tgt := 11) X dX10_near_5 (by decide) (b2i_i32 _) (fun q5 => ?_) (fun q5 => ?_)
  · have q5 := b2i_t q5
    refine g_iload_n X dX10_near_11 rfl rfl ?_
    refine g_callSI X (c_X10_isWindow lL tT dD al _ _ h1) lk_RX10_235 rfl rfl ⟨by decide, by decide⟩ rfl (Nat.le_of_ble_eq_true rfl) dX10_near_12 (fun r12 M12 hc12 => ?_)
    obtain ⟨hr12, hm12⟩ := hc12
    subst r12
    subst M12
    refine g_if_eq (tgt := 27) X dX10_near_15 (by decide) (b2i_i32 _) (fun q15 => ?_) (fun q15 => ?_)
    · have q15 := b2i_f q15
      refine g_bipush X dX10_near_27 (by decide +kernel) ?_
      rw [hQ]
      refine g_iret X hr hlk dX10_near_29 ?_
      clear X hr hlk hQ
      exact ⟨by grind, rfl⟩
    · have q15 := b2i_t q15
      refine g_aload_n X dX10_near_18 rfl rfl ?_
      refine g_iload_n X dX10_near_19 rfl rfl ?_
      refine g_iload_n X dX10_near_20 rfl rfl ?_
      refine g_callVI X (c_X10_nearOf lL tT dD al _ _ _ hW (by omega) (by omega) (by omega)) kd_114 fc9 lk_RX10_238 rfl rfl ⟨by decide, by decide⟩ rfl (Nat.le_of_ble_eq_true rfl) dX10_near_21 (fun r21 M21 hc21 => ?_)
      obtain ⟨hr21, hm21⟩ := hc21
      subst r21
      subst M21
      refine g_goto (tgt := 29) X dX10_near_24 (by decide) ?_
      rw [hQ]
      refine g_iret X hr hlk dX10_near_29 ?_
      clear X hr hlk hQ
      exact ⟨by grind, rfl⟩
  · have q5 := b2i_f q5
    refine g_bipush X dX10_near_8 (by decide +kernel) ?_
    rw [hQ]
    refine g_iret X hr hlk dX10_near_10 ?_
    clear X hr hlk hQ
    exact ⟨by grind, rfl⟩
set_option maxRecDepth 100000 in
set_option maxHeartbeats 4000000 in
theorem c_X10_classOf (lL : Launch) (tT : TT) (dD : va_G) (al : Int → Nat) (M : Mem) (v : Int) (hW : WV M) (h0 : i32 v) : CI lL yX10_classOf cX10_classOf 4 FieldType.int 0 0 tT dD al [.ref (al 114), .int (iN v)] M (fun r M' => r = clsS M v ∧ M' = M) := by
  refine CI.of (own := "RedSkiesModel") (ls0 := [some (.ref (al 114)), some (.int (iN v)), none, none]) (by decide +kernel) rfl (Nat.le_of_ble_eq_true rfl) rfl ?_
  intro pP eE sS mI aA bB mM cC X hr hlk
  obtain ⟨Q, hQ⟩ : ∃ Q : State → Prop, Q = MQ bB (QI tT dD al (fun r M' => r = clsS M v ∧ M' = M)) aA sS 0 0 (fA al) := ⟨_, rfl⟩
  rw [← hQ]
  have w1 := hW.law
  refine g_iconst X dX10_classOf_0 ?_
  refine g_istore_n_2 X dX10_classOf_1 rfl rfl (fun v2_1 ev2_1 => ?_)
  subst v2_1
  refine g_iconst X dX10_classOf_2 ?_
  refine g_istore_n_3 X dX10_classOf_3 rfl rfl (fun v3_3 ev3_3 => ?_)
  subst v3_3
  have L_4 : ∀ (n : Nat) (b : Int) (k : Int), (0 ≤ k) → (k ≤ M 114 17) → (b = sm (fun k => if M 121 k ≤ v then 1 else 0) k.toNat) → (5 - k).toNat < n → Gd pP lL eE (rmN 0 0) sS mI aA bB mM cC 0 0 Q tT dD al (fA al) 4 [some (.ref (al 114)), some (.int (iN v)), some (.int (iN b)), some (.int (iN k))] [] M := by
    intro n
    induction n with
    | zero => intro b k hk hk2 hb hm; exact absurd hm (Nat.not_lt_zero _)
    | succ n ih =>
      intro b k hk hk2 hb hm
      have ih_4 := ih
      clear ih
      refine g_iload_n X dX10_classOf_4 rfl rfl ?_
      refine g_aload_n X dX10_classOf_5 rfl rfl ?_
      refine g_geti (kz := 17) X kd_114 fc9 (k := 17) (by decide) rfl wd_844 rfl dX10_classOf_6 ?_
      refine g_icmp_ge (tgt := 36) X dX10_classOf_9 (by decide) ⟨by omega, by omega⟩ ⟨by omega, by omega⟩ (fun q9 => ?_) (fun q9 => ?_)
      · refine g_iload_n X dX10_classOf_36 rfl rfl ?_
        rw [hQ]
        refine g_iret X hr hlk dX10_classOf_37 ?_
        obtain rfl : k = M 114 17 := by omega
        exact ⟨hb, rfl⟩
      · refine g_iload_n X dX10_classOf_12 rfl rfl ?_
        refine g_aload_n X dX10_classOf_13 rfl rfl ?_
        refine g_getr (r := 121) X kd_114 fc9 (k := 18) (by decide) rfl wd_845 rfl (by decide) dX10_classOf_14 ?_
        refine g_iload_n X dX10_classOf_17 rfl rfl ?_
        refine g_iald X kd_121 (by omega) (by omega) dX10_classOf_18 ?_
        have w2 := w1.2.1 k hk (by omega)
        refine g_iload_n X dX10_classOf_19 rfl rfl ?_
        refine g_icmp_gt (tgt := 27) X dX10_classOf_20 (by decide) ⟨by omega, by omega⟩ ⟨by omega, by omega⟩ (fun q20 => ?_) (fun q20 => ?_)
        · refine g_iconst X dX10_classOf_27 ?_
          refine g_iadd X dX10_classOf_28 ?_
          refine g_istore_n_2 X dX10_classOf_29 rfl rfl (fun v2_29 ev2_29 => ?_)
          subst v2_29
          refine g_iinc_3 X dX10_classOf_30 rfl (fun v3_30 ev3_30 => ?_)
          subst v3_30
          refine g_goto (tgt := 4) X dX10_classOf_33 (by decide) ?_
          exact g_sub (ih_4 _ _ (by omega) (by omega) (by clear X hr hlk hQ ih_4; rw [sm_s _ hk, hb]; grind) (by omega)) ⟨rfl, rfl, rfl, rfl, trivial⟩
        · refine g_iconst X dX10_classOf_23 ?_
          refine g_goto (tgt := 28) X dX10_classOf_24 (by decide) ?_
          refine g_iadd X dX10_classOf_28 ?_
          refine g_istore_n_2 X dX10_classOf_29 rfl rfl (fun v2_29 ev2_29 => ?_)
          subst v2_29
          refine g_iinc_3 X dX10_classOf_30 rfl (fun v3_30 ev3_30 => ?_)
          subst v3_30
          refine g_goto (tgt := 4) X dX10_classOf_33 (by decide) ?_
          exact g_sub (ih_4 _ _ (by omega) (by omega) (by clear X hr hlk hQ ih_4; rw [sm_s _ hk, hb]; grind) (by omega)) ⟨rfl, rfl, rfl, rfl, trivial⟩
  exact g_sub (L_4 _ _ _ (by omega) (by omega) (rfl) (Nat.lt_succ_self _)) ⟨rfl, rfl, rfl, rfl, trivial⟩
set_option maxRecDepth 100000 in
set_option maxHeartbeats 4000000 in
theorem c_X10_lowClass (lL : Launch) (tT : TT) (dD : va_G) (al : Int → Nat) (M : Mem) (m q : Int) (hW : WV M) (hm0 : 0 ≤ m) (hm1 : m < M 114 15) (h0 : 0 ≤ q) (h1 : q < M 114 23) : CI lL yX10_lowClass cX10_lowClass 3 FieldType.int 4 93 tT dD al [.ref (al 114), .int (iN m), .int (iN q)] M (fun r M' => r = lowS M m q ∧ M' = M) := by
  refine CI.of (own := "RedSkiesModel") (ls0 := [some (.ref (al 114)), some (.int (iN m)), some (.int (iN q))]) (by decide +kernel) rfl (Nat.le_of_ble_eq_true rfl) rfl ?_
  intro pP eE sS mI aA bB mM cC X hr hlk
  obtain ⟨Q, hQ⟩ : ∃ Q : State → Prop, Q = MQ bB (QI tT dD al (fun r M' => r = lowS M m q ∧ M' = M)) aA sS 0 0 (fA al) := ⟨_, rfl⟩
  rw [← hQ]
  have w1 := hW.mea
  have w2 := vlu_rng hW (p := q) hm0 (by omega)
  have w3 := hW.law
  refine g_aload_n X dX10_lowClass_0 rfl rfl ?_
  refine g_aload_n X dX10_lowClass_1 rfl rfl ?_
  refine g_iload_n X dX10_lowClass_2 rfl rfl ?_
  refine g_iload_n X dX10_lowClass_3 rfl rfl ?_
  refine g_callVI X (c_X10_valueOf lL tT dD al _ _ _ hW hm0 hm1 h0 h1) kd_114 fc9 lk_RX10_218 rfl rfl ⟨by decide, by decide⟩ rfl (Nat.le_of_ble_eq_true rfl) dX10_lowClass_4 (fun r4 M4 hc4 => ?_)
  obtain ⟨hr4, hm4⟩ := hc4
  subst r4
  subst M4
  refine g_aload_n X dX10_lowClass_7 rfl rfl ?_
  refine g_geti (kz := 19) X kd_114 fc9 (k := 19) (by decide) rfl wd_846 rfl dX10_lowClass_8 ?_
  refine g_isub X dX10_lowClass_11 ?_
  refine g_callVI X (c_X10_classOf lL tT dD al _ _ hW ⟨by omega, by omega⟩) kd_114 fc9 lk_RX10_309 rfl rfl ⟨by decide, by decide⟩ rfl (Nat.le_of_ble_eq_true rfl) dX10_lowClass_12 (fun r12 M12 hc12 => ?_)
  obtain ⟨hr12, hm12⟩ := hc12
  subst r12
  subst M12
  rw [hQ]
  refine g_iret X hr hlk dX10_lowClass_15 ?_
  exact ⟨rfl, rfl⟩
set_option maxRecDepth 100000 in
set_option maxHeartbeats 4000000 in
theorem c_X10_highClass (lL : Launch) (tT : TT) (dD : va_G) (al : Int → Nat) (M : Mem) (m q : Int) (hW : WV M) (hm0 : 0 ≤ m) (hm1 : m < M 114 15) (h0 : 0 ≤ q) (h1 : q < M 114 23) : CI lL yX10_highClass cX10_highClass 3 FieldType.int 4 93 tT dD al [.ref (al 114), .int (iN m), .int (iN q)] M (fun r M' => r = highS M m q ∧ M' = M) := by
  refine CI.of (own := "RedSkiesModel") (ls0 := [some (.ref (al 114)), some (.int (iN m)), some (.int (iN q))]) (by decide +kernel) rfl (Nat.le_of_ble_eq_true rfl) rfl ?_
  intro pP eE sS mI aA bB mM cC X hr hlk
  obtain ⟨Q, hQ⟩ : ∃ Q : State → Prop, Q = MQ bB (QI tT dD al (fun r M' => r = highS M m q ∧ M' = M)) aA sS 0 0 (fA al) := ⟨_, rfl⟩
  rw [← hQ]
  have w1 := hW.mea
  have w2 := vlu_rng hW (p := q) hm0 (by omega)
  have w3 := hW.law
  refine g_aload_n X dX10_highClass_0 rfl rfl ?_
  refine g_aload_n X dX10_highClass_1 rfl rfl ?_
  refine g_iload_n X dX10_highClass_2 rfl rfl ?_
  refine g_iload_n X dX10_highClass_3 rfl rfl ?_
  refine g_callVI X (c_X10_valueOf lL tT dD al _ _ _ hW hm0 hm1 h0 h1) kd_114 fc9 lk_RX10_218 rfl rfl ⟨by decide, by decide⟩ rfl (Nat.le_of_ble_eq_true rfl) dX10_highClass_4 (fun r4 M4 hc4 => ?_)
  obtain ⟨hr4, hm4⟩ := hc4
  subst r4
  subst M4
  refine g_aload_n X dX10_highClass_7 rfl rfl ?_
  refine g_geti (kz := 19) X kd_114 fc9 (k := 19) (by decide) rfl wd_846 rfl dX10_highClass_8 ?_
  refine g_iadd X dX10_highClass_11 ?_
  refine g_callVI X (c_X10_classOf lL tT dD al _ _ hW ⟨by omega, by omega⟩) kd_114 fc9 lk_RX10_309 rfl rfl ⟨by decide, by decide⟩ rfl (Nat.le_of_ble_eq_true rfl) dX10_highClass_12 (fun r12 M12 hc12 => ?_)
  obtain ⟨hr12, hm12⟩ := hc12
  subst r12
  subst M12
  rw [hQ]
  refine g_iret X hr hlk dX10_highClass_15 ?_
  exact ⟨rfl, rfl⟩
