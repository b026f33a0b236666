set_option maxRecDepth 100000 in
set_option maxHeartbeats 4000000 in
theorem c_J6_bitCount_0f7a4 (lL : Launch) (tT : TT) (dD : va_G) (al : Int → Nat) (M : Mem) (b : Int) (h0 : 0 ≤ b) (h1 : b < 65536) : CI lL yJ6_bitCount_0f7a4 cJ6_bitCount_0f7a4 1 FieldType.int 0 0 tT dD al [.int (iN b)] M (fun r M' => r = bcS b ∧ M' = M) := by
  refine CI.of (own := "java/lang/Integer") (ls0 := [some (.int (iN b))]) (by decide +kernel) rfl (Nat.le_of_ble_eq_true rfl) rfl ?_
  intro pP eE sS mI aA bB mM cC X hr hlk
  obtain ⟨Q, hQ⟩ : ∃ Q : State → Prop, Q = MQ bB (QI tT dD al (fun r M' => r = bcS b ∧ M' = M)) aA sS 0 0 (fA al) := ⟨_, rfl⟩
  rw [← hQ]
  refine g_iload_n X dJ6_bitCount_0f7a4_0 rfl rfl ?_
  refine g_iload_n X dJ6_bitCount_0f7a4_1 rfl rfl ?_
  refine g_iconst X dJ6_bitCount_0f7a4_2 ?_
  refine g_iushr X dJ6_bitCount_0f7a4_3 ?_
  refine g_ldcw X (n := 1431655765) wd_664 (by decide +kernel) dJ6_bitCount_0f7a4_4 ?_
  refine g_iand X dJ6_bitCount_0f7a4_7 ?_
  refine g_isub X dJ6_bitCount_0f7a4_8 ?_
  refine g_istore_n_0 X dJ6_bitCount_0f7a4_9 rfl (fun v0_9 ev0_9 => ?_)
  subst v0_9
  refine g_iload_n X dJ6_bitCount_0f7a4_10 rfl rfl ?_
  refine g_ldcw X (n := 858993459) wd_665 (by decide +kernel) dJ6_bitCount_0f7a4_11 ?_
  refine g_iand X dJ6_bitCount_0f7a4_14 ?_
  refine g_iload_n X dJ6_bitCount_0f7a4_15 rfl rfl ?_
  refine g_iconst X dJ6_bitCount_0f7a4_16 ?_
  refine g_iushr X dJ6_bitCount_0f7a4_17 ?_
  refine g_ldcw X (n := 858993459) wd_665 (by decide +kernel) dJ6_bitCount_0f7a4_18 ?_
  refine g_iand X dJ6_bitCount_0f7a4_21 ?_
  refine g_iadd X dJ6_bitCount_0f7a4_22 ?_
  refine g_istore_n_0 X dJ6_bitCount_0f7a4_23 rfl (fun v0_23 ev0_23 => ?_)
  subst v0_23
  refine g_iload_n X dJ6_bitCount_0f7a4_24 rfl rfl ?_
  refine g_iload_n X dJ6_bitCount_0f7a4_25 rfl rfl ?_
  refine g_iconst X dJ6_bitCount_0f7a4_26 ?_
  refine g_iushr X dJ6_bitCount_0f7a4_27 ?_
  refine g_iadd X dJ6_bitCount_0f7a4_28 ?_
  refine g_ldcw X (n := 252645135) wd_666 (by decide +kernel) dJ6_bitCount_0f7a4_29 ?_
  refine g_iand X dJ6_bitCount_0f7a4_32 ?_
  refine g_istore_n_0 X dJ6_bitCount_0f7a4_33 rfl (fun v0_33 ev0_33 => ?_)
  subst v0_33
  refine g_iload_n X dJ6_bitCount_0f7a4_34 rfl rfl ?_
  refine g_iload_n X dJ6_bitCount_0f7a4_35 rfl rfl ?_
  refine g_bipush X dJ6_bitCount_0f7a4_36 (by decide +kernel) ?_
  refine g_iushr X dJ6_bitCount_0f7a4_38 ?_
  refine g_iadd X dJ6_bitCount_0f7a4_39 ?_
  refine g_istore_n_0 X dJ6_bitCount_0f7a4_40 rfl (fun v0_40 ev0_40 => ?_)
  subst v0_40
  refine g_iload_n X dJ6_bitCount_0f7a4_41 rfl rfl ?_
  refine g_iload_n X dJ6_bitCount_0f7a4_42 rfl rfl ?_
  refine g_bipush X dJ6_bitCount_0f7a4_43 (by decide +kernel) ?_
  refine g_iushr X dJ6_bitCount_0f7a4_45 ?_
  refine g_iadd X dJ6_bitCount_0f7a4_46 ?_
  refine g_istore_n_0 X dJ6_bitCount_0f7a4_47 rfl (fun v0_47 ev0_47 => ?_)
  subst v0_47
  refine g_iload_n X dJ6_bitCount_0f7a4_48 rfl rfl ?_
  refine g_bipush X dJ6_bitCount_0f7a4_49 (by decide +kernel) ?_
  refine g_iand X dJ6_bitCount_0f7a4_51 ?_
  rw [hQ]
  refine g_iret X hr hlk dJ6_bitCount_0f7a4_52 ?_
  exact ⟨bc_ok h0 h1, rfl⟩
set_option maxRecDepth 100000 in
set_option maxHeartbeats 4000000 in
theorem c_X0_holds (lL : Launch) (tT : TT) (dD : va_G) (al : Int → Nat) (M : Mem) (b q : Int) (h0 : 0 ≤ b ∧ b < 65536) (h1 : 0 ≤ q ∧ q < 16) : CI lL yX0_holds cX0_holds 2 FieldType.boolean 0 0 tT dD al [.int (iN b), .int (iN q)] M (fun r M' => r = b2i (bit b q = 1) ∧ M' = M) := by
  refine CI.of (own := "RedSkies$Dealing") (ls0 := [some (.int (iN b)), some (.int (iN q))]) (by decide +kernel) rfl (Nat.le_of_ble_eq_true rfl) rfl ?_
  intro pP eE sS mI aA bB mM cC X hr hlk
  obtain ⟨Q, hQ⟩ : ∃ Q : State → Prop, Q = MQ bB (QI tT dD al (fun r M' => r = b2i (bit b q = 1) ∧ M' = M)) aA sS 0 0 (fA al) := ⟨_, rfl⟩
  rw [← hQ]
  have hh := hold_eq h0.1 h0.2 h1.1 h1.2
  have hb := bit_01 b q
  refine g_iload_n X dX0_holds_0 rfl rfl ?_
  refine g_iload_n X dX0_holds_1 rfl rfl ?_
  refine g_ishr X dX0_holds_2 ?_
  refine g_iconst X dX0_holds_3 ?_
  refine g_iand X dX0_holds_4 ?_
  refine g_iconst X dX0_holds_5 ?_
  refine g_icmp_ne (tgt := 13) X dX0_holds_6 (by decide) ⟨by rw [hh]; omega, by rw [hh]; omega⟩ (by decide) (fun q6 => ?_) (fun q6 => ?_)
  · refine g_iconst X dX0_holds_13 ?_
    rw [hQ]
    refine g_zret X hr hlk (by decide) dX0_holds_14 ?_
    rw [hh] at q6
    first | exact ⟨b2i_1 (by omega), rfl⟩ | exact ⟨b2i_0 (by omega), rfl⟩
  · refine g_iconst X dX0_holds_9 ?_
    refine g_goto (tgt := 14) X dX0_holds_10 (by decide) ?_
    rw [hQ]
    refine g_zret X hr hlk (by decide) dX0_holds_14 ?_
    rw [hh] at q6
    first | exact ⟨b2i_1 (by omega), rfl⟩ | exact ⟨b2i_0 (by omega), rfl⟩
set_option maxRecDepth 100000 in
set_option maxHeartbeats 4000000 in
theorem c_X0_ofHand (lL : Launch) (tT : TT) (dD : va_G) (al : Int → Nat) (M : Mem) (h cb : Int) (hh : i32 h) (hb : 0 ≤ cb ∧ cb < 65536) (hv : ∀ j, 0 ≤ j → j < 16 → bit cb j = 1 → 0 ≤ M 101 j ∧ M 101 j ≤ 4) : CI lL yX0_ofHand cX0_ofHand 5 FieldType.int 1 21 tT dD al [.ref (al 100), .int (iN h), .int (iN cb)] M (fun r M' => r = ofS M cb h 16 ∧ M' = M) := by
  refine CI.of (own := "RedSkies$Dealing") (ls0 := [some (.ref (al 100)), some (.int (iN h)), some (.int (iN cb)), none, none]) (by decide +kernel) rfl (Nat.le_of_ble_eq_true rfl) rfl ?_
  intro pP eE sS mI aA bB mM cC X hr hlk
  obtain ⟨Q, hQ⟩ : ∃ Q : State → Prop, Q = MQ bB (QI tT dD al (fun r M' => r = ofS M cb h 16 ∧ M' = M)) aA sS 0 0 (fA al) := ⟨_, rfl⟩
  rw [← hQ]
  refine g_iconst X dX0_ofHand_0 ?_
  refine g_istore_n_3 X dX0_ofHand_1 rfl rfl (fun v3_1 ev3_1 => ?_)
  subst v3_1
  refine g_iconst X dX0_ofHand_2 ?_
  refine g_istore_4 X dX0_ofHand_3 rfl (fun v4_3 ev4_3 => ?_)
  subst v4_3
  have L_5 : ∀ (n : Nat) (b : Int) (k : Int), (0 ≤ k) → (k ≤ 16) → (b = ofS M cb h k.toNat) → (16 - k).toNat < n → Gd pP lL eE (rmN 1 21) sS mI aA bB mM cC 0 0 Q tT dD al (fA al) 5 [some (.ref (al 100)), some (.int (iN h)), some (.int (iN cb)), some (.int (iN b)), some (.int (iN k))] [] M := by
    intro n
    induction n with
    | zero => intro b k hk hk2 hbb hm; exact absurd hm (Nat.not_lt_zero _)
    | succ n ih =>
      intro b k hk hk2 hbb hm
      have ih_5 := ih
      clear ih
      refine g_iload X dX0_ofHand_5 rfl ?_
      refine g_bipush X dX0_ofHand_7 (by decide +kernel) ?_
      refine g_icmp_ge (tgt := 45) X dX0_ofHand_9 (by decide) ⟨by omega, by omega⟩ (by decide) (fun q9 => ?_) (fun q9 => ?_)
      · refine g_iload_n X dX0_ofHand_45 rfl rfl ?_
        rw [hQ]
        refine g_iret X hr hlk dX0_ofHand_46 ?_
        obtain rfl : k = 16 := by omega
        exact ⟨hbb, rfl⟩
      · refine g_iload_n X dX0_ofHand_12 rfl rfl ?_
        refine g_iload X dX0_ofHand_13 rfl ?_
        refine g_callSI X (c_X0_holds lL tT dD al _ _ _ hb ⟨hk, by omega⟩) lk_RX0_23 rfl rfl ⟨by decide, by decide⟩ rfl (Nat.le_of_ble_eq_true rfl) dX0_ofHand_15 (fun r15 M15 hc15 => ?_)
        obtain ⟨hr15, hm15⟩ := hc15
        subst r15
        subst M15
        refine g_if_eq (tgt := 39) X dX0_ofHand_18 (by decide) (b2i_i32 _) (fun q18 => ?_) (fun q18 => ?_)
        · have q18 := b2i_f q18
          refine g_iinc_4 X dX0_ofHand_39 rfl (fun v4_39 ev4_39 => ?_)
          subst v4_39
          refine g_goto (tgt := 5) X dX0_ofHand_42 (by decide) ?_
          exact g_sub (ih_5 _ _ (by omega) (by omega) (by first | (rw [hbb]; exact or_acc (ofS_0 M cb h) (ofS_1 M cb h) hk (by omega) ⟨q18, q29⟩) | (rw [hbb]; exact sm_skip hk (ofS_0 M cb h k (fun z => q29 z.2))) | (rw [hbb]; exact sm_skip hk (ofS_0 M cb h k (fun z => q18 z.1)))) (by omega)) ⟨rfl, rfl, rfl, rfl, rfl, trivial⟩
        · have q18 := b2i_t q18
          have hvk := hv k hk (by omega) q18
          refine g_aload_n X dX0_ofHand_21 rfl rfl ?_
          refine g_getr (r := 101) X kd_100 fc0 (k := 0) (by decide) rfl wd_257 rfl (by decide) dX0_ofHand_22 ?_
          refine g_iload X dX0_ofHand_25 rfl ?_
          refine g_iald X kd_101 (by omega) (by omega) dX0_ofHand_27 ?_
          refine g_iload_n X dX0_ofHand_28 rfl rfl ?_
          refine g_icmp_ne (tgt := 39) X dX0_ofHand_29 (by decide) ⟨by omega, by omega⟩ ⟨by omega, by omega⟩ (fun q29 => ?_) (fun q29 => ?_)
          · refine g_iinc_4 X dX0_ofHand_39 rfl (fun v4_39 ev4_39 => ?_)
            subst v4_39
            refine g_goto (tgt := 5) X dX0_ofHand_42 (by decide) ?_
            exact g_sub (ih_5 _ _ (by omega) (by omega) (by first | (rw [hbb]; exact or_acc (ofS_0 M cb h) (ofS_1 M cb h) hk (by omega) ⟨q18, q29⟩) | (rw [hbb]; exact sm_skip hk (ofS_0 M cb h k (fun z => q29 z.2))) | (rw [hbb]; exact sm_skip hk (ofS_0 M cb h k (fun z => q18 z.1)))) (by omega)) ⟨rfl, rfl, rfl, rfl, rfl, trivial⟩
          · refine g_iload_n X dX0_ofHand_32 rfl rfl ?_
            refine g_iconst X dX0_ofHand_33 ?_
            refine g_iload X dX0_ofHand_34 rfl ?_
            refine g_ishl X dX0_ofHand_36 ?_
            refine g_ior X dX0_ofHand_37 ?_
            refine g_istore_n_3 X dX0_ofHand_38 rfl rfl (fun v3_38 ev3_38 => ?_)
            subst v3_38
            refine g_iinc_4 X dX0_ofHand_39 rfl (fun v4_39 ev4_39 => ?_)
            subst v4_39
            refine g_goto (tgt := 5) X dX0_ofHand_42 (by decide) ?_
            exact g_sub (ih_5 _ _ (by omega) (by omega) (by first | (rw [hbb]; exact or_acc (ofS_0 M cb h) (ofS_1 M cb h) hk (by omega) ⟨q18, q29⟩) | (rw [hbb]; exact sm_skip hk (ofS_0 M cb h k (fun z => q29 z.2))) | (rw [hbb]; exact sm_skip hk (ofS_0 M cb h k (fun z => q18 z.1)))) (by omega)) ⟨rfl, rfl, rfl, rfl, rfl, trivial⟩
  exact g_sub (L_5 _ _ _ (by omega) (by omega) (rfl) (Nat.lt_succ_self _)) ⟨rfl, rfl, rfl, rfl, rfl, trivial⟩
set_option maxRecDepth 100000 in
set_option maxHeartbeats 4000000 in
theorem c_X0_against (lL : Launch) (tT : TT) (dD : va_G) (al : Int → Nat) (M : Mem) (q b : Int) (hb : 0 ≤ b ∧ b < 65536) (hv : ∀ j, 0 ≤ j → j < 16 → bit b j = 1 → (0 ≤ M 101 j ∧ M 101 j ≤ 4) ∧ (-1 ≤ M 102 j ∧ M 102 j ≤ 1000000)) (h0 : 0 ≤ q ∧ q < 16) (hm : bit b q = 1) : CI lL yX0_against cX0_against 5 FieldType.int 1 21 tT dD al [.ref (al 100), .int (iN q), .int (iN b)] M (fun r M' => r = agP 16 (bit b) (M 101) (M 102) q ∧ M' = M) := by
  refine CI.of (own := "RedSkies$Dealing") (ls0 := [some (.ref (al 100)), some (.int (iN q)), some (.int (iN b)), none, none]) (by decide +kernel) rfl (Nat.le_of_ble_eq_true rfl) rfl ?_
  intro pP eE sS mI aA bB mM cC X hr hlk
  obtain ⟨Q, hQ⟩ : ∃ Q : State → Prop, Q = MQ bB (QI tT dD al (fun r M' => r = agP 16 (bit b) (M 101) (M 102) q ∧ M' = M)) aA sS 0 0 (fA al) := ⟨_, rfl⟩
  rw [← hQ]
  have hq := hv q h0.1 h0.2 hm
  refine g_iconst X dX0_against_0 ?_
  refine g_istore_n_3 X dX0_against_1 rfl rfl (fun v3_1 ev3_1 => ?_)
  subst v3_1
  refine g_iconst X dX0_against_2 ?_
  refine g_istore_4 X dX0_against_3 rfl (fun v4_3 ev4_3 => ?_)
  subst v4_3
  have L_5 : ∀ (n : Nat) (a : Int) (k : Int), (0 ≤ k) → (k ≤ 16) → (a = sm (fun j => if bit b j = 1 ∧ M 101 j = M 101 q then sgn (M 102 q - M 102 j) else 0) k.toNat) → (16 - k).toNat < n → Gd pP lL eE (rmN 1 21) sS mI aA bB mM cC 0 0 Q tT dD al (fA al) 5 [some (.ref (al 100)), some (.int (iN q)), some (.int (iN b)), some (.int (iN a)), some (.int (iN k))] [] M := by
    intro n
    induction n with
    | zero => intro a k hk hk2 ha hm; exact absurd hm (Nat.not_lt_zero _)
    | succ n ih =>
      intro a k hk hk2 ha hm
      have ih_5 := ih
      clear ih
      refine g_iload X dX0_against_5 rfl ?_
      refine g_bipush X dX0_against_7 (by decide +kernel) ?_
      refine g_icmp_ge (tgt := 84) X dX0_against_9 (by decide) ⟨by omega, by omega⟩ (by decide) (fun q9 => ?_) (fun q9 => ?_)
      · refine g_iload_n X dX0_against_84 rfl rfl ?_
        rw [hQ]
        refine g_iret X hr hlk dX0_against_85 ?_
        obtain rfl : k = 16 := by omega
        exact ⟨ha, rfl⟩
      · refine g_iload_n X dX0_against_12 rfl rfl ?_
        refine g_iload X dX0_against_13 rfl ?_
        refine g_callSI X (c_X0_holds lL tT dD al _ _ _ hb ⟨hk, by omega⟩) lk_RX0_23 rfl rfl ⟨by decide, by decide⟩ rfl (Nat.le_of_ble_eq_true rfl) dX0_against_15 (fun r15 M15 hc15 => ?_)
        obtain ⟨hr15, hm15⟩ := hc15
        subst r15
        subst M15
        refine g_if_eq (tgt := 78) X dX0_against_18 (by decide) (b2i_i32 _) (fun q18 => ?_) (fun q18 => ?_)
        · have q18 := b2i_f q18
          refine g_iinc_4 X dX0_against_78 rfl (fun v4_78 ev4_78 => ?_)
          subst v4_78
          refine g_goto (tgt := 5) X dX0_against_81 (by decide) ?_
          exact g_sub (ih_5 _ _ (by omega) (by omega) (by first | (rw [ha]; exact sm_skip hk (if_neg (fun z => q18 z.1))) | (rw [ha]; exact sm_skip hk (if_neg (fun z => q34 z.2))) | (rw [sm_s _ hk, ← ha, if_pos ⟨q18, q34⟩]; clear ha; unfold sgn; first | (rw [if_pos (by omega)]; done) | (rw [if_neg (by omega), if_pos (by omega)]; done) | (rw [if_neg (by omega), if_neg (by omega), Int.add_zero]; done))) (by omega)) ⟨rfl, rfl, rfl, rfl, rfl, trivial⟩
        · have q18 := b2i_t q18
          have hvk := hv k hk (by omega) q18
          refine g_aload_n X dX0_against_21 rfl rfl ?_
          refine g_getr (r := 101) X kd_100 fc0 (k := 0) (by decide) rfl wd_257 rfl (by decide) dX0_against_22 ?_
          refine g_iload X dX0_against_25 rfl ?_
          refine g_iald X kd_101 (by omega) (by omega) dX0_against_27 ?_
          refine g_aload_n X dX0_against_28 rfl rfl ?_
          refine g_getr (r := 101) X kd_100 fc0 (k := 0) (by decide) rfl wd_257 rfl (by decide) dX0_against_29 ?_
          refine g_iload_n X dX0_against_32 rfl rfl ?_
          refine g_iald X kd_101 (by omega) (by omega) dX0_against_33 ?_
          refine g_icmp_ne (tgt := 78) X dX0_against_34 (by decide) ⟨by omega, by omega⟩ ⟨by omega, by omega⟩ (fun q34 => ?_) (fun q34 => ?_)
          · refine g_iinc_4 X dX0_against_78 rfl (fun v4_78 ev4_78 => ?_)
            subst v4_78
            refine g_goto (tgt := 5) X dX0_against_81 (by decide) ?_
            exact g_sub (ih_5 _ _ (by omega) (by omega) (by first | (rw [ha]; exact sm_skip hk (if_neg (fun z => q18 z.1))) | (rw [ha]; exact sm_skip hk (if_neg (fun z => q34 z.2))) | (rw [sm_s _ hk, ← ha, if_pos ⟨q18, q34⟩]; clear ha; unfold sgn; first | (rw [if_pos (by omega)]; done) | (rw [if_neg (by omega), if_pos (by omega)]; done) | (rw [if_neg (by omega), if_neg (by omega), Int.add_zero]; done))) (by omega)) ⟨rfl, rfl, rfl, rfl, rfl, trivial⟩
          · refine g_aload_n X dX0_against_37 rfl rfl ?_
            refine g_getr (r := 102) X kd_100 fc0 (k := 1) (by decide) rfl wd_259 rfl (by decide) dX0_against_38 ?_
            refine g_iload_n X dX0_against_41 rfl rfl ?_
            refine g_iald X kd_102 (by omega) (by omega) dX0_against_42 ?_
            refine g_aload_n X dX0_against_43 rfl rfl ?_
            refine g_getr (r := 102) X kd_100 fc0 (k := 1) (by decide) rfl wd_259 rfl (by decide) dX0_against_44 ?_
            refine g_iload X dX0_against_47 rfl ?_
            refine g_iald X kd_102 (by omega) (by omega) dX0_against_49 ?_
            refine g_icmp_le (tgt := 59) X dX0_against_50 (by decide) ⟨by omega, by omega⟩ ⟨by omega, by omega⟩ (fun q50 => ?_) (fun q50 => ?_)
            · refine g_aload_n X dX0_against_59 rfl rfl ?_
              refine g_getr (r := 102) X kd_100 fc0 (k := 1) (by decide) rfl wd_259 rfl (by decide) dX0_against_60 ?_
              refine g_iload_n X dX0_against_63 rfl rfl ?_
              refine g_iald X kd_102 (by omega) (by omega) dX0_against_64 ?_
              refine g_aload_n X dX0_against_65 rfl rfl ?_
              refine g_getr (r := 102) X kd_100 fc0 (k := 1) (by decide) rfl wd_259 rfl (by decide) dX0_against_66 ?_
              refine g_iload X dX0_against_69 rfl ?_
              refine g_iald X kd_102 (by omega) (by omega) dX0_against_71 ?_
              refine g_icmp_ge (tgt := 78) X dX0_against_72 (by decide) ⟨by omega, by omega⟩ ⟨by omega, by omega⟩ (fun q72 => ?_) (fun q72 => ?_)
              · refine g_iinc_4 X dX0_against_78 rfl (fun v4_78 ev4_78 => ?_)
                subst v4_78
                refine g_goto (tgt := 5) X dX0_against_81 (by decide) ?_
                exact g_sub (ih_5 _ _ (by omega) (by omega) (by first | (rw [ha]; exact sm_skip hk (if_neg (fun z => q18 z.1))) | (rw [ha]; exact sm_skip hk (if_neg (fun z => q34 z.2))) | (rw [sm_s _ hk, ← ha, if_pos ⟨q18, q34⟩]; clear ha; unfold sgn; first | (rw [if_pos (by omega)]; done) | (rw [if_neg (by omega), if_pos (by omega)]; done) | (rw [if_neg (by omega), if_neg (by omega), Int.add_zero]; done))) (by omega)) ⟨rfl, rfl, rfl, rfl, rfl, trivial⟩
              · refine g_iinc_3 X dX0_against_75 rfl (fun v3_75 ev3_75 => ?_)
                subst v3_75
                refine g_iinc_4 X dX0_against_78 rfl (fun v4_78 ev4_78 => ?_)
                subst v4_78
                refine g_goto (tgt := 5) X dX0_against_81 (by decide) ?_
                exact g_sub (ih_5 _ _ (by omega) (by omega) (by first | (rw [ha]; exact sm_skip hk (if_neg (fun z => q18 z.1))) | (rw [ha]; exact sm_skip hk (if_neg (fun z => q34 z.2))) | (rw [sm_s _ hk, ← ha, if_pos ⟨q18, q34⟩]; clear ha; unfold sgn; first | (rw [if_pos (by omega)]; done) | (rw [if_neg (by omega), if_pos (by omega)]; done) | (rw [if_neg (by omega), if_neg (by omega), Int.add_zero]; done))) (by omega)) ⟨rfl, rfl, rfl, rfl, rfl, trivial⟩
            · refine g_iinc_3 X dX0_against_53 rfl (fun v3_53 ev3_53 => ?_)
              subst v3_53
              refine g_goto (tgt := 78) X dX0_against_56 (by decide) ?_
              refine g_iinc_4 X dX0_against_78 rfl (fun v4_78 ev4_78 => ?_)
              subst v4_78
              refine g_goto (tgt := 5) X dX0_against_81 (by decide) ?_
              exact g_sub (ih_5 _ _ (by omega) (by omega) (by first | (rw [ha]; exact sm_skip hk (if_neg (fun z => q18 z.1))) | (rw [ha]; exact sm_skip hk (if_neg (fun z => q34 z.2))) | (rw [sm_s _ hk, ← ha, if_pos ⟨q18, q34⟩]; clear ha; unfold sgn; first | (rw [if_pos (by omega)]; done) | (rw [if_neg (by omega), if_pos (by omega)]; done) | (rw [if_neg (by omega), if_neg (by omega), Int.add_zero]; done))) (by omega)) ⟨rfl, rfl, rfl, rfl, rfl, trivial⟩
  exact g_sub (L_5 _ _ _ (by omega) (by omega) (rfl) (Nat.lt_succ_self _)) ⟨rfl, rfl, rfl, rfl, rfl, trivial⟩
set_option maxRecDepth 100000 in
set_option maxHeartbeats 4000000 in
theorem c_X0_pairs (lL : Launch) (tT : TT) (dD : va_G) (al : Int → Nat) (M : Mem) (cb nb : Int) (hD : DK M cb nb) : CI lL yX0_pairs cX0_pairs 5 FieldType.int 2 45 tT dD al [.ref (al 100), .int (iN cb), .int (iN nb)] M (fun r M' => r = stT M cb nb ∧ M' = M) := by
  refine CI.of (own := "RedSkies$Dealing") (ls0 := [some (.ref (al 100)), some (.int (iN cb)), some (.int (iN nb)), none, none]) (by decide +kernel) rfl (Nat.le_of_ble_eq_true rfl) rfl ?_
  intro pP eE sS mI aA bB mM cC X hr hlk
  obtain ⟨Q, hQ⟩ : ∃ Q : State → Prop, Q = MQ bB (QI tT dD al (fun r M' => r = stT M cb nb ∧ M' = M)) aA sS 0 0 (fA al) := ⟨_, rfl⟩
  rw [← hQ]
  obtain ⟨d1, d2, d3, d4⟩ := hD
  refine g_iconst X dX0_pairs_0 ?_
  refine g_istore_n_3 X dX0_pairs_1 rfl rfl (fun v3_1 ev3_1 => ?_)
  subst v3_1
  refine g_iconst X dX0_pairs_2 ?_
  refine g_istore_4 X dX0_pairs_3 rfl (fun v4_3 ev4_3 => ?_)
  subst v4_3
  have L_5 : ∀ (n : Nat) (a : Int) (k : Int), (0 ≤ k) → (k ≤ 16) → (a = sm (fun i => if bit cb i = 1 ∧ bit nb i = 1 then agP 16 (bit cb) (M 101) (M 102) i else 0) k.toNat) → (16 - k).toNat < n → Gd pP lL eE (rmN 2 45) sS mI aA bB mM cC 0 0 Q tT dD al (fA al) 5 [some (.ref (al 100)), some (.int (iN cb)), some (.int (iN nb)), some (.int (iN a)), some (.int (iN k))] [] M := by
    intro n
    induction n with
    | zero => intro a k hk hk2 ha hm; exact absurd hm (Nat.not_lt_zero _)
    | succ n ih =>
      intro a k hk hk2 ha hm
      have ih_5 := ih
      clear ih
      refine g_iload X dX0_pairs_5 rfl ?_
      refine g_bipush X dX0_pairs_7 (by decide +kernel) ?_
      refine g_icmp_ge (tgt := 37) X dX0_pairs_9 (by decide) ⟨by omega, by omega⟩ (by decide) (fun q9 => ?_) (fun q9 => ?_)
      · refine g_iload_n X dX0_pairs_37 rfl rfl ?_
        rw [hQ]
        refine g_iret X hr hlk dX0_pairs_38 ?_
        obtain rfl : k = 16 := by omega
        exact ⟨ha, rfl⟩
      · refine g_iload_n X dX0_pairs_12 rfl rfl ?_
        refine g_iload X dX0_pairs_13 rfl ?_
        refine g_callSI X (c_X0_holds lL tT dD al _ _ _ d2 ⟨hk, by omega⟩) lk_RX0_23 rfl rfl ⟨by decide, by decide⟩ rfl (Nat.le_of_ble_eq_true rfl) dX0_pairs_15 (fun r15 M15 hc15 => ?_)
        obtain ⟨hr15, hm15⟩ := hc15
        subst r15
        subst M15
        refine g_if_eq (tgt := 31) X dX0_pairs_18 (by decide) (b2i_i32 _) (fun q18 => ?_) (fun q18 => ?_)
        · have q18 := b2i_f q18
          refine g_iinc_4 X dX0_pairs_31 rfl (fun v4_31 ev4_31 => ?_)
          subst v4_31
          refine g_goto (tgt := 5) X dX0_pairs_34 (by decide) ?_
          exact g_sub (ih_5 _ _ (by omega) (by omega) (by first | (rw [ha]; exact sm_skip hk (if_neg (fun z => q18 z.2))) | (rw [sm_s _ hk, ← ha, if_pos ⟨d4 k hk (by omega) q18, q18⟩])) (by omega)) ⟨rfl, rfl, rfl, rfl, rfl, trivial⟩
        · have q18 := b2i_t q18
          refine g_iload_n X dX0_pairs_21 rfl rfl ?_
          refine g_aload_n X dX0_pairs_22 rfl rfl ?_
          refine g_iload X dX0_pairs_23 rfl ?_
          refine g_iload_n X dX0_pairs_25 rfl rfl ?_
          refine g_callVI X (c_X0_against lL tT dD al _ _ _ d1 d3 ⟨hk, by omega⟩ (d4 k hk (by omega) q18)) kd_100 fc0 lk_RX0_27 rfl rfl ⟨by decide, by decide⟩ rfl (Nat.le_of_ble_eq_true rfl) dX0_pairs_26 (fun r26 M26 hc26 => ?_)
          obtain ⟨hr26, hm26⟩ := hc26
          subst r26
          subst M26
          refine g_iadd X dX0_pairs_29 ?_
          refine g_istore_n_3 X dX0_pairs_30 rfl rfl (fun v3_30 ev3_30 => ?_)
          subst v3_30
          refine g_iinc_4 X dX0_pairs_31 rfl (fun v4_31 ev4_31 => ?_)
          subst v4_31
          refine g_goto (tgt := 5) X dX0_pairs_34 (by decide) ?_
          exact g_sub (ih_5 _ _ (by omega) (by omega) (by first | (rw [ha]; exact sm_skip hk (if_neg (fun z => q18 z.2))) | (rw [sm_s _ hk, ← ha, if_pos ⟨d4 k hk (by omega) q18, q18⟩])) (by omega)) ⟨rfl, rfl, rfl, rfl, rfl, trivial⟩
  exact g_sub (L_5 _ _ _ (by omega) (by omega) (rfl) (Nat.lt_succ_self _)) ⟨rfl, rfl, rfl, rfl, rfl, trivial⟩
set_option maxRecDepth 100000 in
set_option maxHeartbeats 4000000 in
theorem c_X0_addToChoices (lL : Launch) (tT : TT) (dD : va_G) (al : Int → Nat) (M : Mem) (own f : Int) (F : Int → Int → Int) (ho : -16 ≤ own ∧ own ≤ 16) (hf : 1 ≤ f ∧ f ≤ 8) (hr8 : 0 ≤ M 100 8 ∧ M 100 8 ≤ 64) (hT : tbX M F f) (hF : ∀ k x, 0 ≤ F k x ∧ F k x ≤ 65536) (hz : ∀ k x, 0 ≤ k → k < f → (x < -(M 100 8) ∨ M 100 8 < x) → F k x = 0) : CV lL yX0_addToChoices cX0_addToChoices 8 0 0 tT dD al [.ref (al 100), .int (iN own), .int (iN f)] M (fun M' => AF M M' ∧ tbX M' (upF F own 0) f) := by
  refine CV.of (own := "RedSkies$Dealing") (ls0 := [some (.ref (al 100)), some (.int (iN own)), some (.int (iN f)), none, none, none, none, none]) (by decide +kernel) rfl (Nat.le_of_ble_eq_true rfl) rfl ?_
  intro pP eE sS mI aA bB mM cC X hr hlk
  obtain ⟨Q, hQ⟩ : ∃ Q : State → Prop, Q = MQ bB (QV tT dD al (fun M' => AF M M' ∧ tbX M' (upF F own 0) f)) aA sS 0 0 (fA al) := ⟨_, rfl⟩
  rw [← hQ]
  refine g_iload_n X dX0_addToChoices_0 rfl rfl ?_
  refine g_istore_n_3 X dX0_addToChoices_1 rfl rfl (fun v3_1 ev3_1 => ?_)
  subst v3_1
  have L_2 : ∀ (n : Nat) (w : Int) (M1 : Mem), (0 ≤ w) → (w ≤ f) → (AF M M1) → (tbX M1 (upF F own w) f) → w.toNat < n → Gd pP lL eE (rmN 0 0) sS mI aA bB mM cC 0 0 Q tT dD al (fA al) 2 [some (.ref (al 100)), some (.int (iN own)), none, some (.int (iN w)), none, none, none, none] [] M1 := by
    intro n
    induction n with
    | zero => intro w M1 hw hw2 hA hX hm; exact absurd hm (Nat.not_lt_zero _)
    | succ n ih =>
      intro w M1 hw hw2 hA hX hm
      have e8 : M1 100 8 = M 100 8 := hA 100 8 (by omega)
      have ih_2 := ih
      clear ih
      refine g_iload_n X dX0_addToChoices_2 rfl rfl ?_
      refine g_iconst X dX0_addToChoices_3 ?_
      refine g_icmp_lt (tgt := 98) X dX0_addToChoices_4 (by decide) ⟨by omega, by omega⟩ (by decide) (fun q4 => ?_) (fun q4 => ?_)
      · rw [hQ]
        refine g_vret X hr hlk dX0_addToChoices_98 ?_
        obtain rfl : w = 0 := by omega
        exact ⟨hA, hX⟩
      · refine g_aload_n X dX0_addToChoices_7 rfl rfl ?_
        refine g_getr (r := 103) X kd_100 fc0 (k := 7) (by decide) rfl wd_271 rfl (by decide) dX0_addToChoices_8 ?_
        refine g_iload_n X dX0_addToChoices_11 rfl rfl ?_
        refine g_iconst X dX0_addToChoices_12 ?_
        refine g_isub X dX0_addToChoices_13 ?_
        have b0_14_12 : 0 ≤ (w - 1) := by omega
        have b1_14_12 : (w - 1) < 9 := by omega
        refine g_aald X kd_103 (bz := 104) rfl b0_14_12 b1_14_12 dX0_addToChoices_14 ?_
        have kr_14_12 := kr_104 b0_14_12 b1_14_12
        refine g_astore_4 X dX0_addToChoices_15 rfl (fun v4 hv4 => ?_)
        subst v4
        refine g_aload_n X dX0_addToChoices_17 rfl rfl ?_
        refine g_getr (r := 103) X kd_100 fc0 (k := 7) (by decide) rfl wd_271 rfl (by decide) dX0_addToChoices_18 ?_
        refine g_iload_n X dX0_addToChoices_21 rfl rfl ?_
        have b0_22_17 : 0 ≤ w := by omega
        have b1_22_17 : w < 9 := by omega
        refine g_aald X kd_103 (bz := 104) rfl b0_22_17 b1_22_17 dX0_addToChoices_22 ?_
        have kr_22_17 := kr_104 b0_22_17 b1_22_17
        refine g_astore_5 X dX0_addToChoices_23 rfl (fun v5 hv5 => ?_)
        subst v5
        refine g_bipush X dX0_addToChoices_25 (by decide +kernel) ?_
        refine g_aload_n X dX0_addToChoices_27 rfl rfl ?_
        refine g_geti (kz := 8) X kd_100 fc0 (k := 8) (by decide) rfl wd_272 rfl dX0_addToChoices_28 ?_
        refine g_isub X dX0_addToChoices_31 ?_
        refine g_istore_6 X dX0_addToChoices_32 rfl (fun v6_32 ev6_32 => ?_)
        subst v6_32
        have L_34 : ∀ (n : Nat) (su : Int) (M2 : Mem), (64 - M 100 8 ≤ su) → (su ≤ 64 + M 100 8 + 1) → (AF M M2) → (tbY M2 F own w su f) → (64 + M 100 8 + 1 - su).toNat < n → Gd pP lL eE (rmN 0 0) sS mI aA bB mM cC 0 0 Q tT dD al (fA al) 34 [some (.ref (al 100)), some (.int (iN own)), none, some (.int (iN w)), some (.ref (al (104 + (w - 1)))), some (.ref (al (104 + w))), some (.int (iN su)), none] [] M2 := by
          intro n
          induction n with
          | zero => intro su M2 hs hs2 hA2 hY hm; exact absurd hm (Nat.not_lt_zero _)
          | succ n ih =>
            intro su M2 hs hs2 hA2 hY hm
            have f8 : M2 100 8 = M 100 8 := hA2 100 8 (by omega)
            have ih_34 := ih
            clear ih
            refine g_iload X dX0_addToChoices_34 rfl ?_
            refine g_bipush X dX0_addToChoices_36 (by decide +kernel) ?_
            refine g_aload_n X dX0_addToChoices_38 rfl rfl ?_
            refine g_geti (kz := 8) X kd_100 fc0 (k := 8) (by decide) rfl wd_272 rfl dX0_addToChoices_39 ?_
            refine g_iadd X dX0_addToChoices_42 ?_
            refine g_icmp_gt (tgt := 92) X dX0_addToChoices_43 (by decide) ⟨by omega, by omega⟩ ⟨by omega, by omega⟩ (fun q43 => ?_) (fun q43 => ?_)
            · refine g_iinc_3 X dX0_addToChoices_92 trivial (fun v3_92 ev3_92 => ?_)
              subst v3_92
              refine g_goto (tgt := 2) X dX0_addToChoices_95 (by decide) ?_
              exact g_sub (ih_2 _ _ (by omega) (by omega) (hA2) (tbY_out hY (by omega) (show su = 64 + M 100 8 + 1 by omega) (fun x hx => hz (w - 1) x (by omega) (by omega) (Or.inr hx))) (by omega)) ⟨rfl, rfl, rfl, trivial⟩
            · refine g_iload X dX0_addToChoices_46 rfl ?_
              refine g_iload_n X dX0_addToChoices_48 rfl rfl ?_
              refine g_iadd X dX0_addToChoices_49 ?_
              refine g_istore_7 X dX0_addToChoices_50 rfl (fun v7_50 ev7_50 => ?_)
              subst v7_50
              have rw_ := tbY_row hY (s := su) ⟨by omega, hw2⟩ (by omega) (by omega)
              have rF := hF (w - 1) (su - 64)
              refine g_aload X dX0_addToChoices_52 rfl ?_
              refine g_iload X dX0_addToChoices_54 rfl ?_
              refine g_iald X kr_14_12 (by omega) (by omega) dX0_addToChoices_56 ?_
              refine g_if_eq (tgt := 86) X dX0_addToChoices_57 (by decide) ⟨by omega, by omega⟩ (fun q57 => ?_) (fun q57 => ?_)
              · refine g_iinc_6 X dX0_addToChoices_86 rfl (fun v6_86 ev6_86 => ?_)
                subst v6_86
                refine g_goto (tgt := 34) X dX0_addToChoices_89 (by decide) ?_
                exact g_sub (ih_34 _ _ (by omega) (by omega) (by first | exact hA2 | exact hA2.pu _ _ (by omega)) (by first | exact tbY_skip hY (Or.inl (by omega)) | exact tbY_skip hY (Or.inr (by omega)) | exact tbY_s hY (by omega) (by omega) (by omega) (by omega) (by omega)) (by omega)) ⟨rfl, rfl, rfl, rfl, rfl, rfl, trivial⟩
              · refine g_iload X dX0_addToChoices_60 rfl ?_
                refine g_if_lt (tgt := 86) X dX0_addToChoices_62 (by decide) ⟨by omega, by omega⟩ (fun q62 => ?_) (fun q62 => ?_)
                · refine g_iinc_6 X dX0_addToChoices_86 rfl (fun v6_86 ev6_86 => ?_)
                  subst v6_86
                  refine g_goto (tgt := 34) X dX0_addToChoices_89 (by decide) ?_
                  exact g_sub (ih_34 _ _ (by omega) (by omega) (by first | exact hA2 | exact hA2.pu _ _ (by omega)) (by first | exact tbY_skip hY (Or.inl (by omega)) | exact tbY_skip hY (Or.inr (by omega)) | exact tbY_s hY (by omega) (by omega) (by omega) (by omega) (by omega)) (by omega)) ⟨rfl, rfl, rfl, rfl, rfl, rfl, trivial⟩
                · refine g_iload X dX0_addToChoices_65 rfl ?_
                  refine g_sipush X dX0_addToChoices_67 (by decide +kernel) ?_
                  refine g_icmp_ge (tgt := 86) X dX0_addToChoices_70 (by decide) ⟨by omega, by omega⟩ (by decide) (fun q70 => ?_) (fun q70 => ?_)
                  · refine g_iinc_6 X dX0_addToChoices_86 rfl (fun v6_86 ev6_86 => ?_)
                    subst v6_86
                    refine g_goto (tgt := 34) X dX0_addToChoices_89 (by decide) ?_
                    exact g_sub (ih_34 _ _ (by omega) (by omega) (by first | exact hA2 | exact hA2.pu _ _ (by omega)) (by first | exact tbY_skip hY (Or.inl (by omega)) | exact tbY_skip hY (Or.inr (by omega)) | exact tbY_s hY (by omega) (by omega) (by omega) (by omega) (by omega)) (by omega)) ⟨rfl, rfl, rfl, rfl, rfl, rfl, trivial⟩
                  · refine g_aload X dX0_addToChoices_73 rfl ?_
                    refine g_iload X dX0_addToChoices_75 rfl ?_
                    refine g_dup2 X dX0_addToChoices_77 rfl rfl ?_
                    refine g_iald X kr_22_17 (by omega) (by omega) dX0_addToChoices_78 ?_
                    refine g_aload X dX0_addToChoices_79 rfl ?_
                    refine g_iload X dX0_addToChoices_81 rfl ?_
                    refine g_iald X kr_14_12 (by omega) (by omega) dX0_addToChoices_83 ?_
                    refine g_iadd X dX0_addToChoices_84 ?_
                    refine g_iast X kr_22_17 (by omega) (by omega) dX0_addToChoices_85 ?_
                    refine g_iinc_6 X dX0_addToChoices_86 rfl (fun v6_86 ev6_86 => ?_)
                    subst v6_86
                    refine g_goto (tgt := 34) X dX0_addToChoices_89 (by decide) ?_
                    exact g_sub (ih_34 _ _ (by omega) (by omega) (by first | exact hA2 | exact hA2.pu _ _ (by omega)) (by first | exact tbY_skip hY (Or.inl (by omega)) | exact tbY_skip hY (Or.inr (by omega)) | exact tbY_s hY (by omega) (by omega) (by omega) (by omega) (by omega)) (by omega)) ⟨rfl, rfl, rfl, rfl, rfl, rfl, trivial⟩
        exact g_sub (L_34 _ _ _ (by omega) (by omega) (hA) (by rw [e8]; exact tbY_in hX (fun x hx => hz (w - 1) x (by omega) (by omega) (Or.inl hx))) (Nat.lt_succ_self _)) ⟨rfl, rfl, rfl, rfl, rfl, rfl, trivial⟩
  exact g_sub (L_2 _ _ _ (by omega) (by omega) (AF.rf M) (tbX_in hT) (Nat.lt_succ_self _)) ⟨rfl, rfl, rfl, trivial⟩
