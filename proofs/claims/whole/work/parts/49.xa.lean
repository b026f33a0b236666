set_option maxRecDepth 100000 in
set_option maxHeartbeats 4000000 in
theorem c_X7_digitOf (lL : Launch) (tT : TT) (dD : va_G) (al : Int → Nat) (M : Mem) (c : Int) (hc : i32 c) : CI lL yX7_digitOf cX7_digitOf 1 FieldType.int 0 0 tT dD al [.int (iN c)] M (fun r M' => r = (if 48 ≤ c ∧ c ≤ 57 then c - 48 else -1) ∧ M' = M) := by
  refine CI.of (own := "RedSkies$Reader") (ls0 := [some (.int (iN c))]) (by decide +kernel) rfl (Nat.le_of_ble_eq_true rfl) rfl ?_
  intro pP eE sS mI aA bB mM cC X hr hlk
  obtain ⟨Q, hQ⟩ : ∃ Q : State → Prop, Q = MQ bB (QI tT dD al (fun r M' => r = (if 48 ≤ c ∧ c ≤ 57 then c - 48 else -1) ∧ M' = M)) aA sS 0 0 (fA al) := ⟨_, rfl⟩
  rw [← hQ]
  refine g_iload_n X dX7_digitOf_0 rfl rfl ?_
  refine g_bipush X dX7_digitOf_1 (by decide +kernel) ?_
  refine g_icmp_lt (tgt := 19) X dX7_digitOf_3 (by decide) ⟨by omega, by omega⟩ (by decide) (fun q3 => ?_) (fun q3 => ?_)
  · refine g_iconst X dX7_digitOf_19 ?_
    rw [hQ]
    refine g_iret X hr hlk dX7_digitOf_20 ?_
    clear X hr hlk hQ
    exact ⟨by grind, rfl⟩
  · refine g_iload_n X dX7_digitOf_6 rfl rfl ?_
    refine g_bipush X dX7_digitOf_7 (by decide +kernel) ?_
    refine g_icmp_gt (tgt := 19) X dX7_digitOf_9 (by decide) ⟨by omega, by omega⟩ (by decide) (fun q9 => ?_) (fun q9 => ?_)
    · refine g_iconst X dX7_digitOf_19 ?_
      rw [hQ]
      refine g_iret X hr hlk dX7_digitOf_20 ?_
      clear X hr hlk hQ
      exact ⟨by grind, rfl⟩
    · refine g_iload_n X dX7_digitOf_12 rfl rfl ?_
      refine g_bipush X dX7_digitOf_13 (by decide +kernel) ?_
      refine g_isub X dX7_digitOf_15 ?_
      refine g_goto (tgt := 20) X dX7_digitOf_16 (by decide) ?_
      rw [hQ]
      refine g_iret X hr hlk dX7_digitOf_20 ?_
      clear X hr hlk hQ
      exact ⟨by grind, rfl⟩
set_option maxRecDepth 100000 in
set_option maxHeartbeats 4000000 in
theorem c_X7_colourOf (lL : Launch) (tT : TT) (dD : va_G) (al : Int → Nat) (M : Mem) (c : Int) (hc : i32 c) : CI lL yX7_colourOf cX7_colourOf 1 FieldType.int 0 0 tT dD al [.int (iN c)] M (fun r M' => r = colS c ∧ M' = M) := by
  refine CI.of (own := "RedSkies$Reader") (ls0 := [some (.int (iN c))]) (by decide +kernel) rfl (Nat.le_of_ble_eq_true rfl) rfl ?_
  intro pP eE sS mI aA bB mM cC X hr hlk
  obtain ⟨Q, hQ⟩ : ∃ Q : State → Prop, Q = MQ bB (QI tT dD al (fun r M' => r = colS c ∧ M' = M)) aA sS 0 0 (fA al) := ⟨_, rfl⟩
  rw [← hQ]
  refine g_iload_n X dX7_colourOf_0 rfl rfl ?_
  rcases (by omega : (c ≠ 98 ∧ c ≠ 103 ∧ c ≠ 114) ∨ c = 98 ∨ c = 103 ∨ c = 114) with q1 | q1 | q1 | q1
  · refine g_lkup (tgt := 42) (off := 41) X dX7_colourOf_1 ⟨by omega, by omega⟩ (by decide) (by first | (simp [Op.lookupswitch.offset, q1]; done) | (simp [Op.lookupswitch.offset]; grind)) (by decide) ?_
    refine g_iconst X dX7_colourOf_42 ?_
    rw [hQ]
    refine g_iret X hr hlk dX7_colourOf_43 ?_
    clear X hr hlk hQ
    exact ⟨by unfold colS; grind, rfl⟩
  · refine g_lkup (tgt := 40) (off := 39) X dX7_colourOf_1 ⟨by omega, by omega⟩ (by decide) (by rw [q1]; rfl) (by decide) ?_
    refine g_iconst X dX7_colourOf_40 ?_
    rw [hQ]
    refine g_iret X hr hlk dX7_colourOf_41 ?_
    clear X hr hlk hQ
    exact ⟨by unfold colS; grind, rfl⟩
  · refine g_lkup (tgt := 38) (off := 37) X dX7_colourOf_1 ⟨by omega, by omega⟩ (by decide) (by rw [q1]; rfl) (by decide) ?_
    refine g_iconst X dX7_colourOf_38 ?_
    rw [hQ]
    refine g_iret X hr hlk dX7_colourOf_39 ?_
    clear X hr hlk hQ
    exact ⟨by unfold colS; grind, rfl⟩
  · refine g_lkup (tgt := 36) (off := 35) X dX7_colourOf_1 ⟨by omega, by omega⟩ (by decide) (by rw [q1]; rfl) (by decide) ?_
    refine g_iconst X dX7_colourOf_36 ?_
    rw [hQ]
    refine g_iret X hr hlk dX7_colourOf_37 ?_
    clear X hr hlk hQ
    exact ⟨by unfold colS; grind, rfl⟩
set_option maxRecDepth 100000 in
set_option maxHeartbeats 4000000 in
theorem c_X1_isDone (lL : Launch) (tT : TT) (dD : va_G) (al : Int → Nat) (M : Mem)  (h : 0 ≤ M 3 2 ∧ M 3 2 ≤ 3) : CI lL yX1_isDone cX1_isDone 1 FieldType.boolean 0 0 tT dD al [.ref (al 3)] M (fun r M' => r = b2i (M 3 2 = 3) ∧ M' = M) := by
  refine CI.of (own := "RedSkies$LampReader") (ls0 := [some (.ref (al 3))]) (by decide +kernel) rfl (Nat.le_of_ble_eq_true rfl) rfl ?_
  intro pP eE sS mI aA bB mM cC X hr hlk
  obtain ⟨Q, hQ⟩ : ∃ Q : State → Prop, Q = MQ bB (QI tT dD al (fun r M' => r = b2i (M 3 2 = 3) ∧ M' = M)) aA sS 0 0 (fA al) := ⟨_, rfl⟩
  rw [← hQ]
  refine g_aload_n X dX1_isDone_0 rfl rfl ?_
  refine g_geti (kz := 2) X kd_3 fc1 (k := 2) (by decide) rfl wd_118 rfl dX1_isDone_1 ?_
  refine g_iconst X dX1_isDone_4 ?_
  refine g_icmp_ne (tgt := 12) X dX1_isDone_5 (by decide) ⟨by omega, by omega⟩ (by decide) (fun q5 => ?_) (fun q5 => ?_)
  · refine g_iconst X dX1_isDone_12 ?_
    rw [hQ]
    refine g_zret X hr hlk (by decide) dX1_isDone_13 ?_
    first | exact ⟨b2i_1 (by omega), rfl⟩ | exact ⟨b2i_0 (by omega), rfl⟩
  · refine g_iconst X dX1_isDone_8 ?_
    refine g_goto (tgt := 13) X dX1_isDone_9 (by decide) ?_
    rw [hQ]
    refine g_zret X hr hlk (by decide) dX1_isDone_13 ?_
    first | exact ⟨b2i_1 (by omega), rfl⟩ | exact ⟨b2i_0 (by omega), rfl⟩
set_option maxRecDepth 100000 in
set_option maxHeartbeats 4000000 in
theorem c_X1_begin (lL : Launch) (tT : TT) (dD : va_G) (al : Int → Nat) (M : Mem)   : CV lL yX1_begin cX1_begin 2 0 0 tT dD al [.ref (al 3)] M (fun M' => M' = mu (zr (zr M 4 3) 5 3) 3 2 0) := by
  refine CV.of (own := "RedSkies$LampReader") (ls0 := [some (.ref (al 3)), none]) (by decide +kernel) rfl (Nat.le_of_ble_eq_true rfl) rfl ?_
  intro pP eE sS mI aA bB mM cC X hr hlk
  obtain ⟨Q, hQ⟩ : ∃ Q : State → Prop, Q = MQ bB (QV tT dD al (fun M' => M' = mu (zr (zr M 4 3) 5 3) 3 2 0)) aA sS 0 0 (fA al) := ⟨_, rfl⟩
  rw [← hQ]
  refine g_iconst X dX1_begin_0 ?_
  refine g_istore_n_1 X dX1_begin_1 rfl rfl (fun v1_1 ev1_1 => ?_)
  subst v1_1
  have L_2 : ∀ (n : Nat) (i : Int) (M1 : Mem), (0 ≤ i) → (i ≤ 3) → (M1 = zr (zr M 4 i) 5 i) → (3 - i).toNat < n → Gd pP lL eE (rmN 0 0) sS mI aA bB mM cC 0 0 Q tT dD al (fA al) 2 [some (.ref (al 3)), some (.int (iN i))] [] M1 := by
    intro n
    induction n with
    | zero => intro i M1 hi hi2 hM hm; exact absurd hm (Nat.not_lt_zero _)
    | succ n ih =>
      intro i M1 hi hi2 hM hm
      have ih_2 := ih
      clear ih
      refine g_iload_n X dX1_begin_2 rfl rfl ?_
      refine g_iconst X dX1_begin_3 ?_
      refine g_icmp_ge (tgt := 27) X dX1_begin_4 (by decide) ⟨by omega, by omega⟩ (by decide) (fun q4 => ?_) (fun q4 => ?_)
      · refine g_aload_n X dX1_begin_27 rfl rfl ?_
        refine g_iconst X dX1_begin_28 ?_
        refine g_puti (kz := 2) X kd_3 fc1 (k := 2) (by decide) rfl wd_118 rfl rfl rfl dX1_begin_29 ?_
        rw [hQ]
        refine g_vret X hr hlk dX1_begin_32 ?_
        obtain rfl : i = 3 := by omega
        rw [hM]
      · refine g_aload_n X dX1_begin_7 rfl rfl ?_
        refine g_getr (r := 4) X kd_3 fc1 (k := 0) (by decide) rfl wd_115 rfl (by decide) dX1_begin_8 ?_
        refine g_iload_n X dX1_begin_11 rfl rfl ?_
        refine g_iconst X dX1_begin_12 ?_
        refine g_iast X kd_4 (by omega) (by omega) dX1_begin_13 ?_
        refine g_aload_n X dX1_begin_14 rfl rfl ?_
        refine g_getr (r := 5) X kd_3 fc1 (k := 1) (by decide) rfl wd_117 rfl (by decide) dX1_begin_15 ?_
        refine g_iload_n X dX1_begin_18 rfl rfl ?_
        refine g_iconst X dX1_begin_19 ?_
        refine g_zast X kd_5 (by omega) (by omega) (by decide) dX1_begin_20 ?_
        refine g_iinc_1 X dX1_begin_21 rfl (fun v1_21 ev1_21 => ?_)
        subst v1_21
        refine g_goto (tgt := 2) X dX1_begin_24 (by decide) ?_
        exact g_sub (ih_2 _ _ (by omega) (by omega) (by clear X hr hlk hQ ih_2; rw [hM]; clear hM; funext o j; simp only [mu, zr]; grind) (by omega)) ⟨rfl, rfl, trivial⟩
  exact g_sub (L_2 _ _ _ (by omega) (by omega) (by rw [zr_0, zr_0]) (Nat.lt_succ_self _)) ⟨rfl, rfl, trivial⟩
set_option maxRecDepth 100000 in
set_option maxHeartbeats 4000000 in
theorem c_X1_takeSign (lL : Launch) (tT : TT) (dD : va_G) (al : Int → Nat) (M : Mem) (c : Int) (hc : i32 c) : CI lL yX1_takeSign cX1_takeSign 2 FieldType.boolean 0 0 tT dD al [.ref (al 3), .int (iN c)] M (fun r M' => r = b2i (c = 43 ∨ c = 45) ∧ M' = (if c = 43 ∨ c = 45 then mu (mu M 3 4 (if c = 43 then 1 else -1)) 3 2 2 else M)) := by
  refine CI.of (own := "RedSkies$LampReader") (ls0 := [some (.ref (al 3)), some (.int (iN c))]) (by decide +kernel) rfl (Nat.le_of_ble_eq_true rfl) rfl ?_
  intro pP eE sS mI aA bB mM cC X hr hlk
  obtain ⟨Q, hQ⟩ : ∃ Q : State → Prop, Q = MQ bB (QI tT dD al (fun r M' => r = b2i (c = 43 ∨ c = 45) ∧ M' = (if c = 43 ∨ c = 45 then mu (mu M 3 4 (if c = 43 then 1 else -1)) 3 2 2 else M))) aA sS 0 0 (fA al) := ⟨_, rfl⟩
  rw [← hQ]
  refine g_iload_n X dX1_takeSign_0 rfl rfl ?_
  refine g_bipush X dX1_takeSign_1 (by decide +kernel) ?_
  refine g_icmp_eq (tgt := 14) X dX1_takeSign_3 (by decide) ⟨by omega, by omega⟩ (by decide) (fun q3 => ?_) (fun q3 => ?_)
  · refine g_aload_n X dX1_takeSign_14 rfl rfl ?_
    refine g_iload_n X dX1_takeSign_15 rfl rfl ?_
    refine g_bipush X dX1_takeSign_16 (by decide +kernel) ?_
    refine g_icmp_ne (tgt := 25) X dX1_takeSign_18 (by decide) ⟨by omega, by omega⟩ (by decide) (fun q18 => ?_) (fun q18 => ?_)
    · refine g_iconst X dX1_takeSign_25 ?_
      refine g_puti (kz := 4) X kd_3 fc1 (k := 4) (by decide) rfl wd_120 rfl rfl rfl dX1_takeSign_26 ?_
      refine g_aload_n X dX1_takeSign_29 rfl rfl ?_
      refine g_iconst X dX1_takeSign_30 ?_
      refine g_puti (kz := 2) X kd_3 fc1 (k := 2) (by decide) rfl wd_118 rfl rfl rfl dX1_takeSign_31 ?_
      refine g_iconst X dX1_takeSign_34 ?_
      rw [hQ]
      refine g_zret X hr hlk (by decide) dX1_takeSign_35 ?_
      first | (exfalso; omega) | exact ⟨b2i_1 (by omega), by rw [if_pos (by omega)]; first | rw [if_pos (by omega)] | rw [if_neg (by omega)]⟩ | exact ⟨b2i_0 (by omega), by rw [if_neg (by omega)]⟩
    · refine g_iconst X dX1_takeSign_21 ?_
      refine g_goto (tgt := 26) X dX1_takeSign_22 (by decide) ?_
      refine g_puti (kz := 4) X kd_3 fc1 (k := 4) (by decide) rfl wd_120 rfl rfl rfl dX1_takeSign_26 ?_
      refine g_aload_n X dX1_takeSign_29 rfl rfl ?_
      refine g_iconst X dX1_takeSign_30 ?_
      refine g_puti (kz := 2) X kd_3 fc1 (k := 2) (by decide) rfl wd_118 rfl rfl rfl dX1_takeSign_31 ?_
      refine g_iconst X dX1_takeSign_34 ?_
      rw [hQ]
      refine g_zret X hr hlk (by decide) dX1_takeSign_35 ?_
      first | (exfalso; omega) | exact ⟨b2i_1 (by omega), by rw [if_pos (by omega)]; first | rw [if_pos (by omega)] | rw [if_neg (by omega)]⟩ | exact ⟨b2i_0 (by omega), by rw [if_neg (by omega)]⟩
  · refine g_iload_n X dX1_takeSign_6 rfl rfl ?_
    refine g_bipush X dX1_takeSign_7 (by decide +kernel) ?_
    refine g_icmp_eq (tgt := 14) X dX1_takeSign_9 (by decide) ⟨by omega, by omega⟩ (by decide) (fun q9 => ?_) (fun q9 => ?_)
    · refine g_aload_n X dX1_takeSign_14 rfl rfl ?_
      refine g_iload_n X dX1_takeSign_15 rfl rfl ?_
      refine g_bipush X dX1_takeSign_16 (by decide +kernel) ?_
      refine g_icmp_ne (tgt := 25) X dX1_takeSign_18 (by decide) ⟨by omega, by omega⟩ (by decide) (fun q18 => ?_) (fun q18 => ?_)
      · refine g_iconst X dX1_takeSign_25 ?_
        refine g_puti (kz := 4) X kd_3 fc1 (k := 4) (by decide) rfl wd_120 rfl rfl rfl dX1_takeSign_26 ?_
        refine g_aload_n X dX1_takeSign_29 rfl rfl ?_
        refine g_iconst X dX1_takeSign_30 ?_
        refine g_puti (kz := 2) X kd_3 fc1 (k := 2) (by decide) rfl wd_118 rfl rfl rfl dX1_takeSign_31 ?_
        refine g_iconst X dX1_takeSign_34 ?_
        rw [hQ]
        refine g_zret X hr hlk (by decide) dX1_takeSign_35 ?_
        first | (exfalso; omega) | exact ⟨b2i_1 (by omega), by rw [if_pos (by omega)]; first | rw [if_pos (by omega)] | rw [if_neg (by omega)]⟩ | exact ⟨b2i_0 (by omega), by rw [if_neg (by omega)]⟩
      · refine g_iconst X dX1_takeSign_21 ?_
        refine g_goto (tgt := 26) X dX1_takeSign_22 (by decide) ?_
        refine g_puti (kz := 4) X kd_3 fc1 (k := 4) (by decide) rfl wd_120 rfl rfl rfl dX1_takeSign_26 ?_
        refine g_aload_n X dX1_takeSign_29 rfl rfl ?_
        refine g_iconst X dX1_takeSign_30 ?_
        refine g_puti (kz := 2) X kd_3 fc1 (k := 2) (by decide) rfl wd_118 rfl rfl rfl dX1_takeSign_31 ?_
        refine g_iconst X dX1_takeSign_34 ?_
        rw [hQ]
        refine g_zret X hr hlk (by decide) dX1_takeSign_35 ?_
        first | (exfalso; omega) | exact ⟨b2i_1 (by omega), by rw [if_pos (by omega)]; first | rw [if_pos (by omega)] | rw [if_neg (by omega)]⟩ | exact ⟨b2i_0 (by omega), by rw [if_neg (by omega)]⟩
    · refine g_iconst X dX1_takeSign_12 ?_
      rw [hQ]
      refine g_zret X hr hlk (by decide) dX1_takeSign_13 ?_
      first | (exfalso; omega) | exact ⟨b2i_1 (by omega), by rw [if_pos (by omega)]; first | rw [if_pos (by omega)] | rw [if_neg (by omega)]⟩ | exact ⟨b2i_0 (by omega), by rw [if_neg (by omega)]⟩
set_option maxRecDepth 100000 in
set_option maxHeartbeats 4000000 in
theorem c_X1_takeDigit (lL : Launch) (tT : TT) (dD : va_G) (al : Int → Nat) (M : Mem) (a b : Int) (ha : 0 ≤ a ∧ a ≤ 20) (hb : -1 ≤ b ∧ b ≤ 9) (h3 : b ≠ -1 → 0 ≤ M 3 3 ∧ M 3 3 ≤ 2) : CI lL yX1_takeDigit cX1_takeDigit 4 FieldType.boolean 0 0 tT dD al [.ref (al 3), .int (iN a), .int (iN b)] M (fun r M' => r = b2i (b ≠ -1 ∧ a * 10 + b ≤ 20) ∧ M' = (if b ≠ -1 ∧ a * 10 + b ≤ 20 then mu (mu (mu M 3 5 (a * 10 + b)) 4 (M 3 3) (M 3 4 * (a * 10 + b))) 3 2 3 else M)) := by
  refine CI.of (own := "RedSkies$LampReader") (ls0 := [some (.ref (al 3)), some (.int (iN a)), some (.int (iN b)), none]) (by decide +kernel) rfl (Nat.le_of_ble_eq_true rfl) rfl ?_
  intro pP eE sS mI aA bB mM cC X hr hlk
  obtain ⟨Q, hQ⟩ : ∃ Q : State → Prop, Q = MQ bB (QI tT dD al (fun r M' => r = b2i (b ≠ -1 ∧ a * 10 + b ≤ 20) ∧ M' = (if b ≠ -1 ∧ a * 10 + b ≤ 20 then mu (mu (mu M 3 5 (a * 10 + b)) 4 (M 3 3) (M 3 4 * (a * 10 + b))) 3 2 3 else M))) aA sS 0 0 (fA al) := ⟨_, rfl⟩
  rw [← hQ]
  refine g_iload_n X dX1_takeDigit_0 rfl rfl ?_
  refine g_bipush X dX1_takeDigit_1 (by decide +kernel) ?_
  refine g_imul X dX1_takeDigit_3 ?_
  refine g_iload_n X dX1_takeDigit_4 rfl rfl ?_
  refine g_iadd X dX1_takeDigit_5 ?_
  refine g_istore_n_3 X dX1_takeDigit_6 rfl rfl (fun v3_6 ev3_6 => ?_)
  subst v3_6
  refine g_iload_n X dX1_takeDigit_7 rfl rfl ?_
  refine g_iconst X dX1_takeDigit_8 ?_
  refine g_icmp_eq (tgt := 18) X dX1_takeDigit_9 (by decide) ⟨by omega, by omega⟩ (by decide) (fun q9 => ?_) (fun q9 => ?_)
  · refine g_iconst X dX1_takeDigit_18 ?_
    rw [hQ]
    refine g_zret X hr hlk (by decide) dX1_takeDigit_19 ?_
    first | exact ⟨b2i_1 (by omega), by rw [if_pos (by omega)]⟩ | exact ⟨b2i_0 (by omega), by rw [if_neg (by omega)]⟩
  · refine g_iload_n X dX1_takeDigit_12 rfl rfl ?_
    refine g_bipush X dX1_takeDigit_13 (by decide +kernel) ?_
    refine g_icmp_le (tgt := 20) X dX1_takeDigit_15 (by decide) ⟨by omega, by omega⟩ (by decide) (fun q15 => ?_) (fun q15 => ?_)
    · have h4 := h3 (by omega)
      refine g_aload_n X dX1_takeDigit_20 rfl rfl ?_
      refine g_iload_n X dX1_takeDigit_21 rfl rfl ?_
      refine g_puti (kz := 5) X kd_3 fc1 (k := 5) (by decide) rfl wd_121 rfl rfl rfl dX1_takeDigit_22 ?_
      refine g_aload_n X dX1_takeDigit_25 rfl rfl ?_
      refine g_getr (r := 4) X kd_3 fc1 (k := 0) (by decide) rfl wd_115 rfl (by decide) dX1_takeDigit_26 ?_
      refine g_aload_n X dX1_takeDigit_29 rfl rfl ?_
      refine g_geti (kz := 3) X kd_3 fc1 (k := 3) (by decide) rfl wd_119 rfl dX1_takeDigit_30 ?_
      refine g_teq (b := (M 3 3)) (by first | (simp [mu]; done) | (simp only [mu]; repeat (first | rw [if_pos (⟨rfl, rfl⟩)] | rw [if_neg (by omega)]))) ?_
      refine g_aload_n X dX1_takeDigit_33 rfl rfl ?_
      refine g_geti (kz := 4) X kd_3 fc1 (k := 4) (by decide) rfl wd_120 rfl dX1_takeDigit_34 ?_
      refine g_teq (b := (M 3 4)) (by first | (simp [mu]; done) | (simp only [mu]; repeat (first | rw [if_pos (⟨rfl, rfl⟩)] | rw [if_neg (by omega)]))) ?_
      refine g_iload_n X dX1_takeDigit_37 rfl rfl ?_
      refine g_imul X dX1_takeDigit_38 ?_
      refine g_iast X kd_4 (by omega) (by omega) dX1_takeDigit_39 ?_
      refine g_aload_n X dX1_takeDigit_40 rfl rfl ?_
      refine g_iconst X dX1_takeDigit_41 ?_
      refine g_puti (kz := 2) X kd_3 fc1 (k := 2) (by decide) rfl wd_118 rfl rfl rfl dX1_takeDigit_42 ?_
      refine g_iconst X dX1_takeDigit_45 ?_
      rw [hQ]
      refine g_zret X hr hlk (by decide) dX1_takeDigit_46 ?_
      first | exact ⟨b2i_1 (by omega), by rw [if_pos (by omega)]⟩ | exact ⟨b2i_0 (by omega), by rw [if_neg (by omega)]⟩
    · refine g_iconst X dX1_takeDigit_18 ?_
      rw [hQ]
      refine g_zret X hr hlk (by decide) dX1_takeDigit_19 ?_
      first | exact ⟨b2i_1 (by omega), by rw [if_pos (by omega)]⟩ | exact ⟨b2i_0 (by omega), by rw [if_neg (by omega)]⟩
