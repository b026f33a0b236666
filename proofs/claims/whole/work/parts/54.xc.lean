set_option maxRecDepth 100000 in
set_option maxHeartbeats 4000000 in
theorem c_J7_fill_53178 (lL : Launch) (tT : TT) (dD : va_G) (al : Int → Nat) (M : Mem) (o : Int) (nn : Nat) (v : Int) (hk_o : kd o = (1, nn, [])) : CV lL yJ7_fill_53178 cJ7_fill_53178 4 0 0 tT dD al [.ref (al o), .int (iN v)] M (fun M' => M' = fil M o nn v) := by
  refine CV.of (own := "java/util/Arrays") (ls0 := [some (.ref (al o)), some (.int (iN v)), none, none]) (by decide +kernel) rfl (Nat.le_of_ble_eq_true rfl) rfl ?_
  intro pP eE sS mI aA bB mM cC X hr hlk
  obtain ⟨Q, hQ⟩ : ∃ Q : State → Prop, Q = MQ bB (QV tT dD al (fun M' => M' = fil M o nn v)) aA sS 0 0 (fA al) := ⟨_, rfl⟩
  rw [← hQ]
  have hsm := kd_small hk_o
  dsimp only at hsm
  refine g_iconst X dJ7_fill_53178_0 ?_
  refine g_istore_n_2 X dJ7_fill_53178_1 rfl rfl (fun v2_1 ev2_1 => ?_)
  subst v2_1
  refine g_aload_n X dJ7_fill_53178_2 rfl rfl ?_
  refine g_alen (nz := nn) X hk_o rfl dJ7_fill_53178_3 ?_
  refine g_istore_n_3 X dJ7_fill_53178_4 rfl rfl (fun v3_4 ev3_4 => ?_)
  subst v3_4
  have L_5 : ∀ (n : Nat) (i : Int) (M1 : Mem), (0 ≤ i) → (i ≤ nn) → (M1 = fil M o i v) → (nn - i).toNat < n → Gd pP lL eE (rmN 0 0) sS mI aA bB mM cC 0 0 Q tT dD al (fA al) 5 [some (.ref (al o)), some (.int (iN v)), some (.int (iN i)), some (.int (iN nn))] [] M1 := by
    intro n
    induction n with
    | zero => intro i M1 hi hi2 hM hm; exact absurd hm (Nat.not_lt_zero _)
    | succ n ih =>
      intro i M1 hi hi2 hM hm
      have ih_5 := ih
      clear ih
      refine g_iload_n X dJ7_fill_53178_5 rfl rfl ?_
      refine g_iload_n X dJ7_fill_53178_6 rfl rfl ?_
      refine g_icmp_ge (tgt := 20) X dJ7_fill_53178_7 (by decide) ⟨by omega, by omega⟩ ⟨by omega, by omega⟩ (fun q7 => ?_) (fun q7 => ?_)
      · rw [hQ]
        refine g_vret X hr hlk dJ7_fill_53178_20 ?_
        obtain rfl : i = nn := by omega
        exact hM
      · refine g_aload_n X dJ7_fill_53178_10 rfl rfl ?_
        refine g_iload_n X dJ7_fill_53178_11 rfl rfl ?_
        refine g_iload_n X dJ7_fill_53178_12 rfl rfl ?_
        refine g_iast X hk_o (by omega) (by omega) dJ7_fill_53178_13 ?_
        refine g_iinc_2 X dJ7_fill_53178_14 rfl (fun v2_14 ev2_14 => ?_)
        subst v2_14
        refine g_goto (tgt := 5) X dJ7_fill_53178_17 (by decide) ?_
        exact g_sub (ih_5 _ _ (by omega) (by omega) (by rw [hM]; exact fil_s hi) (by omega)) ⟨rfl, rfl, rfl, rfl, trivial⟩
  exact g_sub (L_5 _ _ _ (by omega) (by omega) ((fil_0 M o v).symm) (Nat.lt_succ_self _)) ⟨rfl, rfl, rfl, rfl, trivial⟩
set_option maxRecDepth 100000 in
set_option maxHeartbeats 4000000 in
theorem c_X4_begin (lL : Launch) (tT : TT) (dD : va_G) (al : Int → Nat) (M : Mem)   : CV lL yX4_begin cX4_begin 1 1 23 tT dD al [.ref (al 6)] M (fun M' => M' = xeZ M) := by
  refine CV.of (own := "RedSkies$MeasureReader") (ls0 := [some (.ref (al 6))]) (by decide +kernel) rfl (Nat.le_of_ble_eq_true rfl) rfl ?_
  intro pP eE sS mI aA bB mM cC X hr hlk
  obtain ⟨Q, hQ⟩ : ∃ Q : State → Prop, Q = MQ bB (QV tT dD al (fun M' => M' = xeZ M)) aA sS 0 0 (fA al) := ⟨_, rfl⟩
  rw [← hQ]
  refine g_aload_n X dX4_begin_0 rfl rfl ?_
  refine g_getr (r := 7) X kd_6 fc4 (k := 0) (by decide) rfl wd_142 rfl (by decide) dX4_begin_1 ?_
  refine g_iconst X dX4_begin_4 ?_
  refine g_callSV X (c_J7_fill_53178 lL tT dD al _ _ _ _ kd_7) lk_RX4_15 rfl rfl ⟨by decide, by decide⟩ rfl (Nat.le_of_ble_eq_true rfl) dX4_begin_5 (fun M5 hc5 => ?_)
  subst M5
  refine g_aload_n X dX4_begin_8 rfl rfl ?_
  refine g_iconst X dX4_begin_9 ?_
  refine g_puti (kz := 1) X kd_6 fc4 (k := 1) (by decide) rfl wd_144 rfl rfl rfl dX4_begin_10 ?_
  refine g_aload_n X dX4_begin_13 rfl rfl ?_
  refine g_iconst X dX4_begin_14 ?_
  refine g_puti (kz := 2) X kd_6 fc4 (k := 2) (by decide) rfl wd_145 rfl rfl rfl dX4_begin_15 ?_
  refine g_aload_n X dX4_begin_18 rfl rfl ?_
  refine g_iconst X dX4_begin_19 ?_
  refine g_puti (kz := 3) X kd_6 fc4 (k := 3) (by decide) rfl wd_146 rfl rfl rfl dX4_begin_20 ?_
  rw [hQ]
  refine g_vret X hr hlk dX4_begin_23 ?_
  rfl
set_option maxRecDepth 100000 in
set_option maxHeartbeats 4000000 in
theorem c_X4_isDone (lL : Launch) (tT : TT) (dD : va_G) (al : Int → Nat) (M : Mem)  (h1 : i32 (M 6 1)) (h2 : i32 (M 6 2)) : CI lL yX4_isDone cX4_isDone 1 FieldType.boolean 0 0 tT dD al [.ref (al 6)] M (fun r M' => r = b2i (M 6 1 = 2 ∧ M 6 2 = 1) ∧ M' = M) := by
  refine CI.of (own := "RedSkies$MeasureReader") (ls0 := [some (.ref (al 6))]) (by decide +kernel) rfl (Nat.le_of_ble_eq_true rfl) rfl ?_
  intro pP eE sS mI aA bB mM cC X hr hlk
  obtain ⟨Q, hQ⟩ : ∃ Q : State → Prop, Q = MQ bB (QI tT dD al (fun r M' => r = b2i (M 6 1 = 2 ∧ M 6 2 = 1) ∧ M' = M)) aA sS 0 0 (fA al) := ⟨_, rfl⟩
  rw [← hQ]
  refine g_aload_n X dX4_isDone_0 rfl rfl ?_
  refine g_geti (kz := 1) X kd_6 fc4 (k := 1) (by decide) rfl wd_144 rfl dX4_isDone_1 ?_
  refine g_iconst X dX4_isDone_4 ?_
  refine g_icmp_ne (tgt := 20) X dX4_isDone_5 (by decide) ⟨by omega, by omega⟩ (by decide) (fun q5 => ?_) (fun q5 => ?_)
  · refine g_iconst X dX4_isDone_20 ?_
    rw [hQ]
    refine g_zret X hr hlk (by decide) dX4_isDone_21 ?_
    first | exact ⟨b2i_1 (by omega), rfl⟩ | exact ⟨b2i_0 (by omega), rfl⟩
  · refine g_aload_n X dX4_isDone_8 rfl rfl ?_
    refine g_geti (kz := 2) X kd_6 fc4 (k := 2) (by decide) rfl wd_145 rfl dX4_isDone_9 ?_
    refine g_iconst X dX4_isDone_12 ?_
    refine g_icmp_ne (tgt := 20) X dX4_isDone_13 (by decide) ⟨by omega, by omega⟩ (by decide) (fun q13 => ?_) (fun q13 => ?_)
    · refine g_iconst X dX4_isDone_20 ?_
      rw [hQ]
      refine g_zret X hr hlk (by decide) dX4_isDone_21 ?_
      first | exact ⟨b2i_1 (by omega), rfl⟩ | exact ⟨b2i_0 (by omega), rfl⟩
    · refine g_iconst X dX4_isDone_16 ?_
      refine g_goto (tgt := 21) X dX4_isDone_17 (by decide) ?_
      rw [hQ]
      refine g_zret X hr hlk (by decide) dX4_isDone_21 ?_
      first | exact ⟨b2i_1 (by omega), rfl⟩ | exact ⟨b2i_0 (by omega), rfl⟩
set_option maxRecDepth 100000 in
set_option maxHeartbeats 4000000 in
theorem c_X4_takeColour (lL : Launch) (tT : TT) (dD : va_G) (al : Int → Nat) (M : Mem) (c : Int) (hc : i32 c) : CI lL yX4_takeColour cX4_takeColour 3 FieldType.boolean 1 20 tT dD al [.ref (al 6), .int (iN c)] M (fun r M' => r = b2i (colS c ≠ -1) ∧ (colS c ≠ -1 → M' = xeA M c) ∧ (¬ colS c ≠ -1 → M' = M)) := by
  refine CI.of (own := "RedSkies$MeasureReader") (ls0 := [some (.ref (al 6)), some (.int (iN c)), none]) (by decide +kernel) rfl (Nat.le_of_ble_eq_true rfl) rfl ?_
  intro pP eE sS mI aA bB mM cC X hr hlk
  obtain ⟨Q, hQ⟩ : ∃ Q : State → Prop, Q = MQ bB (QI tT dD al (fun r M' => r = b2i (colS c ≠ -1) ∧ (colS c ≠ -1 → M' = xeA M c) ∧ (¬ colS c ≠ -1 → M' = M))) aA sS 0 0 (fA al) := ⟨_, rfl⟩
  rw [← hQ]
  have hcs := colS_rng c
  refine g_iload_n X dX4_takeColour_0 rfl rfl ?_
  refine g_callTI X (c_X7_colourOf lL tT dD al _ _ (by first | assumption | omega)) lk_RX4_45 rfl rfl ⟨by decide, by decide⟩ rfl (Nat.le_of_ble_eq_true rfl) dX4_takeColour_1 (fun r1 M1 hc1 => ?_)
  obtain ⟨hr1, hm1⟩ := hc1
  subst r1
  subst M1
  refine g_istore_n_2 X dX4_takeColour_4 rfl rfl (fun v2_4 ev2_4 => ?_)
  subst v2_4
  refine g_iload_n X dX4_takeColour_5 rfl rfl ?_
  refine g_iconst X dX4_takeColour_6 ?_
  refine g_icmp_ne (tgt := 12) X dX4_takeColour_7 (by decide) ⟨by omega, by omega⟩ (by decide) (fun q7 => ?_) (fun q7 => ?_)
  · refine g_aload_n X dX4_takeColour_12 rfl rfl ?_
    refine g_iload_n X dX4_takeColour_13 rfl rfl ?_
    refine g_puti (kz := 4) X kd_6 fc4 (k := 4) (by decide) rfl wd_147 rfl rfl rfl dX4_takeColour_14 ?_
    refine g_aload_n X dX4_takeColour_17 rfl rfl ?_
    refine g_iconst X dX4_takeColour_18 ?_
    refine g_puti (kz := 5) X kd_6 fc4 (k := 5) (by decide) rfl wd_148 rfl rfl rfl dX4_takeColour_19 ?_
    refine g_aload_n X dX4_takeColour_22 rfl rfl ?_
    refine g_iconst X dX4_takeColour_23 ?_
    refine g_puti (kz := 1) X kd_6 fc4 (k := 1) (by decide) rfl wd_144 rfl rfl rfl dX4_takeColour_24 ?_
    refine g_iconst X dX4_takeColour_27 ?_
    rw [hQ]
    refine g_zret X hr hlk (by decide) dX4_takeColour_28 ?_
    exact ⟨b2i_1 (by omega), fun _ => rfl, fun f => absurd (by omega) f⟩
  · refine g_iconst X dX4_takeColour_10 ?_
    rw [hQ]
    refine g_zret X hr hlk (by decide) dX4_takeColour_11 ?_
    exact ⟨b2i_0 (by omega), fun f => absurd f (by omega), fun _ => rfl⟩
set_option maxRecDepth 100000 in
set_option maxHeartbeats 4000000 in
theorem c_X4_takePart (lL : Launch) (tT : TT) (dD : va_G) (al : Int → Nat) (M : Mem) (d : Int) (hd : 0 ≤ d ∧ d ≤ 9) (h5 : -1 ≤ M 6 5 ∧ M 6 5 ≤ 3) (h2 : 0 ≤ M 6 2 ∧ M 6 2 ≤ 1) (h4 : 0 ≤ M 6 4 ∧ M 6 4 ≤ 2) : CI lL yX4_takePart cX4_takePart 2 FieldType.boolean 0 0 tT dD al [.ref (al 6), .int (iN d)] M (fun r M' => r = b2i (M 6 5 < d ∧ d < 4) ∧ (M 6 5 < d ∧ d < 4 → M' = xeB M d) ∧ (¬ (M 6 5 < d ∧ d < 4) → M' = M)) := by
  refine CI.of (own := "RedSkies$MeasureReader") (ls0 := [some (.ref (al 6)), some (.int (iN d))]) (by decide +kernel) rfl (Nat.le_of_ble_eq_true rfl) rfl ?_
  intro pP eE sS mI aA bB mM cC X hr hlk
  obtain ⟨Q, hQ⟩ : ∃ Q : State → Prop, Q = MQ bB (QI tT dD al (fun r M' => r = b2i (M 6 5 < d ∧ d < 4) ∧ (M 6 5 < d ∧ d < 4 → M' = xeB M d) ∧ (¬ (M 6 5 < d ∧ d < 4) → M' = M))) aA sS 0 0 (fA al) := ⟨_, rfl⟩
  rw [← hQ]
  refine g_iload_n X dX4_takePart_0 rfl rfl ?_
  refine g_aload_n X dX4_takePart_1 rfl rfl ?_
  refine g_geti (kz := 5) X kd_6 fc4 (k := 5) (by decide) rfl wd_148 rfl dX4_takePart_2 ?_
  refine g_icmp_le (tgt := 13) X dX4_takePart_5 (by decide) ⟨by omega, by omega⟩ ⟨by omega, by omega⟩ (fun q5 => ?_) (fun q5 => ?_)
  · refine g_iconst X dX4_takePart_13 ?_
    rw [hQ]
    refine g_zret X hr hlk (by decide) dX4_takePart_14 ?_
    exact ⟨b2i_0 (by omega), fun f => absurd f (by omega), fun _ => rfl⟩
  · refine g_iload_n X dX4_takePart_8 rfl rfl ?_
    refine g_iconst X dX4_takePart_9 ?_
    refine g_icmp_lt (tgt := 15) X dX4_takePart_10 (by decide) ⟨by omega, by omega⟩ (by decide) (fun q10 => ?_) (fun q10 => ?_)
    · refine g_aload_n X dX4_takePart_15 rfl rfl ?_
      refine g_iload_n X dX4_takePart_16 rfl rfl ?_
      refine g_puti (kz := 5) X kd_6 fc4 (k := 5) (by decide) rfl wd_148 rfl rfl rfl dX4_takePart_17 ?_
      refine g_aload_n X dX4_takePart_20 rfl rfl ?_
      refine g_getr (r := 7) X kd_6 fc4 (k := 0) (by decide) rfl wd_142 rfl (by decide) dX4_takePart_21 ?_
      refine g_aload_n X dX4_takePart_24 rfl rfl ?_
      refine g_geti (kz := 2) X kd_6 fc4 (k := 2) (by decide) rfl wd_145 rfl dX4_takePart_25 ?_
      refine g_teq (b := (M 6 2)) (by first | (simp [mu]; done) | (simp only [mu]; repeat (first | rw [if_pos (⟨rfl, rfl⟩)] | rw [if_neg (by omega)]))) ?_
      refine g_bipush X dX4_takePart_28 (by decide +kernel) ?_
      refine g_imul X dX4_takePart_30 ?_
      refine g_aload_n X dX4_takePart_31 rfl rfl ?_
      refine g_geti (kz := 5) X kd_6 fc4 (k := 5) (by decide) rfl wd_148 rfl dX4_takePart_32 ?_
      refine g_teq (b := d) (by first | (simp [mu]; done) | (simp only [mu]; repeat (first | rw [if_pos (⟨rfl, rfl⟩)] | rw [if_neg (by omega)]))) ?_
      refine g_iconst X dX4_takePart_35 ?_
      refine g_imul X dX4_takePart_36 ?_
      refine g_iadd X dX4_takePart_37 ?_
      refine g_aload_n X dX4_takePart_38 rfl rfl ?_
      refine g_geti (kz := 4) X kd_6 fc4 (k := 4) (by decide) rfl wd_147 rfl dX4_takePart_39 ?_
      refine g_teq (b := (M 6 4)) (by first | (simp [mu]; done) | (simp only [mu]; repeat (first | rw [if_pos (⟨rfl, rfl⟩)] | rw [if_neg (by omega)]))) ?_
      refine g_iadd X dX4_takePart_42 ?_
      refine g_dup2 X dX4_takePart_43 rfl rfl ?_
      refine g_iald X kd_7 (by omega) (by omega) dX4_takePart_44 ?_
      refine g_teq (b := (M 7 ((((M 6 2) * 12) + (d * 3)) + (M 6 4)))) (by first | (simp [mu]; done) | (simp only [mu]; repeat (first | rw [if_pos (⟨rfl, rfl⟩)] | rw [if_neg (by omega)]))) ?_
      refine g_iconst X dX4_takePart_45 ?_
      refine g_iadd X dX4_takePart_46 ?_
      refine g_iast X kd_7 (by omega) (by omega) dX4_takePart_47 ?_
      refine g_aload_n X dX4_takePart_48 rfl rfl ?_
      refine g_iconst X dX4_takePart_49 ?_
      refine g_puti (kz := 1) X kd_6 fc4 (k := 1) (by decide) rfl wd_144 rfl rfl rfl dX4_takePart_50 ?_
      refine g_iconst X dX4_takePart_53 ?_
      rw [hQ]
      refine g_zret X hr hlk (by decide) dX4_takePart_54 ?_
      exact ⟨b2i_1 (by omega), fun _ => rfl, fun f => absurd (by omega) f⟩
    · refine g_iconst X dX4_takePart_13 ?_
      rw [hQ]
      refine g_zret X hr hlk (by decide) dX4_takePart_14 ?_
      exact ⟨b2i_0 (by omega), fun f => absurd f (by omega), fun _ => rfl⟩
set_option maxRecDepth 100000 in
set_option maxHeartbeats 4000000 in
theorem c_X4_takeBetween (lL : Launch) (tT : TT) (dD : va_G) (al : Int → Nat) (M : Mem) (c : Int) (hc : i32 c) (h3 : i32 (M 6 3)) (h2 : i32 (M 6 2)) : CI lL yX4_takeBetween cX4_takeBetween 2 FieldType.boolean 0 0 tT dD al [.ref (al 6), .int (iN c)] M (fun r M' => r = b2i (xeX M c) ∧ (xeX M c → M' = xeC M c) ∧ (¬ xeX M c → M' = M)) := by
  refine CI.of (own := "RedSkies$MeasureReader") (ls0 := [some (.ref (al 6)), some (.int (iN c))]) (by decide +kernel) rfl (Nat.le_of_ble_eq_true rfl) rfl ?_
  intro pP eE sS mI aA bB mM cC X hr hlk
  obtain ⟨Q, hQ⟩ : ∃ Q : State → Prop, Q = MQ bB (QI tT dD al (fun r M' => r = b2i (xeX M c) ∧ (xeX M c → M' = xeC M c) ∧ (¬ xeX M c → M' = M))) aA sS 0 0 (fA al) := ⟨_, rfl⟩
  rw [← hQ]
  refine g_iload_n X dX4_takeBetween_0 rfl rfl ?_
  refine g_bipush X dX4_takeBetween_1 (by decide +kernel) ?_
  refine g_icmp_ne (tgt := 27) X dX4_takeBetween_3 (by decide) ⟨by omega, by omega⟩ (by decide) (fun q3 => ?_) (fun q3 => ?_)
  · refine g_iload_n X dX4_takeBetween_27 rfl rfl ?_
    refine g_bipush X dX4_takeBetween_28 (by decide +kernel) ?_
    refine g_icmp_ne (tgt := 53) X dX4_takeBetween_30 (by decide) ⟨by omega, by omega⟩ (by decide) (fun q30 => ?_) (fun q30 => ?_)
    · refine g_iconst X dX4_takeBetween_53 ?_
      rw [hQ]
      refine g_zret X hr hlk (by decide) dX4_takeBetween_54 ?_
      have n : ¬ xeX M c := by unfold xeX; omega
      exact ⟨b2i_0 n, fun f => absurd f n, fun _ => rfl⟩
    · refine g_aload_n X dX4_takeBetween_33 rfl rfl ?_
      refine g_geti (kz := 2) X kd_6 fc4 (k := 2) (by decide) rfl wd_145 rfl dX4_takeBetween_34 ?_
      refine g_if_ne (tgt := 53) X dX4_takeBetween_37 (by decide) ⟨by omega, by omega⟩ (fun q37 => ?_) (fun q37 => ?_)
      · refine g_iconst X dX4_takeBetween_53 ?_
        rw [hQ]
        refine g_zret X hr hlk (by decide) dX4_takeBetween_54 ?_
        have n : ¬ xeX M c := by unfold xeX; omega
        exact ⟨b2i_0 n, fun f => absurd f n, fun _ => rfl⟩
      · refine g_aload_n X dX4_takeBetween_40 rfl rfl ?_
        refine g_iconst X dX4_takeBetween_41 ?_
        refine g_puti (kz := 2) X kd_6 fc4 (k := 2) (by decide) rfl wd_145 rfl rfl rfl dX4_takeBetween_42 ?_
        refine g_aload_n X dX4_takeBetween_45 rfl rfl ?_
        refine g_iconst X dX4_takeBetween_46 ?_
        refine g_puti (kz := 3) X kd_6 fc4 (k := 3) (by decide) rfl wd_146 rfl rfl rfl dX4_takeBetween_47 ?_
        refine g_goto (tgt := 55) X dX4_takeBetween_50 (by decide) ?_
        refine g_aload_n X dX4_takeBetween_55 rfl rfl ?_
        refine g_iconst X dX4_takeBetween_56 ?_
        refine g_puti (kz := 1) X kd_6 fc4 (k := 1) (by decide) rfl wd_144 rfl rfl rfl dX4_takeBetween_57 ?_
        refine g_iconst X dX4_takeBetween_60 ?_
        rw [hQ]
        refine g_zret X hr hlk (by decide) dX4_takeBetween_61 ?_
        have n : xeX M c := by unfold xeX; omega
        first | (exfalso; omega) | exact ⟨b2i_1 n, fun _ => by unfold xeC; first | rw [if_pos (by omega)] | rw [if_neg (by omega)], fun f => absurd n f⟩
  · refine g_aload_n X dX4_takeBetween_6 rfl rfl ?_
    refine g_geti (kz := 3) X kd_6 fc4 (k := 3) (by decide) rfl wd_146 rfl dX4_takeBetween_7 ?_
    refine g_iconst X dX4_takeBetween_10 ?_
    refine g_icmp_ge (tgt := 27) X dX4_takeBetween_11 (by decide) ⟨by omega, by omega⟩ (by decide) (fun q11 => ?_) (fun q11 => ?_)
    · refine g_iload_n X dX4_takeBetween_27 rfl rfl ?_
      refine g_bipush X dX4_takeBetween_28 (by decide +kernel) ?_
      refine g_icmp_ne (tgt := 53) X dX4_takeBetween_30 (by decide) ⟨by omega, by omega⟩ (by decide) (fun q30 => ?_) (fun q30 => ?_)
      · refine g_iconst X dX4_takeBetween_53 ?_
        rw [hQ]
        refine g_zret X hr hlk (by decide) dX4_takeBetween_54 ?_
        have n : ¬ xeX M c := by unfold xeX; omega
        exact ⟨b2i_0 n, fun f => absurd f n, fun _ => rfl⟩
      · refine g_aload_n X dX4_takeBetween_33 rfl rfl ?_
        refine g_geti (kz := 2) X kd_6 fc4 (k := 2) (by decide) rfl wd_145 rfl dX4_takeBetween_34 ?_
        refine g_if_ne (tgt := 53) X dX4_takeBetween_37 (by decide) ⟨by omega, by omega⟩ (fun q37 => ?_) (fun q37 => ?_)
        · refine g_iconst X dX4_takeBetween_53 ?_
          rw [hQ]
          refine g_zret X hr hlk (by decide) dX4_takeBetween_54 ?_
          have n : ¬ xeX M c := by unfold xeX; omega
          exact ⟨b2i_0 n, fun f => absurd f n, fun _ => rfl⟩
        · refine g_aload_n X dX4_takeBetween_40 rfl rfl ?_
          refine g_iconst X dX4_takeBetween_41 ?_
          refine g_puti (kz := 2) X kd_6 fc4 (k := 2) (by decide) rfl wd_145 rfl rfl rfl dX4_takeBetween_42 ?_
          refine g_aload_n X dX4_takeBetween_45 rfl rfl ?_
          refine g_iconst X dX4_takeBetween_46 ?_
          refine g_puti (kz := 3) X kd_6 fc4 (k := 3) (by decide) rfl wd_146 rfl rfl rfl dX4_takeBetween_47 ?_
          refine g_goto (tgt := 55) X dX4_takeBetween_50 (by decide) ?_
          refine g_aload_n X dX4_takeBetween_55 rfl rfl ?_
          refine g_iconst X dX4_takeBetween_56 ?_
          refine g_puti (kz := 1) X kd_6 fc4 (k := 1) (by decide) rfl wd_144 rfl rfl rfl dX4_takeBetween_57 ?_
          refine g_iconst X dX4_takeBetween_60 ?_
          rw [hQ]
          refine g_zret X hr hlk (by decide) dX4_takeBetween_61 ?_
          have n : xeX M c := by unfold xeX; omega
          first | (exfalso; omega) | exact ⟨b2i_1 n, fun _ => by unfold xeC; first | rw [if_pos (by omega)] | rw [if_neg (by omega)], fun f => absurd n f⟩
    · refine g_aload_n X dX4_takeBetween_14 rfl rfl ?_
      refine g_dup X dX4_takeBetween_15 rfl ?_
      refine g_geti (kz := 3) X kd_6 fc4 (k := 3) (by decide) rfl wd_146 rfl dX4_takeBetween_16 ?_
      refine g_iconst X dX4_takeBetween_19 ?_
      refine g_iadd X dX4_takeBetween_20 ?_
      refine g_puti (kz := 3) X kd_6 fc4 (k := 3) (by decide) rfl wd_146 rfl rfl rfl dX4_takeBetween_21 ?_
      refine g_goto (tgt := 55) X dX4_takeBetween_24 (by decide) ?_
      refine g_aload_n X dX4_takeBetween_55 rfl rfl ?_
      refine g_iconst X dX4_takeBetween_56 ?_
      refine g_puti (kz := 1) X kd_6 fc4 (k := 1) (by decide) rfl wd_144 rfl rfl rfl dX4_takeBetween_57 ?_
      refine g_iconst X dX4_takeBetween_60 ?_
      rw [hQ]
      refine g_zret X hr hlk (by decide) dX4_takeBetween_61 ?_
      have n : xeX M c := by unfold xeX; omega
      first | (exfalso; omega) | exact ⟨b2i_1 n, fun _ => by unfold xeC; first | rw [if_pos (by omega)] | rw [if_neg (by omega)], fun f => absurd n f⟩
set_option maxRecDepth 100000 in
set_option maxHeartbeats 4000000 in
theorem c_X4_take (lL : Launch) (tT : TT) (dD : va_G) (al : Int → Nat) (M : Mem) (c : Int) (P : Mem) (hS : SE M P) (hG : GM P) (hc : 1 ≤ c ∧ c ≤ 126) : CI lL yX4_take cX4_take 3 FieldType.boolean 2 42 tT dD al [.ref (al 6), .int (iN c)] M (fun r M' => r = b2i (gmOk P c) ∧ XR M M' ∧ (gmOk P c → SE M' (gmM P c))) := by
  refine CI.of (own := "RedSkies$MeasureReader") (ls0 := [some (.ref (al 6)), some (.int (iN c)), none]) (by decide +kernel) rfl (Nat.le_of_ble_eq_true rfl) rfl ?_
  intro pP eE sS mI aA bB mM cC X hr hlk
  obtain ⟨Q, hQ⟩ : ∃ Q : State → Prop, Q = MQ bB (QI tT dD al (fun r M' => r = b2i (gmOk P c) ∧ XR M M' ∧ (gmOk P c → SE M' (gmM P c)))) aA sS 0 0 (fA al) := ⟨_, rfl⟩
  rw [← hQ]
  obtain ⟨h1, h2, h3, h4, h5, h6⟩ := id hS
  have hg := hG.1.2.2.2
  have hdr := dgS_rng c
  have hdd : dgS c = (if 48 ≤ c ∧ c ≤ 57 then c - 48 else -1) := rfl
  refine g_aload_n X dX4_take_0 rfl rfl ?_
  refine g_geti (kz := 1) X kd_6 fc4 (k := 1) (by decide) rfl wd_144 rfl dX4_take_1 ?_
  refine g_if_ne (tgt := 13) X dX4_take_4 (by decide) ⟨by omega, by omega⟩ (fun q4 => ?_) (fun q4 => ?_)
  · have z1 := h4 (by omega)
    have z2 := hg (by omega)
    refine g_iload_n X dX4_take_13 rfl rfl ?_
    refine g_callTI X (c_X7_digitOf lL tT dD al _ _ ⟨by omega, by omega⟩) lk_RX4_35 rfl rfl ⟨by decide, by decide⟩ rfl (Nat.le_of_ble_eq_true rfl) dX4_take_14 (fun r14 M14 hc14 => ?_)
    obtain ⟨hr14, hm14⟩ := hc14
    subst r14
    subst M14
    refine g_istore_n_2 X dX4_take_17 rfl rfl (fun v2_17 ev2_17 => ?_)
    subst v2_17
    refine g_iload_n X dX4_take_18 rfl rfl ?_
    refine g_iconst X dX4_take_19 ?_
    refine g_icmp_eq (tgt := 29) X dX4_take_20 (by decide) ⟨by omega, by omega⟩ (by decide) (fun q20 => ?_) (fun q20 => ?_)
    · have hdc : ¬ (48 ≤ c ∧ c ≤ 57) := fun z => by rw [if_pos z] at q20; omega
      refine g_aload_n X dX4_take_29 rfl rfl ?_
      refine g_geti (kz := 1) X kd_6 fc4 (k := 1) (by decide) rfl wd_144 rfl dX4_take_30 ?_
      refine g_iconst X dX4_take_33 ?_
      refine g_icmp_ne (tgt := 49) X dX4_take_34 (by decide) ⟨by omega, by omega⟩ (by decide) (fun q34 => ?_) (fun q34 => ?_)
      · refine g_iconst X dX4_take_49 ?_
        rw [hQ]
        refine g_zret X hr hlk (by decide) dX4_take_50 ?_
        have z := se_C (c := c) hS (by omega) hdc
        first | exact tk_no (fun f => by have f2 := z.1.mp f; omega) (XR.rf M) | (have f2 := q42; exact tk_yes (z.1.mpr ⟨by omega, q42⟩) (by rw [hc39.1 q42]; exact xe_C M c) (by rw [hc39.1 q42]; exact z.2 ⟨by omega, q42⟩)) | exact tk_no (fun f => q42 (z.1.mp f).2) (by rw [hc39.2 q42]; exact XR.rf M)
      · refine g_aload_n X dX4_take_37 rfl rfl ?_
        refine g_iload_n X dX4_take_38 rfl rfl ?_
        refine g_callVI X (c_X4_takeBetween lL tT dD al _ _ ⟨by omega, by omega⟩ ⟨by omega, by omega⟩ ⟨by omega, by omega⟩) kd_6 fc4 lk_RX4_42 rfl rfl ⟨by decide, by decide⟩ rfl (Nat.le_of_ble_eq_true rfl) dX4_take_39 (fun r39 M39 hc39 => ?_)
        obtain ⟨hr39, hc39⟩ := hc39
        subst r39
        refine g_if_eq (tgt := 49) X dX4_take_42 (by decide) (b2i_i32 _) (fun q42 => ?_) (fun q42 => ?_)
        · have q42 := b2i_f q42
          refine g_iconst X dX4_take_49 ?_
          rw [hQ]
          refine g_zret X hr hlk (by decide) dX4_take_50 ?_
          have z := se_C (c := c) hS (by omega) hdc
          first | exact tk_no (fun f => by have f2 := z.1.mp f; omega) (XR.rf M) | (have f2 := q42; exact tk_yes (z.1.mpr ⟨by omega, q42⟩) (by rw [hc39.1 q42]; exact xe_C M c) (by rw [hc39.1 q42]; exact z.2 ⟨by omega, q42⟩)) | exact tk_no (fun f => q42 (z.1.mp f).2) (by rw [hc39.2 q42]; exact XR.rf M)
        · have q42 := b2i_t q42
          refine g_iconst X dX4_take_45 ?_
          refine g_goto (tgt := 50) X dX4_take_46 (by decide) ?_
          rw [hQ]
          refine g_zret X hr hlk (by decide) dX4_take_50 ?_
          have z := se_C (c := c) hS (by omega) hdc
          first | exact tk_no (fun f => by have f2 := z.1.mp f; omega) (XR.rf M) | (have f2 := q42; exact tk_yes (z.1.mpr ⟨by omega, q42⟩) (by rw [hc39.1 q42]; exact xe_C M c) (by rw [hc39.1 q42]; exact z.2 ⟨by omega, q42⟩)) | exact tk_no (fun f => q42 (z.1.mp f).2) (by rw [hc39.2 q42]; exact XR.rf M)
    · have hdc := dgS_i (c := c) q20
      have z3 := dgS_y hdc
      refine g_aload_n X dX4_take_23 rfl rfl ?_
      refine g_iload_n X dX4_take_24 rfl rfl ?_
      refine g_callVI X (c_X4_takePart lL tT dD al _ _ (by omega) (by omega) (by omega) (by omega)) kd_6 fc4 lk_RX4_39 rfl rfl ⟨by decide, by decide⟩ rfl (Nat.le_of_ble_eq_true rfl) dX4_take_25 (fun r25 M25 hc25 => ?_)
      obtain ⟨hr25, hc25⟩ := hc25
      subst r25
      rw [hQ]
      refine g_zret X hr hlk (b2i_01 _) dX4_take_28 ?_
      have z := se_B (c := c) hS hG (by omega) hdc
      rw [← z3] at z
      refine tk_q z.1 ?_ (fun f => by rw [hc25.1 f]; exact z.2 f)
      by_cases f : M 6 5 < dgS c ∧ dgS c < 4
      · rw [hc25.1 f]; exact xe_B M _
      · rw [hc25.2 f]; exact XR.rf M
  · refine g_aload_n X dX4_take_7 rfl rfl ?_
    refine g_iload_n X dX4_take_8 rfl rfl ?_
    refine g_callVI X (c_X4_takeColour lL tT dD al _ _ ⟨by omega, by omega⟩) kd_6 fc4 lk_RX4_31 rfl rfl ⟨by decide, by decide⟩ rfl (Nat.le_of_ble_eq_true rfl) dX4_take_9 (fun r9 M9 hc9 => ?_)
    obtain ⟨hr9, hc9⟩ := hc9
    subst r9
    rw [hQ]
    refine g_zret X hr hlk (b2i_01 _) dX4_take_12 ?_
    have z := se_A (c := c) hS hG q4
    refine tk_q z.1 ?_ (fun f => by rw [hc9.1 f]; exact z.2 f)
    by_cases f : colS c ≠ -1
    · rw [hc9.1 f]; exact xe_A M c
    · rw [hc9.2 f]; exact XR.rf M
