set_option maxRecDepth 100000 in
set_option maxHeartbeats 4000000 in
theorem c_X3_begin (lL : Launch) (tT : TT) (dD : va_G) (al : Int → Nat) (M : Mem)   : CV lL yX3_begin cX3_begin 1 0 0 tT dD al [.ref (al 8)] M (fun M' => M' = xwZ M) := by
  refine CV.of (own := "RedSkies$LawReader") (ls0 := [some (.ref (al 8))]) (by decide +kernel) rfl (Nat.le_of_ble_eq_true rfl) rfl ?_
  intro pP eE sS mI aA bB mM cC X hr hlk
  obtain ⟨Q, hQ⟩ : ∃ Q : State → Prop, Q = MQ bB (QV tT dD al (fun M' => M' = xwZ M)) aA sS 0 0 (fA al) := ⟨_, rfl⟩
  rw [← hQ]
  refine g_aload_n X dX3_begin_0 rfl rfl ?_
  refine g_iconst X dX3_begin_1 ?_
  refine g_puti (kz := 1) X kd_8 fc3 (k := 1) (by decide) rfl wd_170 rfl rfl rfl dX3_begin_2 ?_
  refine g_aload_n X dX3_begin_5 rfl rfl ?_
  refine g_iconst X dX3_begin_6 ?_
  refine g_puti (kz := 2) X kd_8 fc3 (k := 2) (by decide) rfl wd_172 rfl rfl rfl dX3_begin_7 ?_
  refine g_aload_n X dX3_begin_10 rfl rfl ?_
  refine g_iconst X dX3_begin_11 ?_
  refine g_puti (kz := 3) X kd_8 fc3 (k := 3) (by decide) rfl wd_174 rfl rfl rfl dX3_begin_12 ?_
  refine g_aload_n X dX3_begin_15 rfl rfl ?_
  refine g_iconst X dX3_begin_16 ?_
  refine g_putz (kz := 4) X kd_8 fc3 (k := 4) (by decide) rfl wd_175 rfl rfl rfl (by decide) dX3_begin_17 ?_
  rw [hQ]
  refine g_vret X hr hlk dX3_begin_20 ?_
  rfl
set_option maxRecDepth 100000 in
set_option maxHeartbeats 4000000 in
theorem c_X3_isDone (lL : Launch) (tT : TT) (dD : va_G) (al : Int → Nat) (M : Mem)  (h1 : M 8 4 = 0 ∨ M 8 4 = 1) (h2 : i32 (M 8 3)) : CI lL yX3_isDone cX3_isDone 1 FieldType.boolean 0 0 tT dD al [.ref (al 8)] M (fun r M' => r = b2i (M 8 4 = 1 ∧ 0 < M 8 3) ∧ M' = M) := by
  refine CI.of (own := "RedSkies$LawReader") (ls0 := [some (.ref (al 8))]) (by decide +kernel) rfl (Nat.le_of_ble_eq_true rfl) rfl ?_
  intro pP eE sS mI aA bB mM cC X hr hlk
  obtain ⟨Q, hQ⟩ : ∃ Q : State → Prop, Q = MQ bB (QI tT dD al (fun r M' => r = b2i (M 8 4 = 1 ∧ 0 < M 8 3) ∧ M' = M)) aA sS 0 0 (fA al) := ⟨_, rfl⟩
  rw [← hQ]
  refine g_aload_n X dX3_isDone_0 rfl rfl ?_
  refine g_getz (kz := 4) X kd_8 fc3 (k := 4) (by decide) rfl wd_175 rfl dX3_isDone_1 ?_
  refine g_if_eq (tgt := 18) X dX3_isDone_4 (by decide) ⟨by omega, by omega⟩ (fun q4 => ?_) (fun q4 => ?_)
  · refine g_iconst X dX3_isDone_18 ?_
    rw [hQ]
    refine g_zret X hr hlk (by decide) dX3_isDone_19 ?_
    first | exact ⟨b2i_1 (by omega), rfl⟩ | exact ⟨b2i_0 (by omega), rfl⟩
  · refine g_aload_n X dX3_isDone_7 rfl rfl ?_
    refine g_geti (kz := 3) X kd_8 fc3 (k := 3) (by decide) rfl wd_174 rfl dX3_isDone_8 ?_
    refine g_if_le (tgt := 18) X dX3_isDone_11 (by decide) ⟨by omega, by omega⟩ (fun q11 => ?_) (fun q11 => ?_)
    · refine g_iconst X dX3_isDone_18 ?_
      rw [hQ]
      refine g_zret X hr hlk (by decide) dX3_isDone_19 ?_
      first | exact ⟨b2i_1 (by omega), rfl⟩ | exact ⟨b2i_0 (by omega), rfl⟩
    · refine g_iconst X dX3_isDone_14 ?_
      refine g_goto (tgt := 19) X dX3_isDone_15 (by decide) ?_
      rw [hQ]
      refine g_zret X hr hlk (by decide) dX3_isDone_19 ?_
      first | exact ⟨b2i_1 (by omega), rfl⟩ | exact ⟨b2i_0 (by omega), rfl⟩
set_option maxRecDepth 100000 in
set_option maxHeartbeats 4000000 in
theorem c_X3_boundAhead (lL : Launch) (tT : TT) (dD : va_G) (al : Int → Nat) (M : Mem)  (h1 : i32 (M 8 1)) : CI lL yX3_boundAhead cX3_boundAhead 1 FieldType.int 0 0 tT dD al [.ref (al 8)] M (fun r M' => r = xwB M ∧ M' = M) := by
  refine CI.of (own := "RedSkies$LawReader") (ls0 := [some (.ref (al 8))]) (by decide +kernel) rfl (Nat.le_of_ble_eq_true rfl) rfl ?_
  intro pP eE sS mI aA bB mM cC X hr hlk
  obtain ⟨Q, hQ⟩ : ∃ Q : State → Prop, Q = MQ bB (QI tT dD al (fun r M' => r = xwB M ∧ M' = M)) aA sS 0 0 (fA al) := ⟨_, rfl⟩
  rw [← hQ]
  refine g_aload_n X dX3_boundAhead_0 rfl rfl ?_
  refine g_geti (kz := 1) X kd_8 fc3 (k := 1) (by decide) rfl wd_170 rfl dX3_boundAhead_1 ?_
  refine g_if_le (tgt := 29) X dX3_boundAhead_4 (by decide) ⟨by omega, by omega⟩ (fun q4 => ?_) (fun q4 => ?_)
  · refine g_iconst X dX3_boundAhead_29 ?_
    rw [hQ]
    refine g_iret X hr hlk dX3_boundAhead_30 ?_
    exact ⟨by unfold xwB; first | rw [if_pos (by omega)] | rw [if_neg (by omega)], rfl⟩
  · refine g_aload_n X dX3_boundAhead_7 rfl rfl ?_
    refine g_geti (kz := 1) X kd_8 fc3 (k := 1) (by decide) rfl wd_170 rfl dX3_boundAhead_8 ?_
    refine g_iconst X dX3_boundAhead_11 ?_
    refine g_icmp_gt (tgt := 29) X dX3_boundAhead_12 (by decide) ⟨by omega, by omega⟩ (by decide) (fun q12 => ?_) (fun q12 => ?_)
    · refine g_iconst X dX3_boundAhead_29 ?_
      rw [hQ]
      refine g_iret X hr hlk dX3_boundAhead_30 ?_
      exact ⟨by unfold xwB; first | rw [if_pos (by omega)] | rw [if_neg (by omega)], rfl⟩
    · refine g_aload_n X dX3_boundAhead_15 rfl rfl ?_
      refine g_getr (r := 9) X kd_8 fc3 (k := 0) (by decide) rfl wd_168 rfl (by decide) dX3_boundAhead_16 ?_
      refine g_aload_n X dX3_boundAhead_19 rfl rfl ?_
      refine g_geti (kz := 1) X kd_8 fc3 (k := 1) (by decide) rfl wd_170 rfl dX3_boundAhead_20 ?_
      refine g_iconst X dX3_boundAhead_23 ?_
      refine g_isub X dX3_boundAhead_24 ?_
      refine g_iald X kd_9 (by omega) (by omega) dX3_boundAhead_25 ?_
      refine g_goto (tgt := 30) X dX3_boundAhead_26 (by decide) ?_
      rw [hQ]
      refine g_iret X hr hlk dX3_boundAhead_30 ?_
      exact ⟨by unfold xwB; first | rw [if_pos (by omega)] | rw [if_neg (by omega)], rfl⟩
set_option maxRecDepth 100000 in
set_option maxHeartbeats 4000000 in
theorem c_X3_grow (lL : Launch) (tT : TT) (dD : va_G) (al : Int → Nat) (M : Mem) (d : Int)  : CV lL yX3_grow cX3_grow 2 0 0 tT dD al [.ref (al 8), .int (iN d)] M (fun M' => M' = xwG M d) := by
  refine CV.of (own := "RedSkies$LawReader") (ls0 := [some (.ref (al 8)), some (.int (iN d))]) (by decide +kernel) rfl (Nat.le_of_ble_eq_true rfl) rfl ?_
  intro pP eE sS mI aA bB mM cC X hr hlk
  obtain ⟨Q, hQ⟩ : ∃ Q : State → Prop, Q = MQ bB (QV tT dD al (fun M' => M' = xwG M d)) aA sS 0 0 (fA al) := ⟨_, rfl⟩
  rw [← hQ]
  refine g_aload_n X dX3_grow_0 rfl rfl ?_
  refine g_aload_n X dX3_grow_1 rfl rfl ?_
  refine g_geti (kz := 2) X kd_8 fc3 (k := 2) (by decide) rfl wd_172 rfl dX3_grow_2 ?_
  refine g_bipush X dX3_grow_5 (by decide +kernel) ?_
  refine g_imul X dX3_grow_7 ?_
  refine g_iload_n X dX3_grow_8 rfl rfl ?_
  refine g_iadd X dX3_grow_9 ?_
  refine g_puti (kz := 2) X kd_8 fc3 (k := 2) (by decide) rfl wd_172 rfl rfl rfl dX3_grow_10 ?_
  refine g_aload_n X dX3_grow_13 rfl rfl ?_
  refine g_dup X dX3_grow_14 rfl ?_
  refine g_geti (kz := 3) X kd_8 fc3 (k := 3) (by decide) rfl wd_174 rfl dX3_grow_15 ?_
  refine g_teq (b := (M 8 3)) (by first | (simp [mu]; done) | (simp only [mu]; repeat (first | rw [if_pos (⟨rfl, rfl⟩)] | rw [if_neg (by omega)]))) ?_
  refine g_iconst X dX3_grow_18 ?_
  refine g_iadd X dX3_grow_19 ?_
  refine g_puti (kz := 3) X kd_8 fc3 (k := 3) (by decide) rfl wd_174 rfl rfl rfl dX3_grow_20 ?_
  rw [hQ]
  refine g_vret X hr hlk dX3_grow_23 ?_
  rfl
set_option maxRecDepth 100000 in
set_option maxHeartbeats 4000000 in
theorem c_X3_takeOfGive (lL : Launch) (tT : TT) (dD : va_G) (al : Int → Nat) (M : Mem) (d : Int) (h3 : i32 (M 8 3)) (h2 : i32 (M 8 2)) : CI lL yX3_takeOfGive cX3_takeOfGive 2 FieldType.boolean 1 21 tT dD al [.ref (al 8), .int (iN d)] M (fun r M' => r = b2i (¬ (M 8 3 = 2 ∨ (M 8 3 = 1 ∧ M 8 2 = 0))) ∧ ((¬ (M 8 3 = 2 ∨ (M 8 3 = 1 ∧ M 8 2 = 0))) → M' = xwG M d) ∧ (¬ (¬ (M 8 3 = 2 ∨ (M 8 3 = 1 ∧ M 8 2 = 0))) → M' = M)) := by
  refine CI.of (own := "RedSkies$LawReader") (ls0 := [some (.ref (al 8)), some (.int (iN d))]) (by decide +kernel) rfl (Nat.le_of_ble_eq_true rfl) rfl ?_
  intro pP eE sS mI aA bB mM cC X hr hlk
  obtain ⟨Q, hQ⟩ : ∃ Q : State → Prop, Q = MQ bB (QI tT dD al (fun r M' => r = b2i (¬ (M 8 3 = 2 ∨ (M 8 3 = 1 ∧ M 8 2 = 0))) ∧ ((¬ (M 8 3 = 2 ∨ (M 8 3 = 1 ∧ M 8 2 = 0))) → M' = xwG M d) ∧ (¬ (¬ (M 8 3 = 2 ∨ (M 8 3 = 1 ∧ M 8 2 = 0))) → M' = M))) aA sS 0 0 (fA al) := ⟨_, rfl⟩
  rw [← hQ]
  refine g_aload_n X dX3_takeOfGive_0 rfl rfl ?_
  refine g_geti (kz := 3) X kd_8 fc3 (k := 3) (by decide) rfl wd_174 rfl dX3_takeOfGive_1 ?_
  refine g_iconst X dX3_takeOfGive_4 ?_
  refine g_icmp_eq (tgt := 23) X dX3_takeOfGive_5 (by decide) ⟨by omega, by omega⟩ (by decide) (fun q5 => ?_) (fun q5 => ?_)
  · refine g_iconst X dX3_takeOfGive_23 ?_
    rw [hQ]
    refine g_zret X hr hlk (by decide) dX3_takeOfGive_24 ?_
    have n : ¬ (¬ (M 8 3 = 2 ∨ (M 8 3 = 1 ∧ M 8 2 = 0))) := by omega
    exact ⟨b2i_0 n, fun f => absurd f n, fun _ => rfl⟩
  · refine g_aload_n X dX3_takeOfGive_8 rfl rfl ?_
    refine g_geti (kz := 3) X kd_8 fc3 (k := 3) (by decide) rfl wd_174 rfl dX3_takeOfGive_9 ?_
    refine g_iconst X dX3_takeOfGive_12 ?_
    refine g_icmp_ne (tgt := 25) X dX3_takeOfGive_13 (by decide) ⟨by omega, by omega⟩ (by decide) (fun q13 => ?_) (fun q13 => ?_)
    · refine g_aload_n X dX3_takeOfGive_25 rfl rfl ?_
      refine g_iload_n X dX3_takeOfGive_26 rfl rfl ?_
      refine g_callVV X (c_X3_grow lL tT dD al _ _ ) kd_8 fc3 lk_RX3_48 rfl rfl ⟨by decide, by decide⟩ rfl (Nat.le_of_ble_eq_true rfl) dX3_takeOfGive_27 (fun M27 hc27 => ?_)
      subst M27
      refine g_iconst X dX3_takeOfGive_30 ?_
      rw [hQ]
      refine g_zret X hr hlk (by decide) dX3_takeOfGive_31 ?_
      have n : (¬ (M 8 3 = 2 ∨ (M 8 3 = 1 ∧ M 8 2 = 0))) := by omega
      exact ⟨b2i_1 n, fun _ => rfl, fun f => absurd n f⟩
    · refine g_aload_n X dX3_takeOfGive_16 rfl rfl ?_
      refine g_geti (kz := 2) X kd_8 fc3 (k := 2) (by decide) rfl wd_172 rfl dX3_takeOfGive_17 ?_
      refine g_if_ne (tgt := 25) X dX3_takeOfGive_20 (by decide) ⟨by omega, by omega⟩ (fun q20 => ?_) (fun q20 => ?_)
      · refine g_aload_n X dX3_takeOfGive_25 rfl rfl ?_
        refine g_iload_n X dX3_takeOfGive_26 rfl rfl ?_
        refine g_callVV X (c_X3_grow lL tT dD al _ _ ) kd_8 fc3 lk_RX3_48 rfl rfl ⟨by decide, by decide⟩ rfl (Nat.le_of_ble_eq_true rfl) dX3_takeOfGive_27 (fun M27 hc27 => ?_)
        subst M27
        refine g_iconst X dX3_takeOfGive_30 ?_
        rw [hQ]
        refine g_zret X hr hlk (by decide) dX3_takeOfGive_31 ?_
        have n : (¬ (M 8 3 = 2 ∨ (M 8 3 = 1 ∧ M 8 2 = 0))) := by omega
        exact ⟨b2i_1 n, fun _ => rfl, fun f => absurd n f⟩
      · refine g_iconst X dX3_takeOfGive_23 ?_
        rw [hQ]
        refine g_zret X hr hlk (by decide) dX3_takeOfGive_24 ?_
        have n : ¬ (¬ (M 8 3 = 2 ∨ (M 8 3 = 1 ∧ M 8 2 = 0))) := by omega
        exact ⟨b2i_0 n, fun f => absurd f n, fun _ => rfl⟩
set_option maxRecDepth 100000 in
set_option maxHeartbeats 4000000 in
theorem c_X3_takeOfBound (lL : Launch) (tT : TT) (dD : va_G) (al : Int → Nat) (M : Mem) (d : Int) (hd : 0 ≤ d ∧ d ≤ 9) (h3 : (0 ≤ M 8 3 ∧ M 8 3 ≤ 3) ∧ (M 8 3 = 0 → M 8 2 = 0) ∧ (M 8 3 = 1 → M 8 2 ≤ 9) ∧ (M 8 3 = 2 → M 8 2 ≤ 99)) (h2 : 0 ≤ M 8 2 ∧ M 8 2 ≤ 999) (h1 : 0 ≤ M 8 1 ∧ M 8 1 ≤ 5) (hb : 0 ≤ xwB M ∧ xwB M ≤ 999) : CI lL yX3_takeOfBound cX3_takeOfBound 4 FieldType.boolean 1 21 tT dD al [.ref (al 8), .int (iN d)] M (fun r M' => r = b2i ((¬ (M 8 3 = 3 ∨ (M 8 3 = 0 ∧ d = 0))) ∧ (xwB M < xwR (M 8 3 + 1) (M 8 2 * 10 + d))) ∧ ((¬ (M 8 3 = 3 ∨ (M 8 3 = 0 ∧ d = 0))) → M' = xwG M d) ∧ (¬ (¬ (M 8 3 = 3 ∨ (M 8 3 = 0 ∧ d = 0))) → M' = M)) := by
  refine CI.of (own := "RedSkies$LawReader") (ls0 := [some (.ref (al 8)), some (.int (iN d)), none, none]) (by decide +kernel) rfl (Nat.le_of_ble_eq_true rfl) rfl ?_
  intro pP eE sS mI aA bB mM cC X hr hlk
  obtain ⟨Q, hQ⟩ : ∃ Q : State → Prop, Q = MQ bB (QI tT dD al (fun r M' => r = b2i ((¬ (M 8 3 = 3 ∨ (M 8 3 = 0 ∧ d = 0))) ∧ (xwB M < xwR (M 8 3 + 1) (M 8 2 * 10 + d))) ∧ ((¬ (M 8 3 = 3 ∨ (M 8 3 = 0 ∧ d = 0))) → M' = xwG M d) ∧ (¬ (¬ (M 8 3 = 3 ∨ (M 8 3 = 0 ∧ d = 0))) → M' = M))) aA sS 0 0 (fA al) := ⟨_, rfl⟩
  rw [← hQ]
  refine g_aload_n X dX3_takeOfBound_0 rfl rfl ?_
  refine g_geti (kz := 3) X kd_8 fc3 (k := 3) (by decide) rfl wd_174 rfl dX3_takeOfBound_1 ?_
  refine g_iconst X dX3_takeOfBound_4 ?_
  refine g_icmp_eq (tgt := 19) X dX3_takeOfBound_5 (by decide) ⟨by omega, by omega⟩ (by decide) (fun q5 => ?_) (fun q5 => ?_)
  · refine g_iconst X dX3_takeOfBound_19 ?_
    rw [hQ]
    refine g_zret X hr hlk (by decide) dX3_takeOfBound_20 ?_
    have n : ¬ (¬ (M 8 3 = 3 ∨ (M 8 3 = 0 ∧ d = 0))) := by omega
    exact ⟨b2i_0 (fun f => n f.1), fun f => absurd f n, fun _ => rfl⟩
  · refine g_aload_n X dX3_takeOfBound_8 rfl rfl ?_
    refine g_geti (kz := 3) X kd_8 fc3 (k := 3) (by decide) rfl wd_174 rfl dX3_takeOfBound_9 ?_
    refine g_if_ne (tgt := 21) X dX3_takeOfBound_12 (by decide) ⟨by omega, by omega⟩ (fun q12 => ?_) (fun q12 => ?_)
    · refine g_aload_n X dX3_takeOfBound_21 rfl rfl ?_
      refine g_iload_n X dX3_takeOfBound_22 rfl rfl ?_
      refine g_callVV X (c_X3_grow lL tT dD al _ _ ) kd_8 fc3 lk_RX3_48 rfl rfl ⟨by decide, by decide⟩ rfl (Nat.le_of_ble_eq_true rfl) dX3_takeOfBound_23 (fun M23 hc23 => ?_)
      subst M23
      have gm : ∀ o k, xwG M d o k = if o = 8 ∧ k = 3 then M 8 3 + 1 else if o = 8 ∧ k = 2 then M 8 2 * 10 + d else M o k := fun o k => rfl
      have g2 : xwG M d 8 2 = M 8 2 * 10 + d := by simp [gm]
      have g3 : xwG M d 8 3 = M 8 3 + 1 := by simp [gm]
      have g1 : xwG M d 8 1 = M 8 1 := by simp [gm]
      have gb : xwB (xwG M d) = xwB M := by unfold xwB; rw [g1]; have z : xwG M d 9 = M 9 := (by funext j; simp [gm]); rw [z]
      refine g_aload_n X dX3_takeOfBound_26 rfl rfl ?_
      refine g_geti (kz := 2) X kd_8 fc3 (k := 2) (by decide) rfl wd_172 rfl dX3_takeOfBound_27 ?_
      refine g_istore_n_2 X dX3_takeOfBound_30 rfl rfl (fun v2_30 ev2_30 => ?_)
      subst v2_30
      refine g_aload_n X dX3_takeOfBound_31 rfl rfl ?_
      refine g_geti (kz := 3) X kd_8 fc3 (k := 3) (by decide) rfl wd_174 rfl dX3_takeOfBound_32 ?_
      refine g_istore_n_3 X dX3_takeOfBound_35 rfl rfl (fun v3_35 ev3_35 => ?_)
      subst v3_35
      have L_36 : ∀ (n : Nat) (g : Int) (i : Int), (1 ≤ i) → (i ≤ 3) → (xwR i g = xwR (M 8 3 + 1) (M 8 2 * 10 + d)) → (0 ≤ g ∧ g ≤ 999 ∧ (i = 1 → g ≤ 9) ∧ (i = 2 → g ≤ 99)) → (3 - i).toNat < n → Gd pP lL eE (rmN 1 21) sS mI aA bB mM cC 0 0 Q tT dD al (fA al) 36 [some (.ref (al 8)), none, some (.int (iN g)), some (.int (iN i))] [] (xwG M d) := by
        intro n
        induction n with
        | zero => intro g i hi hi2 hxr hg hm; exact absurd hm (Nat.not_lt_zero _)
        | succ n ih =>
          intro g i hi hi2 hxr hg hm
          have ih_36 := ih
          clear ih
          refine g_iload_n X dX3_takeOfBound_36 rfl rfl ?_
          refine g_iconst X dX3_takeOfBound_37 ?_
          refine g_icmp_ge (tgt := 55) X dX3_takeOfBound_38 (by decide) ⟨by omega, by omega⟩ (by decide) (fun q38 => ?_) (fun q38 => ?_)
          · refine g_iload_n X dX3_takeOfBound_55 rfl rfl ?_
            refine g_aload_n X dX3_takeOfBound_56 rfl rfl ?_
            refine g_callVI X (c_X3_boundAhead lL tT dD al _  ⟨by omega, by omega⟩) kd_8 fc3 lk_RX3_40 rfl rfl ⟨by decide, by decide⟩ rfl (Nat.le_of_ble_eq_true rfl) dX3_takeOfBound_57 (fun r57 M57 hc57 => ?_)
            obtain ⟨hr57, hm57⟩ := hc57
            subst r57
            subst M57
            refine g_icmp_le (tgt := 67) X dX3_takeOfBound_60 (by decide) ⟨by omega, by omega⟩ ⟨by omega, by omega⟩ (fun q60 => ?_) (fun q60 => ?_)
            · refine g_iconst X dX3_takeOfBound_67 ?_
              rw [hQ]
              refine g_zret X hr hlk (by decide) dX3_takeOfBound_68 ?_
              have n : (¬ (M 8 3 = 3 ∨ (M 8 3 = 0 ∧ d = 0))) := by omega
              obtain rfl : i = 3 := by omega
              rw [xwR_3] at hxr
              rw [gb] at q60
              first | exact ⟨b2i_1 ⟨n, by rw [← hxr]; omega⟩, fun _ => rfl, fun f => absurd n f⟩ | exact ⟨b2i_0 (fun f => by have f2 := f.2; rw [← hxr] at f2; omega), fun _ => rfl, fun f => absurd n f⟩
            · refine g_iconst X dX3_takeOfBound_63 ?_
              refine g_goto (tgt := 68) X dX3_takeOfBound_64 (by decide) ?_
              rw [hQ]
              refine g_zret X hr hlk (by decide) dX3_takeOfBound_68 ?_
              have n : (¬ (M 8 3 = 3 ∨ (M 8 3 = 0 ∧ d = 0))) := by omega
              obtain rfl : i = 3 := by omega
              rw [xwR_3] at hxr
              rw [gb] at q60
              first | exact ⟨b2i_1 ⟨n, by rw [← hxr]; omega⟩, fun _ => rfl, fun f => absurd n f⟩ | exact ⟨b2i_0 (fun f => by have f2 := f.2; rw [← hxr] at f2; omega), fun _ => rfl, fun f => absurd n f⟩
          · refine g_iload_n X dX3_takeOfBound_41 rfl rfl ?_
            refine g_bipush X dX3_takeOfBound_42 (by decide +kernel) ?_
            refine g_imul X dX3_takeOfBound_44 ?_
            refine g_bipush X dX3_takeOfBound_45 (by decide +kernel) ?_
            refine g_iadd X dX3_takeOfBound_47 ?_
            refine g_istore_n_2 X dX3_takeOfBound_48 rfl trivial (fun v2_48 ev2_48 => ?_)
            subst v2_48
            refine g_iinc_3 X dX3_takeOfBound_49 rfl (fun v3_49 ev3_49 => ?_)
            subst v3_49
            refine g_goto (tgt := 36) X dX3_takeOfBound_52 (by decide) ?_
            exact g_sub (ih_36 _ _ (by omega) (by omega) (by rw [xwR_s hi (by omega)]; exact hxr) (by omega) (by omega)) ⟨rfl, rfl, rfl, trivial⟩
      exact g_sub (L_36 _ _ _ (by omega) (by omega) (by rw [g2, g3]) (by omega) (Nat.lt_succ_self _)) ⟨rfl, rfl, rfl, trivial⟩
    · refine g_iload_n X dX3_takeOfBound_15 rfl rfl ?_
      refine g_if_ne (tgt := 21) X dX3_takeOfBound_16 (by decide) ⟨by omega, by omega⟩ (fun q16 => ?_) (fun q16 => ?_)
      · refine g_aload_n X dX3_takeOfBound_21 rfl rfl ?_
        refine g_iload_n X dX3_takeOfBound_22 rfl rfl ?_
        refine g_callVV X (c_X3_grow lL tT dD al _ _ ) kd_8 fc3 lk_RX3_48 rfl rfl ⟨by decide, by decide⟩ rfl (Nat.le_of_ble_eq_true rfl) dX3_takeOfBound_23 (fun M23 hc23 => ?_)
        subst M23
        have gm : ∀ o k, xwG M d o k = if o = 8 ∧ k = 3 then M 8 3 + 1 else if o = 8 ∧ k = 2 then M 8 2 * 10 + d else M o k := fun o k => rfl
        have g2 : xwG M d 8 2 = M 8 2 * 10 + d := by simp [gm]
        have g3 : xwG M d 8 3 = M 8 3 + 1 := by simp [gm]
        have g1 : xwG M d 8 1 = M 8 1 := by simp [gm]
        have gb : xwB (xwG M d) = xwB M := by unfold xwB; rw [g1]; have z : xwG M d 9 = M 9 := (by funext j; simp [gm]); rw [z]
        refine g_aload_n X dX3_takeOfBound_26 rfl rfl ?_
        refine g_geti (kz := 2) X kd_8 fc3 (k := 2) (by decide) rfl wd_172 rfl dX3_takeOfBound_27 ?_
        refine g_istore_n_2 X dX3_takeOfBound_30 rfl rfl (fun v2_30 ev2_30 => ?_)
        subst v2_30
        refine g_aload_n X dX3_takeOfBound_31 rfl rfl ?_
        refine g_geti (kz := 3) X kd_8 fc3 (k := 3) (by decide) rfl wd_174 rfl dX3_takeOfBound_32 ?_
        refine g_istore_n_3 X dX3_takeOfBound_35 rfl rfl (fun v3_35 ev3_35 => ?_)
        subst v3_35
        have L_36 : ∀ (n : Nat) (g : Int) (i : Int), (1 ≤ i) → (i ≤ 3) → (xwR i g = xwR (M 8 3 + 1) (M 8 2 * 10 + d)) → (0 ≤ g ∧ g ≤ 999 ∧ (i = 1 → g ≤ 9) ∧ (i = 2 → g ≤ 99)) → (3 - i).toNat < n → Gd pP lL eE (rmN 1 21) sS mI aA bB mM cC 0 0 Q tT dD al (fA al) 36 [some (.ref (al 8)), none, some (.int (iN g)), some (.int (iN i))] [] (xwG M d) := by
          intro n
          induction n with
          | zero => intro g i hi hi2 hxr hg hm; exact absurd hm (Nat.not_lt_zero _)
          | succ n ih =>
            intro g i hi hi2 hxr hg hm
            have ih_36 := ih
            clear ih
            refine g_iload_n X dX3_takeOfBound_36 rfl rfl ?_
            refine g_iconst X dX3_takeOfBound_37 ?_
            refine g_icmp_ge (tgt := 55) X dX3_takeOfBound_38 (by decide) ⟨by omega, by omega⟩ (by decide) (fun q38 => ?_) (fun q38 => ?_)
            · refine g_iload_n X dX3_takeOfBound_55 rfl rfl ?_
              refine g_aload_n X dX3_takeOfBound_56 rfl rfl ?_
              refine g_callVI X (c_X3_boundAhead lL tT dD al _  ⟨by omega, by omega⟩) kd_8 fc3 lk_RX3_40 rfl rfl ⟨by decide, by decide⟩ rfl (Nat.le_of_ble_eq_true rfl) dX3_takeOfBound_57 (fun r57 M57 hc57 => ?_)
              obtain ⟨hr57, hm57⟩ := hc57
              subst r57
              subst M57
              refine g_icmp_le (tgt := 67) X dX3_takeOfBound_60 (by decide) ⟨by omega, by omega⟩ ⟨by omega, by omega⟩ (fun q60 => ?_) (fun q60 => ?_)
              · refine g_iconst X dX3_takeOfBound_67 ?_
                rw [hQ]
                refine g_zret X hr hlk (by decide) dX3_takeOfBound_68 ?_
                have n : (¬ (M 8 3 = 3 ∨ (M 8 3 = 0 ∧ d = 0))) := by omega
                obtain rfl : i = 3 := by omega
                rw [xwR_3] at hxr
                rw [gb] at q60
                first | exact ⟨b2i_1 ⟨n, by rw [← hxr]; omega⟩, fun _ => rfl, fun f => absurd n f⟩ | exact ⟨b2i_0 (fun f => by have f2 := f.2; rw [← hxr] at f2; omega), fun _ => rfl, fun f => absurd n f⟩
              · refine g_iconst X dX3_takeOfBound_63 ?_
                refine g_goto (tgt := 68) X dX3_takeOfBound_64 (by decide) ?_
                rw [hQ]
                refine g_zret X hr hlk (by decide) dX3_takeOfBound_68 ?_
                have n : (¬ (M 8 3 = 3 ∨ (M 8 3 = 0 ∧ d = 0))) := by omega
                obtain rfl : i = 3 := by omega
                rw [xwR_3] at hxr
                rw [gb] at q60
                first | exact ⟨b2i_1 ⟨n, by rw [← hxr]; omega⟩, fun _ => rfl, fun f => absurd n f⟩ | exact ⟨b2i_0 (fun f => by have f2 := f.2; rw [← hxr] at f2; omega), fun _ => rfl, fun f => absurd n f⟩
            · refine g_iload_n X dX3_takeOfBound_41 rfl rfl ?_
              refine g_bipush X dX3_takeOfBound_42 (by decide +kernel) ?_
              refine g_imul X dX3_takeOfBound_44 ?_
              refine g_bipush X dX3_takeOfBound_45 (by decide +kernel) ?_
              refine g_iadd X dX3_takeOfBound_47 ?_
              refine g_istore_n_2 X dX3_takeOfBound_48 rfl trivial (fun v2_48 ev2_48 => ?_)
              subst v2_48
              refine g_iinc_3 X dX3_takeOfBound_49 rfl (fun v3_49 ev3_49 => ?_)
              subst v3_49
              refine g_goto (tgt := 36) X dX3_takeOfBound_52 (by decide) ?_
              exact g_sub (ih_36 _ _ (by omega) (by omega) (by rw [xwR_s hi (by omega)]; exact hxr) (by omega) (by omega)) ⟨rfl, rfl, rfl, trivial⟩
        exact g_sub (L_36 _ _ _ (by omega) (by omega) (by rw [g2, g3]) (by omega) (Nat.lt_succ_self _)) ⟨rfl, rfl, rfl, trivial⟩
      · refine g_iconst X dX3_takeOfBound_19 ?_
        rw [hQ]
        refine g_zret X hr hlk (by decide) dX3_takeOfBound_20 ?_
        have n : ¬ (¬ (M 8 3 = 3 ∨ (M 8 3 = 0 ∧ d = 0))) := by omega
        exact ⟨b2i_0 (fun f => n f.1), fun f => absurd f n, fun _ => rfl⟩
set_option maxRecDepth 100000 in
set_option maxHeartbeats 4000000 in
theorem c_X3_endBound (lL : Launch) (tT : TT) (dD : va_G) (al : Int → Nat) (M : Mem)  (h1 : 0 ≤ M 8 1 ∧ M 8 1 ≤ 5) : CI lL yX3_endBound cX3_endBound 1 FieldType.boolean 0 0 tT dD al [.ref (al 8)] M (fun r M' => r = b2i (M 8 1 < 5) ∧ (M 8 1 < 5 → M' = xwE M)) := by
  refine CI.of (own := "RedSkies$LawReader") (ls0 := [some (.ref (al 8))]) (by decide +kernel) rfl (Nat.le_of_ble_eq_true rfl) rfl ?_
  intro pP eE sS mI aA bB mM cC X hr hlk
  obtain ⟨Q, hQ⟩ : ∃ Q : State → Prop, Q = MQ bB (QI tT dD al (fun r M' => r = b2i (M 8 1 < 5) ∧ (M 8 1 < 5 → M' = xwE M))) aA sS 0 0 (fA al) := ⟨_, rfl⟩
  rw [← hQ]
  refine g_aload_n X dX3_endBound_0 rfl rfl ?_
  refine g_geti (kz := 1) X kd_8 fc3 (k := 1) (by decide) rfl wd_170 rfl dX3_endBound_1 ?_
  refine g_iconst X dX3_endBound_4 ?_
  refine g_icmp_lt (tgt := 10) X dX3_endBound_5 (by decide) ⟨by omega, by omega⟩ (by decide) (fun q5 => ?_) (fun q5 => ?_)
  · refine g_aload_n X dX3_endBound_10 rfl rfl ?_
    refine g_getr (r := 9) X kd_8 fc3 (k := 0) (by decide) rfl wd_168 rfl (by decide) dX3_endBound_11 ?_
    refine g_aload_n X dX3_endBound_14 rfl rfl ?_
    refine g_geti (kz := 1) X kd_8 fc3 (k := 1) (by decide) rfl wd_170 rfl dX3_endBound_15 ?_
    refine g_aload_n X dX3_endBound_18 rfl rfl ?_
    refine g_geti (kz := 2) X kd_8 fc3 (k := 2) (by decide) rfl wd_172 rfl dX3_endBound_19 ?_
    refine g_iast X kd_9 (by omega) (by omega) dX3_endBound_22 ?_
    refine g_aload_n X dX3_endBound_23 rfl rfl ?_
    refine g_dup X dX3_endBound_24 rfl ?_
    refine g_geti (kz := 1) X kd_8 fc3 (k := 1) (by decide) rfl wd_170 rfl dX3_endBound_25 ?_
    refine g_teq (b := (M 8 1)) (by first | (simp [mu]; done) | (simp only [mu]; repeat (first | rw [if_pos (⟨rfl, rfl⟩)] | rw [if_neg (by omega)]))) ?_
    refine g_iconst X dX3_endBound_28 ?_
    refine g_iadd X dX3_endBound_29 ?_
    refine g_puti (kz := 1) X kd_8 fc3 (k := 1) (by decide) rfl wd_170 rfl rfl rfl dX3_endBound_30 ?_
    refine g_aload_n X dX3_endBound_33 rfl rfl ?_
    refine g_iconst X dX3_endBound_34 ?_
    refine g_puti (kz := 2) X kd_8 fc3 (k := 2) (by decide) rfl wd_172 rfl rfl rfl dX3_endBound_35 ?_
    refine g_aload_n X dX3_endBound_38 rfl rfl ?_
    refine g_iconst X dX3_endBound_39 ?_
    refine g_puti (kz := 3) X kd_8 fc3 (k := 3) (by decide) rfl wd_174 rfl rfl rfl dX3_endBound_40 ?_
    refine g_iconst X dX3_endBound_43 ?_
    rw [hQ]
    refine g_zret X hr hlk (by decide) dX3_endBound_44 ?_
    exact ⟨b2i_1 (by omega), fun _ => rfl⟩
  · refine g_iconst X dX3_endBound_8 ?_
    rw [hQ]
    refine g_zret X hr hlk (by decide) dX3_endBound_9 ?_
    exact ⟨b2i_0 (by omega), fun f => absurd f (by omega)⟩
set_option maxRecDepth 100000 in
set_option maxHeartbeats 4000000 in
theorem c_X3_take (lL : Launch) (tT : TT) (dD : va_G) (al : Int → Nat) (M : Mem) (c : Int) (P : Mem) (hS : SW M P) (hG : GW P) (hc : 1 ≤ c ∧ c ≤ 126) : CI lL yX3_take cX3_take 3 FieldType.boolean 2 44 tT dD al [.ref (al 8), .int (iN c)] M (fun r M' => r = b2i (lwOk P c) ∧ XR M M' ∧ (lwOk P c → SW M' (lwM P c))) := by
  refine CI.of (own := "RedSkies$LawReader") (ls0 := [some (.ref (al 8)), some (.int (iN c)), none]) (by decide +kernel) rfl (Nat.le_of_ble_eq_true rfl) rfl ?_
  intro pP eE sS mI aA bB mM cC X hr hlk
  obtain ⟨Q, hQ⟩ : ∃ Q : State → Prop, Q = MQ bB (QI tT dD al (fun r M' => r = b2i (lwOk P c) ∧ XR M M' ∧ (lwOk P c → SW M' (lwM P c)))) aA sS 0 0 (fA al) := ⟨_, rfl⟩
  rw [← hQ]
  obtain ⟨h1, h2, h3, h4, h5, h6⟩ := id hS
  have hbb := lwB_rng hG
  rw [← xwB_e hS] at hbb
  have hdr := dgS_rng c
  have hdd : dgS c = (if 48 ≤ c ∧ c ≤ 57 then c - 48 else -1) := rfl
  have e41 : mu M 8 4 1 8 1 = M 8 1 := by simp [mu]
  refine g_iload_n X dX3_take_0 rfl rfl ?_
  refine g_callTI X (c_X7_digitOf lL tT dD al _ _ ⟨by omega, by omega⟩) lk_RX3_29 rfl rfl ⟨by decide, by decide⟩ rfl (Nat.le_of_ble_eq_true rfl) dX3_take_1 (fun r1 M1 hc1 => ?_)
  obtain ⟨hr1, hm1⟩ := hc1
  subst r1
  subst M1
  refine g_istore_n_2 X dX3_take_4 rfl rfl (fun v2_4 ev2_4 => ?_)
  subst v2_4
  refine g_iload_n X dX3_take_5 rfl rfl ?_
  refine g_iconst X dX3_take_6 ?_
  refine g_icmp_eq (tgt := 31) X dX3_take_7 (by decide) ⟨by omega, by omega⟩ (by decide) (fun q7 => ?_) (fun q7 => ?_)
  · have hdc : ¬ (48 ≤ c ∧ c ≤ 57) := fun z => by rw [if_pos z] at q7; omega
    refine g_aload_n X dX3_take_31 rfl rfl ?_
    refine g_getz (kz := 4) X kd_8 fc3 (k := 4) (by decide) rfl wd_175 rfl dX3_take_32 ?_
    refine g_if_ne (tgt := 56) X dX3_take_35 (by decide) ⟨by omega, by omega⟩ (fun q35 => ?_) (fun q35 => ?_)
    · refine g_iconst X dX3_take_56 ?_
      rw [hQ]
      refine g_zret X hr hlk (by decide) dX3_take_57 ?_
      refine tk_no (fun f => ?_) (XR.rf M)
      rcases h1 with q | q
      · have f2 := (sw_B hS hG q hdc).1.mp f; omega
      · have f2 := (sw_C hS hG q).1.mp f; omega
    · refine g_aload_n X dX3_take_38 rfl rfl ?_
      refine g_geti (kz := 3) X kd_8 fc3 (k := 3) (by decide) rfl wd_174 rfl dX3_take_39 ?_
      refine g_if_eq (tgt := 56) X dX3_take_42 (by decide) ⟨by omega, by omega⟩ (fun q42 => ?_) (fun q42 => ?_)
      · refine g_iconst X dX3_take_56 ?_
        rw [hQ]
        refine g_zret X hr hlk (by decide) dX3_take_57 ?_
        refine tk_no (fun f => ?_) (XR.rf M)
        rcases h1 with q | q
        · have f2 := (sw_B hS hG q hdc).1.mp f; omega
        · have f2 := (sw_C hS hG q).1.mp f; omega
      · refine g_aload_n X dX3_take_45 rfl rfl ?_
        refine g_geti (kz := 2) X kd_8 fc3 (k := 2) (by decide) rfl wd_172 rfl dX3_take_46 ?_
        refine g_aload_n X dX3_take_49 rfl rfl ?_
        refine g_callVI X (c_X3_boundAhead lL tT dD al _  ⟨by omega, by omega⟩) kd_8 fc3 lk_RX3_40 rfl rfl ⟨by decide, by decide⟩ rfl (Nat.le_of_ble_eq_true rfl) dX3_take_50 (fun r50 M50 hc50 => ?_)
        obtain ⟨hr50, hm50⟩ := hc50
        subst r50
        subst M50
        refine g_icmp_gt (tgt := 58) X dX3_take_53 (by decide) ⟨by omega, by omega⟩ ⟨by omega, by omega⟩ (fun q53 => ?_) (fun q53 => ?_)
        · refine g_iload_n X dX3_take_58 rfl rfl ?_
          refine g_bipush X dX3_take_59 (by decide +kernel) ?_
          refine g_icmp_ne (tgt := 97) X dX3_take_61 (by decide) ⟨by omega, by omega⟩ (by decide) (fun q61 => ?_) (fun q61 => ?_)
          · refine g_aload_n X dX3_take_97 rfl rfl ?_
            refine g_iload_n X dX3_take_98 rfl rfl ?_
            refine g_bipush X dX3_take_99 (by decide +kernel) ?_
            refine g_icmp_ne (tgt := 108) X dX3_take_101 (by decide) ⟨by omega, by omega⟩ (by decide) (fun q101 => ?_) (fun q101 => ?_)
            · refine g_iconst X dX3_take_108 ?_
              refine g_putz (kz := 4) X kd_8 fc3 (k := 4) (by decide) rfl wd_175 rfl rfl rfl (by decide) dX3_take_109 ?_
              refine g_aload_n X dX3_take_112 rfl rfl ?_
              refine g_getz (kz := 4) X kd_8 fc3 (k := 4) (by decide) rfl wd_175 rfl dX3_take_113 ?_
              refine g_teq (b := 0) (by first | (simp [mu]; done) | (simp only [mu]; repeat (first | rw [if_pos (⟨rfl, rfl⟩)] | rw [if_neg (by omega)]))) ?_
              refine g_if_eq (tgt := 130) X dX3_take_116 (by decide) (by decide) (fun _ => ?_) (fun q => absurd q (by decide))
              refine g_iconst X dX3_take_130 ?_
              rw [hQ]
              refine g_zret X hr hlk (by decide) dX3_take_131 ?_
              have z := sw_B hS hG (by omega) hdc
              first | exact tk_no (fun f => by have f2 := z.1.mp f; omega) ((XR.rf M).pu _ (by omega)) | (have f3 := hc120 (by omega); exact tk_yes (z.1.mpr (by omega)) (by rw [f3]; exact ((XR.rf M).pu 1 (by omega)).tr (xw_E _)) (by rw [f3]; exact z.2.2 (by omega) (by omega))) | (exfalso; omega)
            · refine g_iconst X dX3_take_104 ?_
              refine g_goto (tgt := 109) X dX3_take_105 (by decide) ?_
              refine g_putz (kz := 4) X kd_8 fc3 (k := 4) (by decide) rfl wd_175 rfl rfl rfl (by decide) dX3_take_109 ?_
              refine g_aload_n X dX3_take_112 rfl rfl ?_
              refine g_getz (kz := 4) X kd_8 fc3 (k := 4) (by decide) rfl wd_175 rfl dX3_take_113 ?_
              refine g_teq (b := 1) (by first | (simp [mu]; done) | (simp only [mu]; repeat (first | rw [if_pos (⟨rfl, rfl⟩)] | rw [if_neg (by omega)]))) ?_
              refine g_if_eq (tgt := 130) X dX3_take_116 (by decide) (by decide) (fun q => absurd q (by decide)) (fun _ => ?_)
              refine g_aload_n X dX3_take_119 rfl rfl ?_
              refine g_callVI X (c_X3_endBound lL tT dD al _  (by rw [e41]; omega)) kd_8 fc3 lk_RX3_44 rfl rfl ⟨by decide, by decide⟩ rfl (Nat.le_of_ble_eq_true rfl) dX3_take_120 (fun r120 M120 hc120 => ?_)
              rw [show (mu M 8 4 1) 8 1 = (M 8 1) from by first | (simp [mu]; done) | (simp only [mu]; repeat (first | rw [if_pos (⟨rfl, rfl⟩)] | rw [if_neg (by omega)]))] at hc120
              obtain ⟨hr120, hc120⟩ := hc120
              subst r120
              refine g_if_eq (tgt := 130) X dX3_take_123 (by decide) (b2i_i32 _) (fun q123 => ?_) (fun q123 => ?_)
              · have q123 := b2i_f q123
                refine g_iconst X dX3_take_130 ?_
                rw [hQ]
                refine g_zret X hr hlk (by decide) dX3_take_131 ?_
                have z := sw_B hS hG (by omega) hdc
                first | exact tk_no (fun f => by have f2 := z.1.mp f; omega) ((XR.rf M).pu _ (by omega)) | (have f3 := hc120 (by omega); exact tk_yes (z.1.mpr (by omega)) (by rw [f3]; exact ((XR.rf M).pu 1 (by omega)).tr (xw_E _)) (by rw [f3]; exact z.2.2 (by omega) (by omega))) | (exfalso; omega)
              · have q123 := b2i_t q123
                refine g_iconst X dX3_take_126 ?_
                refine g_goto (tgt := 131) X dX3_take_127 (by decide) ?_
                rw [hQ]
                refine g_zret X hr hlk (by decide) dX3_take_131 ?_
                have z := sw_B hS hG (by omega) hdc
                first | exact tk_no (fun f => by have f2 := z.1.mp f; omega) ((XR.rf M).pu _ (by omega)) | (have f3 := hc120 (by omega); exact tk_yes (z.1.mpr (by omega)) (by rw [f3]; exact ((XR.rf M).pu 1 (by omega)).tr (xw_E _)) (by rw [f3]; exact z.2.2 (by omega) (by omega))) | (exfalso; omega)
          · refine g_aload_n X dX3_take_64 rfl rfl ?_
            refine g_geti (kz := 2) X kd_8 fc3 (k := 2) (by decide) rfl wd_172 rfl dX3_take_65 ?_
            refine g_sipush X dX3_take_68 (by decide +kernel) ?_
            refine g_icmp_ge (tgt := 95) X dX3_take_71 (by decide) ⟨by omega, by omega⟩ (by decide) (fun q71 => ?_) (fun q71 => ?_)
            · refine g_iconst X dX3_take_95 ?_
              rw [hQ]
              refine g_zret X hr hlk (by decide) dX3_take_96 ?_
              have z := sw_B hS hG (by omega) hdc
              first | exact tk_no (fun f => by have f2 := z.1.mp f; omega) (XR.rf M) | (have f3 := hc85 (by omega); exact tk_yes (z.1.mpr (by omega)) (by rw [f3]; exact xw_E M) (by rw [f3]; exact z.2.1 (by omega) (by omega) (by omega))) | (exfalso; omega)
            · refine g_aload_n X dX3_take_74 rfl rfl ?_
              refine g_geti (kz := 1) X kd_8 fc3 (k := 1) (by decide) rfl wd_170 rfl dX3_take_75 ?_
              refine g_iconst X dX3_take_78 ?_
              refine g_iadd X dX3_take_79 ?_
              refine g_iconst X dX3_take_80 ?_
              refine g_icmp_ge (tgt := 95) X dX3_take_81 (by decide) ⟨by omega, by omega⟩ (by decide) (fun q81 => ?_) (fun q81 => ?_)
              · refine g_iconst X dX3_take_95 ?_
                rw [hQ]
                refine g_zret X hr hlk (by decide) dX3_take_96 ?_
                have z := sw_B hS hG (by omega) hdc
                first | exact tk_no (fun f => by have f2 := z.1.mp f; omega) (XR.rf M) | (have f3 := hc85 (by omega); exact tk_yes (z.1.mpr (by omega)) (by rw [f3]; exact xw_E M) (by rw [f3]; exact z.2.1 (by omega) (by omega) (by omega))) | (exfalso; omega)
              · refine g_aload_n X dX3_take_84 rfl rfl ?_
                refine g_callVI X (c_X3_endBound lL tT dD al _  (by omega)) kd_8 fc3 lk_RX3_44 rfl rfl ⟨by decide, by decide⟩ rfl (Nat.le_of_ble_eq_true rfl) dX3_take_85 (fun r85 M85 hc85 => ?_)
                obtain ⟨hr85, hc85⟩ := hc85
                subst r85
                refine g_if_eq (tgt := 95) X dX3_take_88 (by decide) (b2i_i32 _) (fun q88 => ?_) (fun q88 => ?_)
                · have q88 := b2i_f q88
                  refine g_iconst X dX3_take_95 ?_
                  rw [hQ]
                  refine g_zret X hr hlk (by decide) dX3_take_96 ?_
                  have z := sw_B hS hG (by omega) hdc
                  first | exact tk_no (fun f => by have f2 := z.1.mp f; omega) (XR.rf M) | (have f3 := hc85 (by omega); exact tk_yes (z.1.mpr (by omega)) (by rw [f3]; exact xw_E M) (by rw [f3]; exact z.2.1 (by omega) (by omega) (by omega))) | (exfalso; omega)
                · have q88 := b2i_t q88
                  refine g_iconst X dX3_take_91 ?_
                  refine g_goto (tgt := 96) X dX3_take_92 (by decide) ?_
                  rw [hQ]
                  refine g_zret X hr hlk (by decide) dX3_take_96 ?_
                  have z := sw_B hS hG (by omega) hdc
                  first | exact tk_no (fun f => by have f2 := z.1.mp f; omega) (XR.rf M) | (have f3 := hc85 (by omega); exact tk_yes (z.1.mpr (by omega)) (by rw [f3]; exact xw_E M) (by rw [f3]; exact z.2.1 (by omega) (by omega) (by omega))) | (exfalso; omega)
        · refine g_iconst X dX3_take_56 ?_
          rw [hQ]
          refine g_zret X hr hlk (by decide) dX3_take_57 ?_
          refine tk_no (fun f => ?_) (XR.rf M)
          rcases h1 with q | q
          · have f2 := (sw_B hS hG q hdc).1.mp f; omega
          · have f2 := (sw_C hS hG q).1.mp f; omega
  · have hdc := dgS_i (c := c) q7
    have z3 := dgS_y hdc
    refine g_aload_n X dX3_take_10 rfl rfl ?_
    refine g_getz (kz := 4) X kd_8 fc3 (k := 4) (by decide) rfl wd_175 rfl dX3_take_11 ?_
    refine g_if_eq (tgt := 25) X dX3_take_14 (by decide) ⟨by omega, by omega⟩ (fun q14 => ?_) (fun q14 => ?_)
    · refine g_aload_n X dX3_take_25 rfl rfl ?_
      refine g_iload_n X dX3_take_26 rfl rfl ?_
      refine g_callVI X (c_X3_takeOfBound lL tT dD al _ _ (by omega) (sw_dig hS hG (by omega)) (by omega) (by omega) hbb) kd_8 fc3 lk_RX3_37 rfl rfl ⟨by decide, by decide⟩ rfl (Nat.le_of_ble_eq_true rfl) dX3_take_27 (fun r27 M27 hc27 => ?_)
      obtain ⟨hr27, hc27⟩ := hc27
      subst r27
      rw [hQ]
      refine g_zret X hr hlk (b2i_01 _) dX3_take_30 ?_
      first | (have z := sw_C (c := c) hS hG (by omega); rw [← z3] at z; have i : lwOk P c ↔ (¬ (M 8 3 = 2 ∨ (M 8 3 = 1 ∧ M 8 2 = 0))) := z.1.trans ⟨fun f => f.2, fun f => ⟨hdc, f⟩⟩; refine tk_q i ?_ (fun f => by rw [hc19.1 f]; exact z.2 ⟨hdc, f⟩); by_cases f : (¬ (M 8 3 = 2 ∨ (M 8 3 = 1 ∧ M 8 2 = 0))); (rw [hc19.1 f]; exact xw_G M _); (rw [hc19.2 f]; exact XR.rf M)) | (have z := sw_A (c := c) hS hG (by omega) hdc; rw [← z3] at z; refine tk_q z.1 ?_ (fun f => by rw [hc27.1 f.1]; exact z.2 f.1); by_cases f : (¬ (M 8 3 = 3 ∨ (M 8 3 = 0 ∧ dgS c = 0))); (rw [hc27.1 f]; exact xw_G M _); (rw [hc27.2 f]; exact XR.rf M))
    · refine g_aload_n X dX3_take_17 rfl rfl ?_
      refine g_iload_n X dX3_take_18 rfl rfl ?_
      refine g_callVI X (c_X3_takeOfGive lL tT dD al _ _ ⟨by omega, by omega⟩ ⟨by omega, by omega⟩) kd_8 fc3 lk_RX3_33 rfl rfl ⟨by decide, by decide⟩ rfl (Nat.le_of_ble_eq_true rfl) dX3_take_19 (fun r19 M19 hc19 => ?_)
      obtain ⟨hr19, hc19⟩ := hc19
      subst r19
      refine g_goto (tgt := 30) X dX3_take_22 (by decide) ?_
      rw [hQ]
      refine g_zret X hr hlk (b2i_01 _) dX3_take_30 ?_
      first | (have z := sw_C (c := c) hS hG (by omega); rw [← z3] at z; have i : lwOk P c ↔ (¬ (M 8 3 = 2 ∨ (M 8 3 = 1 ∧ M 8 2 = 0))) := z.1.trans ⟨fun f => f.2, fun f => ⟨hdc, f⟩⟩; refine tk_q i ?_ (fun f => by rw [hc19.1 f]; exact z.2 ⟨hdc, f⟩); by_cases f : (¬ (M 8 3 = 2 ∨ (M 8 3 = 1 ∧ M 8 2 = 0))); (rw [hc19.1 f]; exact xw_G M _); (rw [hc19.2 f]; exact XR.rf M)) | (have z := sw_A (c := c) hS hG (by omega) hdc; rw [← z3] at z; refine tk_q z.1 ?_ (fun f => by rw [hc27.1 f.1]; exact z.2 f.1); by_cases f : (¬ (M 8 3 = 3 ∨ (M 8 3 = 0 ∧ dgS c = 0))); (rw [hc27.1 f]; exact xw_G M _); (rw [hc27.2 f]; exact XR.rf M))
