set_option maxRecDepth 100000 in
set_option maxHeartbeats 4000000 in
theorem c_X5_codeIn (lL : Launch) (tT : TT) (dD : va_G) (al : Int → Nat) (M : Mem) (w k : Int) (h0 : 0 ≤ k) (h1 : k < 8) : CI lL yX5_codeIn cX5_codeIn 3 FieldType.int 0 0 tT dD al [.long (jN w), .int (iN k)] M (fun r M' => r = byt w k ∧ M' = M) := by
  refine CI.of (own := "RedSkies$Page") (ls0 := [some (.long (jN w)), none, some (.int (iN k))]) (by decide +kernel) rfl (Nat.le_of_ble_eq_true rfl) rfl ?_
  intro pP eE sS mI aA bB mM cC X hr hlk
  obtain ⟨Q, hQ⟩ : ∃ Q : State → Prop, Q = MQ bB (QI tT dD al (fun r M' => r = byt w k ∧ M' = M)) aA sS 0 0 (fA al) := ⟨_, rfl⟩
  rw [← hQ]
  refine g_lload_n X dX5_codeIn_0 rfl rfl ?_
  refine g_bipush X dX5_codeIn_1 (by decide +kernel) ?_
  refine g_iload_n X dX5_codeIn_3 rfl rfl ?_
  refine g_imul X dX5_codeIn_4 ?_
  refine g_lushr X dX5_codeIn_5 ?_
  refine g_l2i X dX5_codeIn_6 ?_
  refine g_sipush X dX5_codeIn_7 (by decide +kernel) ?_
  refine g_iand X dX5_codeIn_10 ?_
  rw [hQ]
  refine g_iret X hr hlk dX5_codeIn_11 ?_
  exact ⟨cod_e w h0 h1, rfl⟩
set_option maxRecDepth 100000 in
set_option maxHeartbeats 4000000 in
theorem c_X5_lettersIn (lL : Launch) (tT : TT) (dD : va_G) (al : Int → Nat) (M : Mem) (w : Int)  : CI lL yX5_lettersIn cX5_lettersIn 5 FieldType.int 1 22 tT dD al [.long (jN w)] M (fun r M' => r = (if b2i (lg w 8) = 1 then lm w 8 else -1) ∧ M' = M) := by
  refine CI.of (own := "RedSkies$Page") (ls0 := [some (.long (jN w)), none, none, none, none]) (by decide +kernel) rfl (Nat.le_of_ble_eq_true rfl) rfl ?_
  intro pP eE sS mI aA bB mM cC X hr hlk
  obtain ⟨Q, hQ⟩ : ∃ Q : State → Prop, Q = MQ bB (QI tT dD al (fun r M' => r = (if b2i (lg w 8) = 1 then lm w 8 else -1) ∧ M' = M)) aA sS 0 0 (fA al) := ⟨_, rfl⟩
  rw [← hQ]
  refine g_iconst X dX5_lettersIn_0 ?_
  refine g_istore_n_2 X dX5_lettersIn_1 rfl trivial (fun v2_1 ev2_1 => ?_)
  subst v2_1
  refine g_iconst X dX5_lettersIn_2 ?_
  refine g_istore_n_3 X dX5_lettersIn_3 rfl rfl (fun v3_3 ev3_3 => ?_)
  subst v3_3
  have L_4 : ∀ (n : Nat) (u : Int) (i : Int), (0 ≤ i) → (i ≤ 8) → (u = lm w i.toNat) → (lg w i.toNat) → (8 - i).toNat < n → Gd pP lL eE (rmN 1 22) sS mI aA bB mM cC 0 0 Q tT dD al (fA al) 4 [some (.long (jN w)), none, some (.int (iN u)), some (.int (iN i)), none] [] M := by
    intro n
    induction n with
    | zero => intro u i hi hi2 hu hg hm; exact absurd hm (Nat.not_lt_zero _)
    | succ n ih =>
      intro u i hi hi2 hu hg hm
      have w1 := lm_rng w i.toNat
      have ls := lm_s w hi
      have gs := lg_s w hi
      have hb := byt_rng w i
      have ih_4 := ih
      clear ih
      refine g_iload_n X dX5_lettersIn_4 rfl rfl ?_
      refine g_bipush X dX5_lettersIn_5 (by decide +kernel) ?_
      refine g_icmp_ge (tgt := 50) X dX5_lettersIn_7 (by decide) ⟨by omega, by omega⟩ (by decide) (fun q7 => ?_) (fun q7 => ?_)
      · refine g_iload_n X dX5_lettersIn_50 rfl rfl ?_
        rw [hQ]
        refine g_iret X hr hlk dX5_lettersIn_51 ?_
        obtain rfl : i = 8 := by omega
        exact ⟨by rw [← b2i_1 (show lg w 8 from hg), if_pos rfl]; exact hu, rfl⟩
      · refine g_lload_n X dX5_lettersIn_10 rfl rfl ?_
        refine g_iload_n X dX5_lettersIn_11 rfl rfl ?_
        refine g_callSI X (c_X5_codeIn lL tT dD al _ _ _ (by first | assumption | omega) (by first | assumption | omega)) lk_RX5_15 rfl rfl ⟨by decide, by decide⟩ rfl (Nat.le_of_ble_eq_true rfl) dX5_lettersIn_12 (fun r12 M12 hc12 => ?_)
        obtain ⟨hr12, hm12⟩ := hc12
        subst r12
        subst M12
        refine g_istore_4 X dX5_lettersIn_15 rfl (fun v4_15 ev4_15 => ?_)
        subst v4_15
        refine g_iload X dX5_lettersIn_17 rfl ?_
        refine g_bipush X dX5_lettersIn_19 (by decide +kernel) ?_
        refine g_icmp_gt (tgt := 34) X dX5_lettersIn_21 (by decide) ⟨by omega, by omega⟩ (by decide) (fun q21 => ?_) (fun q21 => ?_)
        · refine g_iconst X dX5_lettersIn_34 ?_
          rw [hQ]
          refine g_iret X hr hlk dX5_lettersIn_35 ?_
          have n : ¬ lg w 8 := fun z => by { have z2 := z i hi (by omega); omega }
          exact ⟨by rw [← b2i_0 n]; rfl, rfl⟩
        · refine g_iload X dX5_lettersIn_24 rfl ?_
          refine g_if_eq (tgt := 36) X dX5_lettersIn_26 (by decide) ⟨by omega, by omega⟩ (fun q26 => ?_) (fun q26 => ?_)
          · refine g_iload X dX5_lettersIn_36 rfl ?_
            refine g_if_eq (tgt := 44) X dX5_lettersIn_38 (by decide) ⟨by omega, by omega⟩ (fun q38 => ?_) (fun q38 => ?_)
            · refine g_iinc_3 X dX5_lettersIn_44 rfl (fun v3_44 ev3_44 => ?_)
              subst v3_44
              refine g_goto (tgt := 4) X dX5_lettersIn_47 (by decide) ?_
              exact g_sub (ih_4 _ _ (by omega) (by omega) (by clear X hr hlk hQ ih_4; rw [ls]; grind) (by rw [gs]; exact ⟨hg, by omega, by omega⟩) (by omega)) ⟨rfl, rfl, rfl, trivial⟩
            · refine g_iinc_2 X dX5_lettersIn_41 trivial (fun v2_41 ev2_41 => ?_)
              subst v2_41
              refine g_iinc_3 X dX5_lettersIn_44 rfl (fun v3_44 ev3_44 => ?_)
              subst v3_44
              refine g_goto (tgt := 4) X dX5_lettersIn_47 (by decide) ?_
              exact g_sub (ih_4 _ _ (by omega) (by omega) (by clear X hr hlk hQ ih_4; rw [ls]; grind) (by rw [gs]; exact ⟨hg, by omega, by omega⟩) (by omega)) ⟨rfl, rfl, rfl, trivial⟩
          · refine g_iload_n X dX5_lettersIn_29 rfl rfl ?_
            refine g_iload_n X dX5_lettersIn_30 rfl rfl ?_
            refine g_icmp_ge (tgt := 36) X dX5_lettersIn_31 (by decide) ⟨by omega, by omega⟩ ⟨by omega, by omega⟩ (fun q31 => ?_) (fun q31 => ?_)
            · refine g_iload X dX5_lettersIn_36 rfl ?_
              refine g_if_eq (tgt := 44) X dX5_lettersIn_38 (by decide) ⟨by omega, by omega⟩ (fun q38 => ?_) (fun q38 => ?_)
              · refine g_iinc_3 X dX5_lettersIn_44 rfl (fun v3_44 ev3_44 => ?_)
                subst v3_44
                refine g_goto (tgt := 4) X dX5_lettersIn_47 (by decide) ?_
                exact g_sub (ih_4 _ _ (by omega) (by omega) (by clear X hr hlk hQ ih_4; rw [ls]; grind) (by rw [gs]; exact ⟨hg, by omega, by omega⟩) (by omega)) ⟨rfl, rfl, rfl, trivial⟩
              · refine g_iinc_2 X dX5_lettersIn_41 trivial (fun v2_41 ev2_41 => ?_)
                subst v2_41
                refine g_iinc_3 X dX5_lettersIn_44 rfl (fun v3_44 ev3_44 => ?_)
                subst v3_44
                refine g_goto (tgt := 4) X dX5_lettersIn_47 (by decide) ?_
                exact g_sub (ih_4 _ _ (by omega) (by omega) (by clear X hr hlk hQ ih_4; rw [ls]; grind) (by rw [gs]; exact ⟨hg, by omega, by omega⟩) (by omega)) ⟨rfl, rfl, rfl, trivial⟩
            · refine g_iconst X dX5_lettersIn_34 ?_
              rw [hQ]
              refine g_iret X hr hlk dX5_lettersIn_35 ?_
              have n : ¬ lg w 8 := fun z => by { have z2 := z i hi (by omega); omega }
              exact ⟨by rw [← b2i_0 n]; rfl, rfl⟩
  exact g_sub (L_4 _ _ _ (by omega) (by omega) (rfl) (lg_0 w) (Nat.lt_succ_self _)) ⟨rfl, rfl, rfl, trivial⟩
set_option maxRecDepth 100000 in
set_option maxHeartbeats 4000000 in
theorem c_X5_append (lL : Launch) (tT : TT) (dD : va_G) (al : Int → Nat) (M : Mem) (w u : Int) (h0 : 0 ≤ M 1 1) (hu : 0 ≤ u ∧ u ≤ 8) (h1 : M 1 1 + u ≤ 40) : CV lL yX5_append cX5_append 5 1 22 tT dD al [.ref (al 1), .long (jN w), .int (iN u)] M (fun M' => M' = letX M w u) := by
  refine CV.of (own := "RedSkies$Page") (ls0 := [some (.ref (al 1)), some (.long (jN w)), none, some (.int (iN u)), none]) (by decide +kernel) rfl (Nat.le_of_ble_eq_true rfl) rfl ?_
  intro pP eE sS mI aA bB mM cC X hr hlk
  obtain ⟨Q, hQ⟩ : ∃ Q : State → Prop, Q = MQ bB (QV tT dD al (fun M' => M' = letX M w u)) aA sS 0 0 (fA al) := ⟨_, rfl⟩
  rw [← hQ]
  refine g_iconst X dX5_append_0 ?_
  refine g_istore_4 X dX5_append_1 rfl (fun v4_1 ev4_1 => ?_)
  subst v4_1
  have L_3 : ∀ (n : Nat) (i : Int) (M1 : Mem), (0 ≤ i) → (i ≤ u) → (M1 = letX M w i) → (8 - i).toNat < n → Gd pP lL eE (rmN 1 22) sS mI aA bB mM cC 0 0 Q tT dD al (fA al) 3 [some (.ref (al 1)), some (.long (jN w)), none, some (.int (iN u)), some (.int (iN i))] [] M1 := by
    intro n
    induction n with
    | zero => intro i M1 hi hi2 hM hm; exact absurd hm (Nat.not_lt_zero _)
    | succ n ih =>
      intro i M1 hi hi2 hM hm
      have e1 : M1 1 1 = M 1 1 + i := by rw [hM]; simp [letX]
      have ih_3 := ih
      clear ih
      refine g_iload X dX5_append_3 rfl ?_
      refine g_iload_n X dX5_append_5 rfl rfl ?_
      refine g_icmp_ge (tgt := 49) X dX5_append_6 (by decide) ⟨by omega, by omega⟩ ⟨by omega, by omega⟩ (fun q6 => ?_) (fun q6 => ?_)
      · rw [hQ]
        refine g_vret X hr hlk dX5_append_49 ?_
        obtain rfl : i = u := by omega
        exact hM
      · refine g_aload_n X dX5_append_9 rfl rfl ?_
        refine g_geti (kz := 1) X kd_1 fc5 (k := 1) (by decide) rfl wd_99 rfl dX5_append_10 ?_
        refine g_bipush X dX5_append_13 (by decide +kernel) ?_
        refine g_icmp_ge (tgt := 49) X dX5_append_15 (by decide) ⟨by omega, by omega⟩ (by decide) (fun q15 => ?_) (fun q15 => ?_)
        · rw [hQ]
          refine g_vret X hr hlk dX5_append_49 ?_
          obtain rfl : i = u := by omega
          exact hM
        · refine g_aload_n X dX5_append_18 rfl rfl ?_
          refine g_getr (r := 2) X kd_1 fc5 (k := 0) (by decide) rfl wd_96 rfl (by decide) dX5_append_19 ?_
          refine g_aload_n X dX5_append_22 rfl rfl ?_
          refine g_geti (kz := 1) X kd_1 fc5 (k := 1) (by decide) rfl wd_99 rfl dX5_append_23 ?_
          refine g_lload_n X dX5_append_26 rfl rfl ?_
          refine g_iload X dX5_append_27 rfl ?_
          refine g_callSI X (c_X5_codeIn lL tT dD al _ _ _ (by first | assumption | omega) (by first | assumption | omega)) lk_RX5_15 rfl rfl ⟨by decide, by decide⟩ rfl (Nat.le_of_ble_eq_true rfl) dX5_append_29 (fun r29 M29 hc29 => ?_)
          obtain ⟨hr29, hm29⟩ := hc29
          subst r29
          subst M29
          refine g_iast X kd_2 (by omega) (by omega) dX5_append_32 ?_
          refine g_aload_n X dX5_append_33 rfl rfl ?_
          refine g_dup X dX5_append_34 rfl ?_
          refine g_geti (kz := 1) X kd_1 fc5 (k := 1) (by decide) rfl wd_99 rfl dX5_append_35 ?_
          refine g_teq (b := (M1 1 1)) (by first | (simp [mu]; done) | (simp only [mu]; repeat (first | rw [if_pos (⟨rfl, rfl⟩)] | rw [if_neg (by omega)]))) ?_
          refine g_iconst X dX5_append_38 ?_
          refine g_iadd X dX5_append_39 ?_
          refine g_puti (kz := 1) X kd_1 fc5 (k := 1) (by decide) rfl wd_99 rfl rfl rfl dX5_append_40 ?_
          refine g_iinc_4 X dX5_append_43 rfl (fun v4_43 ev4_43 => ?_)
          subst v4_43
          refine g_goto (tgt := 3) X dX5_append_46 (by decide) ?_
          exact g_sub (ih_3 _ _ (by omega) (by omega) (letX_s hi hM) (by omega)) ⟨rfl, rfl, rfl, rfl, trivial⟩
  exact g_sub (L_3 _ _ _ (by omega) (by omega) (by clear X hr hlk hQ L_3; funext o j; simp only [letX]; grind) (Nat.lt_succ_self _)) ⟨rfl, rfl, rfl, rfl, trivial⟩
set_option maxRecDepth 100000 in
set_option maxHeartbeats 4000000 in
theorem c_X5_standing0 (lL : Launch) (tT : TT) (dD : va_G) (al : Int → Nat) (M : Mem)  (hP : WPage M) (hG : IG M) (hB : B118 M) : CI lL yX5_standing cX5_standing 3 FieldType.int 4 85 tT dD al [.ref (al 1), .ref (al 3)] M (fun r M' => FX 0 M r M') := by
  refine CI.of (own := "RedSkies$Page") (ls0 := [some (.ref (al 1)), some (.ref (al 3)), none]) (by decide +kernel) rfl (Nat.le_of_ble_eq_true rfl) rfl ?_
  intro pP eE sS mI aA bB mM cC X hr hlk
  obtain ⟨Q, hQ⟩ : ∃ Q : State → Prop, Q = MQ bB (QI tT dD al (fun r M' => FX 0 M r M')) aA sS 0 0 (fA al) := ⟨_, rfl⟩
  rw [← hQ]
  have hp0 := hP.1
  have hg0 := hG.1
  refine g_aload_n X dX5_standing_0 rfl rfl ?_
  refine g_callUV X (c_X1_begin lL tT dD al _  ) kd_3 fc1 lk_RX5_23_RX1 rfl rfl ⟨by decide, by decide⟩ rfl (Nat.le_of_ble_eq_true rfl) dX5_standing_1 (fun M1 hc1 => ?_)
  refine g_iconst X dX5_standing_4 ?_
  refine g_istore_n_2 X dX5_standing_5 rfl rfl (fun v2_5 ev2_5 => ?_)
  subst v2_5
  have L_6 : ∀ (n : Nat) (i : Int) (M1 : Mem), (0 ≤ i) → (i ≤ M 114 1) → (XR M M1) → (SL M1 (rdM 0 (rd0 M) i.toNat)) → (rdI 0 (rdM 0 (rd0 M) i.toNat)) → (∀ j, 0 ≤ j → j < i → stpOk 0 (rdM 0 (rd0 M) j.toNat) (M 115 j)) → (40 - i).toNat < n → Gd pP lL eE (rmN 4 85) sS mI aA bB mM cC 0 0 Q tT dD al (fA al) 6 [some (.ref (al 1)), some (.ref (al 3)), some (.int (iN i))] [] M1 := by
    intro n
    induction n with
    | zero => intro i M1 hi hi2 hX hS hI hok hm; exact absurd hm (Nat.not_lt_zero _)
    | succ n ih =>
      intro i M1 hi hi2 hX hS hI hok hm
      have e1 : M1 1 1 = M 114 1 := by rw [hX.row (by omega), hg0]
      have ih_6 := ih
      clear ih
      refine g_iload_n X dX5_standing_6 rfl rfl ?_
      refine g_aload_n X dX5_standing_7 rfl rfl ?_
      refine g_geti (kz := 1) X kd_1 fc5 (k := 1) (by decide) rfl wd_99 rfl dX5_standing_8 ?_
      refine g_icmp_ge (tgt := 35) X dX5_standing_11 (by decide) ⟨by omega, by omega⟩ ⟨by omega, by omega⟩ (fun q11 => ?_) (fun q11 => ?_)
      · refine g_aload_n X dX5_standing_35 rfl rfl ?_
        refine g_geti (kz := 1) X kd_1 fc5 (k := 1) (by decide) rfl wd_99 rfl dX5_standing_36 ?_
        rw [hQ]
        refine g_iret X hr hlk dX5_standing_39 ?_
        obtain rfl : i = M 114 1 := by omega
        rw [e1]
        exact FX.yes ⟨by omega, rfl⟩ hok hS.k hX
      · refine g_aload_n X dX5_standing_14 rfl rfl ?_
        refine g_aload_n X dX5_standing_15 rfl rfl ?_
        refine g_getr (r := 2) X kd_1 fc5 (k := 0) (by decide) rfl wd_96 rfl (by decide) dX5_standing_16 ?_
        refine g_iload_n X dX5_standing_19 rfl rfl ?_
        refine g_iald X kd_2 (by omega) (by omega) dX5_standing_20 ?_
        have hch := hP.2 i hi (by omega)
        refine g_teq (b := M 115 i) (by rw [hX.row (by omega)]; exact hG.2 i hi (by omega)) ?_
        refine g_callUI X (c_X1_take lL tT dD al _ _ _ hS (hI.1 rfl) hch) kd_3 fc1 lk_RX5_28_RX1 rfl rfl ⟨by decide, by decide⟩ rfl (Nat.le_of_ble_eq_true rfl) dX5_standing_21 (fun r21 M21 hc21 => ?_)
        obtain ⟨hr21, hc21⟩ := hc21
        subst r21
        refine g_if_ne (tgt := 29) X dX5_standing_24 (by decide) (b2i_i32 _) (fun q24 => ?_) (fun q24 => ?_)
        · have q24 := b2i_t q24
          refine g_iinc_2 X dX5_standing_29 rfl (fun v2_29 ev2_29 => ?_)
          subst v2_29
          refine g_goto (tgt := 6) X dX5_standing_32 (by decide) ?_
          exact g_sub (ih_6 _ _ (by omega) (by omega) (hX.tr hc21.1) (by rw [rd_next hi, stpM_0]; exact hc21.2 q24) (by rw [rd_next hi]; exact stp_I (by decide) hI ((stpOk_0 _ _).mpr q24)) (ok_up hok ((stpOk_0 _ _).mpr q24)) (by omega)) ⟨rfl, rfl, rfl, trivial⟩
        · have q24 := b2i_f q24
          refine g_iload_n X dX5_standing_27 rfl rfl ?_
          rw [hQ]
          refine g_iret X hr hlk dX5_standing_28 ?_
          exact FX.no ⟨hi, by omega⟩ hok (fun z => q24 ((stpOk_0 _ _).mp z)) (hX.tr hc21.1)
  exact g_sub (L_6 _ _ _ (by omega) (by omega) (by rw [hc1]; exact xl_beg M) (by rw [hc1]; exact sl_beg M M) (by exact rd0_I 0 hB) (fun j a b => by omega) (Nat.lt_succ_self _)) ⟨rfl, rfl, rfl, trivial⟩
set_option maxRecDepth 100000 in
set_option maxHeartbeats 4000000 in
theorem c_X5_isWhole0 (lL : Launch) (tT : TT) (dD : va_G) (al : Int → Nat) (M : Mem)  (hP : WPage M) (hG : IG M) (hB : B118 M) : CI lL yX5_isWhole cX5_isWhole 2 FieldType.boolean 5 107 tT dD al [.ref (al 1), .ref (al 3)] M (fun r M' => ∃ f, FX 0 M f M' ∧ (r = 0 ∨ r = 1) ∧ (r = 1 ↔ f = M 114 1 ∧ (M' 3 2 = 3))) := by
  refine CI.of (own := "RedSkies$Page") (ls0 := [some (.ref (al 1)), some (.ref (al 3))]) (by decide +kernel) rfl (Nat.le_of_ble_eq_true rfl) rfl ?_
  intro pP eE sS mI aA bB mM cC X hr hlk
  obtain ⟨Q, hQ⟩ : ∃ Q : State → Prop, Q = MQ bB (QI tT dD al (fun r M' => ∃ f, FX 0 M f M' ∧ (r = 0 ∨ r = 1) ∧ (r = 1 ↔ f = M 114 1 ∧ (M' 3 2 = 3)))) aA sS 0 0 (fA al) := ⟨_, rfl⟩
  rw [← hQ]
  have hp0 := hP.1
  have hg0 := hG.1
  refine g_aload_n X dX5_isWhole_0 rfl rfl ?_
  refine g_aload_n X dX5_isWhole_1 rfl rfl ?_
  refine g_callVI X (c_X5_standing0 lL tT dD al _  (by first | assumption | omega) (by first | assumption | omega) (by first | assumption | omega)) kd_1 fc5 lk_RX5_32 rfl rfl ⟨by decide, by decide⟩ rfl (Nat.le_of_ble_eq_true rfl) dX5_isWhole_2 (fun r2 M2 hc2 => ?_)
  have hfr := hc2.1
  have e1 : M2 1 1 = M 114 1 := by rw [hc2.2.2.2.row (by omega), hg0]
  refine g_aload_n X dX5_isWhole_5 rfl rfl ?_
  refine g_geti (kz := 1) X kd_1 fc5 (k := 1) (by decide) rfl wd_99 rfl dX5_isWhole_6 ?_
  refine g_icmp_ne (tgt := 23) X dX5_isWhole_9 (by decide) ⟨by omega, by omega⟩ ⟨by omega, by omega⟩ (fun q9 => ?_) (fun q9 => ?_)
  · refine g_iconst X dX5_isWhole_23 ?_
    rw [hQ]
    refine g_zret X hr hlk (by decide) dX5_isWhole_24 ?_
    first | exact ⟨r2, hc2, Or.inr rfl, ⟨fun _ => ⟨by omega, q16⟩, fun _ => rfl⟩⟩ | exact ⟨r2, hc2, Or.inl rfl, ⟨fun z => absurd z (by decide), fun z => absurd z.2 q16⟩⟩ | exact ⟨r2, hc2, Or.inl rfl, ⟨fun z => absurd z (by decide), fun z => absurd z.1 (by omega)⟩⟩
  · have hs : SL M2 (rdM 0 (rd0 M) r2.toNat) := by rcases hc2.2.2.1 with q | q; (first | exact q.2.1 rfl | exact q.2.2.1 rfl | exact q.2.2.2 rfl); omega
    refine g_aload_n X dX5_isWhole_12 rfl rfl ?_
    refine g_callUI X (c_X1_isDone lL tT dD al _  (sl_dead hs)) kd_3 fc1 lk_RX5_36_RX1 rfl rfl ⟨by decide, by decide⟩ rfl (Nat.le_of_ble_eq_true rfl) dX5_isWhole_13 (fun r13 M13 hc13 => ?_)
    obtain ⟨hr13, hm13⟩ := hc13
    subst r13
    subst M13
    refine g_if_eq (tgt := 23) X dX5_isWhole_16 (by decide) (b2i_i32 _) (fun q16 => ?_) (fun q16 => ?_)
    · have q16 := b2i_f q16
      refine g_iconst X dX5_isWhole_23 ?_
      rw [hQ]
      refine g_zret X hr hlk (by decide) dX5_isWhole_24 ?_
      first | exact ⟨r2, hc2, Or.inr rfl, ⟨fun _ => ⟨by omega, q16⟩, fun _ => rfl⟩⟩ | exact ⟨r2, hc2, Or.inl rfl, ⟨fun z => absurd z (by decide), fun z => absurd z.2 q16⟩⟩ | exact ⟨r2, hc2, Or.inl rfl, ⟨fun z => absurd z (by decide), fun z => absurd z.1 (by omega)⟩⟩
    · have q16 := b2i_t q16
      refine g_iconst X dX5_isWhole_19 ?_
      refine g_goto (tgt := 24) X dX5_isWhole_20 (by decide) ?_
      rw [hQ]
      refine g_zret X hr hlk (by decide) dX5_isWhole_24 ?_
      first | exact ⟨r2, hc2, Or.inr rfl, ⟨fun _ => ⟨by omega, q16⟩, fun _ => rfl⟩⟩ | exact ⟨r2, hc2, Or.inl rfl, ⟨fun z => absurd z (by decide), fun z => absurd z.2 q16⟩⟩ | exact ⟨r2, hc2, Or.inl rfl, ⟨fun z => absurd z (by decide), fun z => absurd z.1 (by omega)⟩⟩
set_option maxRecDepth 100000 in
set_option maxHeartbeats 4000000 in
theorem c_X5_standing1 (lL : Launch) (tT : TT) (dD : va_G) (al : Int → Nat) (M : Mem)  (hP : WPage M) (hG : IG M) (hB : B118 M) : CI lL yX5_standing cX5_standing 3 FieldType.int 3 64 tT dD al [.ref (al 1), .ref (al 6)] M (fun r M' => FX 1 M r M') := by
  refine CI.of (own := "RedSkies$Page") (ls0 := [some (.ref (al 1)), some (.ref (al 6)), none]) (by decide +kernel) rfl (Nat.le_of_ble_eq_true rfl) rfl ?_
  intro pP eE sS mI aA bB mM cC X hr hlk
  obtain ⟨Q, hQ⟩ : ∃ Q : State → Prop, Q = MQ bB (QI tT dD al (fun r M' => FX 1 M r M')) aA sS 0 0 (fA al) := ⟨_, rfl⟩
  rw [← hQ]
  have hp0 := hP.1
  have hg0 := hG.1
  refine g_aload_n X dX5_standing_0 rfl rfl ?_
  refine g_callUV X (c_X4_begin lL tT dD al _  ) kd_6 fc4 lk_RX5_23_RX4 rfl rfl ⟨by decide, by decide⟩ rfl (Nat.le_of_ble_eq_true rfl) dX5_standing_1 (fun M1 hc1 => ?_)
  refine g_iconst X dX5_standing_4 ?_
  refine g_istore_n_2 X dX5_standing_5 rfl rfl (fun v2_5 ev2_5 => ?_)
  subst v2_5
  have L_6 : ∀ (n : Nat) (i : Int) (M1 : Mem), (0 ≤ i) → (i ≤ M 114 1) → (XR M M1) → (SE M1 (rdM 1 (rd0 M) i.toNat)) → (rdI 1 (rdM 1 (rd0 M) i.toNat)) → (∀ j, 0 ≤ j → j < i → stpOk 1 (rdM 1 (rd0 M) j.toNat) (M 115 j)) → (40 - i).toNat < n → Gd pP lL eE (rmN 3 64) sS mI aA bB mM cC 0 0 Q tT dD al (fA al) 6 [some (.ref (al 1)), some (.ref (al 6)), some (.int (iN i))] [] M1 := by
    intro n
    induction n with
    | zero => intro i M1 hi hi2 hX hS hI hok hm; exact absurd hm (Nat.not_lt_zero _)
    | succ n ih =>
      intro i M1 hi hi2 hX hS hI hok hm
      have e1 : M1 1 1 = M 114 1 := by rw [hX.row (by omega), hg0]
      have ih_6 := ih
      clear ih
      refine g_iload_n X dX5_standing_6 rfl rfl ?_
      refine g_aload_n X dX5_standing_7 rfl rfl ?_
      refine g_geti (kz := 1) X kd_1 fc5 (k := 1) (by decide) rfl wd_99 rfl dX5_standing_8 ?_
      refine g_icmp_ge (tgt := 35) X dX5_standing_11 (by decide) ⟨by omega, by omega⟩ ⟨by omega, by omega⟩ (fun q11 => ?_) (fun q11 => ?_)
      · refine g_aload_n X dX5_standing_35 rfl rfl ?_
        refine g_geti (kz := 1) X kd_1 fc5 (k := 1) (by decide) rfl wd_99 rfl dX5_standing_36 ?_
        rw [hQ]
        refine g_iret X hr hlk dX5_standing_39 ?_
        obtain rfl : i = M 114 1 := by omega
        rw [e1]
        exact FX.yes ⟨by omega, rfl⟩ hok hS.k hX
      · refine g_aload_n X dX5_standing_14 rfl rfl ?_
        refine g_aload_n X dX5_standing_15 rfl rfl ?_
        refine g_getr (r := 2) X kd_1 fc5 (k := 0) (by decide) rfl wd_96 rfl (by decide) dX5_standing_16 ?_
        refine g_iload_n X dX5_standing_19 rfl rfl ?_
        refine g_iald X kd_2 (by omega) (by omega) dX5_standing_20 ?_
        have hch := hP.2 i hi (by omega)
        refine g_teq (b := M 115 i) (by rw [hX.row (by omega)]; exact hG.2 i hi (by omega)) ?_
        refine g_callUI X (c_X4_take lL tT dD al _ _ _ hS (hI.2.1 rfl) hch) kd_6 fc4 lk_RX5_28_RX4 rfl rfl ⟨by decide, by decide⟩ rfl (Nat.le_of_ble_eq_true rfl) dX5_standing_21 (fun r21 M21 hc21 => ?_)
        obtain ⟨hr21, hc21⟩ := hc21
        subst r21
        refine g_if_ne (tgt := 29) X dX5_standing_24 (by decide) (b2i_i32 _) (fun q24 => ?_) (fun q24 => ?_)
        · have q24 := b2i_t q24
          refine g_iinc_2 X dX5_standing_29 rfl (fun v2_29 ev2_29 => ?_)
          subst v2_29
          refine g_goto (tgt := 6) X dX5_standing_32 (by decide) ?_
          exact g_sub (ih_6 _ _ (by omega) (by omega) (hX.tr hc21.1) (by rw [rd_next hi, stpM_1]; exact hc21.2 q24) (by rw [rd_next hi]; exact stp_I (by decide) hI ((stpOk_1 _ _).mpr q24)) (ok_up hok ((stpOk_1 _ _).mpr q24)) (by omega)) ⟨rfl, rfl, rfl, trivial⟩
        · have q24 := b2i_f q24
          refine g_iload_n X dX5_standing_27 rfl rfl ?_
          rw [hQ]
          refine g_iret X hr hlk dX5_standing_28 ?_
          exact FX.no ⟨hi, by omega⟩ hok (fun z => q24 ((stpOk_1 _ _).mp z)) (hX.tr hc21.1)
  exact g_sub (L_6 _ _ _ (by omega) (by omega) (by rw [hc1]; exact xe_beg M) (by rw [hc1]; exact se_beg M M) (by exact rd0_I 1 hB) (fun j a b => by omega) (Nat.lt_succ_self _)) ⟨rfl, rfl, rfl, trivial⟩
set_option maxRecDepth 100000 in
set_option maxHeartbeats 4000000 in
theorem c_X5_isWhole1 (lL : Launch) (tT : TT) (dD : va_G) (al : Int → Nat) (M : Mem)  (hP : WPage M) (hG : IG M) (hB : B118 M) : CI lL yX5_isWhole cX5_isWhole 2 FieldType.boolean 4 86 tT dD al [.ref (al 1), .ref (al 6)] M (fun r M' => ∃ f, FX 1 M f M' ∧ (r = 0 ∨ r = 1) ∧ (r = 1 ↔ f = M 114 1 ∧ (M' 6 1 = 2 ∧ M' 6 2 = 1))) := by
  refine CI.of (own := "RedSkies$Page") (ls0 := [some (.ref (al 1)), some (.ref (al 6))]) (by decide +kernel) rfl (Nat.le_of_ble_eq_true rfl) rfl ?_
  intro pP eE sS mI aA bB mM cC X hr hlk
  obtain ⟨Q, hQ⟩ : ∃ Q : State → Prop, Q = MQ bB (QI tT dD al (fun r M' => ∃ f, FX 1 M f M' ∧ (r = 0 ∨ r = 1) ∧ (r = 1 ↔ f = M 114 1 ∧ (M' 6 1 = 2 ∧ M' 6 2 = 1)))) aA sS 0 0 (fA al) := ⟨_, rfl⟩
  rw [← hQ]
  have hp0 := hP.1
  have hg0 := hG.1
  refine g_aload_n X dX5_isWhole_0 rfl rfl ?_
  refine g_aload_n X dX5_isWhole_1 rfl rfl ?_
  refine g_callVI X (c_X5_standing1 lL tT dD al _  (by first | assumption | omega) (by first | assumption | omega) (by first | assumption | omega)) kd_1 fc5 lk_RX5_32 rfl rfl ⟨by decide, by decide⟩ rfl (Nat.le_of_ble_eq_true rfl) dX5_isWhole_2 (fun r2 M2 hc2 => ?_)
  have hfr := hc2.1
  have e1 : M2 1 1 = M 114 1 := by rw [hc2.2.2.2.row (by omega), hg0]
  refine g_aload_n X dX5_isWhole_5 rfl rfl ?_
  refine g_geti (kz := 1) X kd_1 fc5 (k := 1) (by decide) rfl wd_99 rfl dX5_isWhole_6 ?_
  refine g_icmp_ne (tgt := 23) X dX5_isWhole_9 (by decide) ⟨by omega, by omega⟩ ⟨by omega, by omega⟩ (fun q9 => ?_) (fun q9 => ?_)
  · refine g_iconst X dX5_isWhole_23 ?_
    rw [hQ]
    refine g_zret X hr hlk (by decide) dX5_isWhole_24 ?_
    first | exact ⟨r2, hc2, Or.inr rfl, ⟨fun _ => ⟨by omega, q16⟩, fun _ => rfl⟩⟩ | exact ⟨r2, hc2, Or.inl rfl, ⟨fun z => absurd z (by decide), fun z => absurd z.2 q16⟩⟩ | exact ⟨r2, hc2, Or.inl rfl, ⟨fun z => absurd z (by decide), fun z => absurd z.1 (by omega)⟩⟩
  · have hs : SE M2 (rdM 1 (rd0 M) r2.toNat) := by rcases hc2.2.2.1 with q | q; (first | exact q.2.1 rfl | exact q.2.2.1 rfl | exact q.2.2.2 rfl); omega
    refine g_aload_n X dX5_isWhole_12 rfl rfl ?_
    refine g_callUI X (c_X4_isDone lL tT dD al _  ⟨by have := hs.1; omega, by have := hs.1; omega⟩ ⟨by have := hs.2.1; omega, by have := hs.2.1; omega⟩) kd_6 fc4 lk_RX5_36_RX4 rfl rfl ⟨by decide, by decide⟩ rfl (Nat.le_of_ble_eq_true rfl) dX5_isWhole_13 (fun r13 M13 hc13 => ?_)
    obtain ⟨hr13, hm13⟩ := hc13
    subst r13
    subst M13
    refine g_if_eq (tgt := 23) X dX5_isWhole_16 (by decide) (b2i_i32 _) (fun q16 => ?_) (fun q16 => ?_)
    · have q16 := b2i_f q16
      refine g_iconst X dX5_isWhole_23 ?_
      rw [hQ]
      refine g_zret X hr hlk (by decide) dX5_isWhole_24 ?_
      first | exact ⟨r2, hc2, Or.inr rfl, ⟨fun _ => ⟨by omega, q16⟩, fun _ => rfl⟩⟩ | exact ⟨r2, hc2, Or.inl rfl, ⟨fun z => absurd z (by decide), fun z => absurd z.2 q16⟩⟩ | exact ⟨r2, hc2, Or.inl rfl, ⟨fun z => absurd z (by decide), fun z => absurd z.1 (by omega)⟩⟩
    · have q16 := b2i_t q16
      refine g_iconst X dX5_isWhole_19 ?_
      refine g_goto (tgt := 24) X dX5_isWhole_20 (by decide) ?_
      rw [hQ]
      refine g_zret X hr hlk (by decide) dX5_isWhole_24 ?_
      first | exact ⟨r2, hc2, Or.inr rfl, ⟨fun _ => ⟨by omega, q16⟩, fun _ => rfl⟩⟩ | exact ⟨r2, hc2, Or.inl rfl, ⟨fun z => absurd z (by decide), fun z => absurd z.2 q16⟩⟩ | exact ⟨r2, hc2, Or.inl rfl, ⟨fun z => absurd z (by decide), fun z => absurd z.1 (by omega)⟩⟩
set_option maxRecDepth 100000 in
set_option maxHeartbeats 4000000 in
theorem c_X5_standing2 (lL : Launch) (tT : TT) (dD : va_G) (al : Int → Nat) (M : Mem)  (hP : WPage M) (hG : IG M) (hB : B118 M) : CI lL yX5_standing cX5_standing 3 FieldType.int 3 66 tT dD al [.ref (al 1), .ref (al 8)] M (fun r M' => FX 2 M r M') := by
  refine CI.of (own := "RedSkies$Page") (ls0 := [some (.ref (al 1)), some (.ref (al 8)), none]) (by decide +kernel) rfl (Nat.le_of_ble_eq_true rfl) rfl ?_
  intro pP eE sS mI aA bB mM cC X hr hlk
  obtain ⟨Q, hQ⟩ : ∃ Q : State → Prop, Q = MQ bB (QI tT dD al (fun r M' => FX 2 M r M')) aA sS 0 0 (fA al) := ⟨_, rfl⟩
  rw [← hQ]
  have hp0 := hP.1
  have hg0 := hG.1
  refine g_aload_n X dX5_standing_0 rfl rfl ?_
  refine g_callUV X (c_X3_begin lL tT dD al _  ) kd_8 fc3 lk_RX5_23_RX3 rfl rfl ⟨by decide, by decide⟩ rfl (Nat.le_of_ble_eq_true rfl) dX5_standing_1 (fun M1 hc1 => ?_)
  refine g_iconst X dX5_standing_4 ?_
  refine g_istore_n_2 X dX5_standing_5 rfl rfl (fun v2_5 ev2_5 => ?_)
  subst v2_5
  have L_6 : ∀ (n : Nat) (i : Int) (M1 : Mem), (0 ≤ i) → (i ≤ M 114 1) → (XR M M1) → (SW M1 (rdM 2 (rd0 M) i.toNat)) → (rdI 2 (rdM 2 (rd0 M) i.toNat)) → (∀ j, 0 ≤ j → j < i → stpOk 2 (rdM 2 (rd0 M) j.toNat) (M 115 j)) → (40 - i).toNat < n → Gd pP lL eE (rmN 3 66) sS mI aA bB mM cC 0 0 Q tT dD al (fA al) 6 [some (.ref (al 1)), some (.ref (al 8)), some (.int (iN i))] [] M1 := by
    intro n
    induction n with
    | zero => intro i M1 hi hi2 hX hS hI hok hm; exact absurd hm (Nat.not_lt_zero _)
    | succ n ih =>
      intro i M1 hi hi2 hX hS hI hok hm
      have e1 : M1 1 1 = M 114 1 := by rw [hX.row (by omega), hg0]
      have ih_6 := ih
      clear ih
      refine g_iload_n X dX5_standing_6 rfl rfl ?_
      refine g_aload_n X dX5_standing_7 rfl rfl ?_
      refine g_geti (kz := 1) X kd_1 fc5 (k := 1) (by decide) rfl wd_99 rfl dX5_standing_8 ?_
      refine g_icmp_ge (tgt := 35) X dX5_standing_11 (by decide) ⟨by omega, by omega⟩ ⟨by omega, by omega⟩ (fun q11 => ?_) (fun q11 => ?_)
      · refine g_aload_n X dX5_standing_35 rfl rfl ?_
        refine g_geti (kz := 1) X kd_1 fc5 (k := 1) (by decide) rfl wd_99 rfl dX5_standing_36 ?_
        rw [hQ]
        refine g_iret X hr hlk dX5_standing_39 ?_
        obtain rfl : i = M 114 1 := by omega
        rw [e1]
        exact FX.yes ⟨by omega, rfl⟩ hok hS.k hX
      · refine g_aload_n X dX5_standing_14 rfl rfl ?_
        refine g_aload_n X dX5_standing_15 rfl rfl ?_
        refine g_getr (r := 2) X kd_1 fc5 (k := 0) (by decide) rfl wd_96 rfl (by decide) dX5_standing_16 ?_
        refine g_iload_n X dX5_standing_19 rfl rfl ?_
        refine g_iald X kd_2 (by omega) (by omega) dX5_standing_20 ?_
        have hch := hP.2 i hi (by omega)
        refine g_teq (b := M 115 i) (by rw [hX.row (by omega)]; exact hG.2 i hi (by omega)) ?_
        refine g_callUI X (c_X3_take lL tT dD al _ _ _ hS (hI.2.2 rfl) hch) kd_8 fc3 lk_RX5_28_RX3 rfl rfl ⟨by decide, by decide⟩ rfl (Nat.le_of_ble_eq_true rfl) dX5_standing_21 (fun r21 M21 hc21 => ?_)
        obtain ⟨hr21, hc21⟩ := hc21
        subst r21
        refine g_if_ne (tgt := 29) X dX5_standing_24 (by decide) (b2i_i32 _) (fun q24 => ?_) (fun q24 => ?_)
        · have q24 := b2i_t q24
          refine g_iinc_2 X dX5_standing_29 rfl (fun v2_29 ev2_29 => ?_)
          subst v2_29
          refine g_goto (tgt := 6) X dX5_standing_32 (by decide) ?_
          exact g_sub (ih_6 _ _ (by omega) (by omega) (hX.tr hc21.1) (by rw [rd_next hi, stpM_2]; exact hc21.2 q24) (by rw [rd_next hi]; exact stp_I (by decide) hI ((stpOk_2 _ _).mpr q24)) (ok_up hok ((stpOk_2 _ _).mpr q24)) (by omega)) ⟨rfl, rfl, rfl, trivial⟩
        · have q24 := b2i_f q24
          refine g_iload_n X dX5_standing_27 rfl rfl ?_
          rw [hQ]
          refine g_iret X hr hlk dX5_standing_28 ?_
          exact FX.no ⟨hi, by omega⟩ hok (fun z => q24 ((stpOk_2 _ _).mp z)) (hX.tr hc21.1)
  exact g_sub (L_6 _ _ _ (by omega) (by omega) (by rw [hc1]; exact xw_beg M) (by rw [hc1]; exact sw_beg M M) (by exact rd0_I 2 hB) (fun j a b => by omega) (Nat.lt_succ_self _)) ⟨rfl, rfl, rfl, trivial⟩
set_option maxRecDepth 100000 in
set_option maxHeartbeats 4000000 in
theorem c_X5_isWhole2 (lL : Launch) (tT : TT) (dD : va_G) (al : Int → Nat) (M : Mem)  (hP : WPage M) (hG : IG M) (hB : B118 M) : CI lL yX5_isWhole cX5_isWhole 2 FieldType.boolean 4 88 tT dD al [.ref (al 1), .ref (al 8)] M (fun r M' => ∃ f, FX 2 M f M' ∧ (r = 0 ∨ r = 1) ∧ (r = 1 ↔ f = M 114 1 ∧ (M' 8 4 = 1 ∧ 0 < M' 8 3))) := by
  refine CI.of (own := "RedSkies$Page") (ls0 := [some (.ref (al 1)), some (.ref (al 8))]) (by decide +kernel) rfl (Nat.le_of_ble_eq_true rfl) rfl ?_
  intro pP eE sS mI aA bB mM cC X hr hlk
  obtain ⟨Q, hQ⟩ : ∃ Q : State → Prop, Q = MQ bB (QI tT dD al (fun r M' => ∃ f, FX 2 M f M' ∧ (r = 0 ∨ r = 1) ∧ (r = 1 ↔ f = M 114 1 ∧ (M' 8 4 = 1 ∧ 0 < M' 8 3)))) aA sS 0 0 (fA al) := ⟨_, rfl⟩
  rw [← hQ]
  have hp0 := hP.1
  have hg0 := hG.1
  refine g_aload_n X dX5_isWhole_0 rfl rfl ?_
  refine g_aload_n X dX5_isWhole_1 rfl rfl ?_
  refine g_callVI X (c_X5_standing2 lL tT dD al _  (by first | assumption | omega) (by first | assumption | omega) (by first | assumption | omega)) kd_1 fc5 lk_RX5_32 rfl rfl ⟨by decide, by decide⟩ rfl (Nat.le_of_ble_eq_true rfl) dX5_isWhole_2 (fun r2 M2 hc2 => ?_)
  have hfr := hc2.1
  have e1 : M2 1 1 = M 114 1 := by rw [hc2.2.2.2.row (by omega), hg0]
  refine g_aload_n X dX5_isWhole_5 rfl rfl ?_
  refine g_geti (kz := 1) X kd_1 fc5 (k := 1) (by decide) rfl wd_99 rfl dX5_isWhole_6 ?_
  refine g_icmp_ne (tgt := 23) X dX5_isWhole_9 (by decide) ⟨by omega, by omega⟩ ⟨by omega, by omega⟩ (fun q9 => ?_) (fun q9 => ?_)
  · refine g_iconst X dX5_isWhole_23 ?_
    rw [hQ]
    refine g_zret X hr hlk (by decide) dX5_isWhole_24 ?_
    first | exact ⟨r2, hc2, Or.inr rfl, ⟨fun _ => ⟨by omega, q16⟩, fun _ => rfl⟩⟩ | exact ⟨r2, hc2, Or.inl rfl, ⟨fun z => absurd z (by decide), fun z => absurd z.2 q16⟩⟩ | exact ⟨r2, hc2, Or.inl rfl, ⟨fun z => absurd z (by decide), fun z => absurd z.1 (by omega)⟩⟩
  · have hs : SW M2 (rdM 2 (rd0 M) r2.toNat) := by rcases hc2.2.2.1 with q | q; (first | exact q.2.1 rfl | exact q.2.2.1 rfl | exact q.2.2.2 rfl); omega
    refine g_aload_n X dX5_isWhole_12 rfl rfl ?_
    refine g_callUI X (c_X3_isDone lL tT dD al _  hs.1 ⟨by have a := hs.1; have b := hs.2.2.1; have d := hs.2.2.2.1; omega, by have a := hs.1; have b := hs.2.2.1; have d := hs.2.2.2.1; omega⟩) kd_8 fc3 lk_RX5_36_RX3 rfl rfl ⟨by decide, by decide⟩ rfl (Nat.le_of_ble_eq_true rfl) dX5_isWhole_13 (fun r13 M13 hc13 => ?_)
    obtain ⟨hr13, hm13⟩ := hc13
    subst r13
    subst M13
    refine g_if_eq (tgt := 23) X dX5_isWhole_16 (by decide) (b2i_i32 _) (fun q16 => ?_) (fun q16 => ?_)
    · have q16 := b2i_f q16
      refine g_iconst X dX5_isWhole_23 ?_
      rw [hQ]
      refine g_zret X hr hlk (by decide) dX5_isWhole_24 ?_
      first | exact ⟨r2, hc2, Or.inr rfl, ⟨fun _ => ⟨by omega, q16⟩, fun _ => rfl⟩⟩ | exact ⟨r2, hc2, Or.inl rfl, ⟨fun z => absurd z (by decide), fun z => absurd z.2 q16⟩⟩ | exact ⟨r2, hc2, Or.inl rfl, ⟨fun z => absurd z (by decide), fun z => absurd z.1 (by omega)⟩⟩
    · have q16 := b2i_t q16
      refine g_iconst X dX5_isWhole_19 ?_
      refine g_goto (tgt := 24) X dX5_isWhole_20 (by decide) ?_
      rw [hQ]
      refine g_zret X hr hlk (by decide) dX5_isWhole_24 ?_
      first | exact ⟨r2, hc2, Or.inr rfl, ⟨fun _ => ⟨by omega, q16⟩, fun _ => rfl⟩⟩ | exact ⟨r2, hc2, Or.inl rfl, ⟨fun z => absurd z (by decide), fun z => absurd z.2 q16⟩⟩ | exact ⟨r2, hc2, Or.inl rfl, ⟨fun z => absurd z (by decide), fun z => absurd z.1 (by omega)⟩⟩
