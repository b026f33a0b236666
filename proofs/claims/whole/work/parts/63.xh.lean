set_option maxRecDepth 100000 in
set_option maxHeartbeats 4000000 in
theorem c_X6_paintOne (lL : Launch) (tT : TT) (dD : va_G) (al : Int → Nat) (M : Mem) (hand : Int) (hn : 0 ≤ M 24 5 ∧ M 24 5 ≤ 16) (hs : 0 ≤ M 113 0 ∧ M 113 0 < 2147483648) (hm : M 24 6 = M 114 26 ∧ 0 ≤ M 114 26 ∧ M 114 26 ≤ 6) (he : ∀ i, 0 ≤ i → i < 6 → M 59 i = M 126 i ∧ 0 ≤ M 126 i ∧ M 126 i ≤ 400) : CV lL yX6_paintOne cX6_paintOne 9 2 50 tT dD al [.ref (al 113), .ref (al 24), .int (iN hand)] M (fun M' => (M 24 5 < 16 → M' = oneX M hand 4) ∧ (¬ M 24 5 < 16 → ∃ s2, (0 ≤ s2 ∧ s2 < 2147483648) ∧ M' = mu M 113 0 s2)) := by
  refine CV.of (own := "RedSkies$Painter") (ls0 := [some (.ref (al 113)), some (.ref (al 24)), some (.int (iN hand)), none, none, none, none, none, none]) (by decide +kernel) rfl (Nat.le_of_ble_eq_true rfl) rfl ?_
  intro pP eE sS mI aA bB mM cC X hr hlk
  obtain ⟨Q, hQ⟩ : ∃ Q : State → Prop, Q = MQ bB (QV tT dD al (fun M' => (M 24 5 < 16 → M' = oneX M hand 4) ∧ (¬ M 24 5 < 16 → ∃ s2, (0 ≤ s2 ∧ s2 < 2147483648) ∧ M' = mu M 113 0 s2))) aA sS 0 0 (fA al) := ⟨_, rfl⟩
  rw [← hQ]
  have y1 := drw_rng (s := nxS (M 113 0)) (d := 401) (by omega)
  have y2 := drw_rng (s := nxS (nxS (M 113 0))) (d := 4) (by omega)
  have d5 : (mu (mu M 113 0 (nxS (M 113 0))) 113 0 (nxS (nxS (M 113 0)))) 24 5 = M 24 5 := by simp [mu]
  have z0 := oneX_0 (M := M) (hand := hand)
  have z5 : ∀ k, oneX M hand k 24 5 = M 24 5 + 1 := fun k => by unfold oneX hgX; rw [if_neg (by omega), if_neg (by omega), if_neg (by omega), if_neg (by omega), if_pos ⟨rfl, rfl⟩]
  have z28 : ∀ k, oneX M hand k 113 0 = sd (M 113 0) (2 + 3 * k).toNat := fun k => by unfold oneX; rw [if_neg (by omega), if_pos ⟨rfl, rfl⟩]
  refine g_aload_n X dX6_paintOne_0 rfl rfl ?_
  refine g_sipush X dX6_paintOne_1 (by decide +kernel) ?_
  refine g_callVI X (c_X6_draw lL tT dD al _ _ hs (by decide)) kd_113 fc6 lk_RX6_23 rfl rfl ⟨by decide, by decide⟩ rfl (Nat.le_of_ble_eq_true rfl) dX6_paintOne_4 (fun r4 M4 hc4 => ?_)
  obtain ⟨hr4, hc4⟩ := hc4
  subst r4
  subst M4
  refine g_istore_n_3 X dX6_paintOne_7 rfl rfl (fun v3_7 ev3_7 => ?_)
  subst v3_7
  refine g_aload_n X dX6_paintOne_8 rfl rfl ?_
  refine g_iconst X dX6_paintOne_9 ?_
  refine g_callVI X (c_X6_draw lL tT dD al _ _ (by simp [mu]; exact nxS_rng _) (by decide)) kd_113 fc6 lk_RX6_23 rfl rfl ⟨by decide, by decide⟩ rfl (Nat.le_of_ble_eq_true rfl) dX6_paintOne_10 (fun r10 M10 hc10 => ?_)
  rw [show (mu M 113 0 (nxS (M 113 0))) 113 0 = (nxS (M 113 0)) from by simp only [mu]; repeat (first | rw [if_neg (by omega)] | rw [if_pos (by simp)])] at hc10
  obtain ⟨hr10, hc10⟩ := hc10
  subst r10
  subst M10
  refine g_istore_4 X dX6_paintOne_13 rfl (fun v4_13 ev4_13 => ?_)
  subst v4_13
  refine g_aload_n X dX6_paintOne_15 rfl rfl ?_
  refine g_iconst X dX6_paintOne_16 ?_
  refine g_iload_n X dX6_paintOne_17 rfl rfl ?_
  refine g_iload_n X dX6_paintOne_18 rfl rfl ?_
  refine g_iload X dX6_paintOne_19 rfl ?_
  refine g_iconst X dX6_paintOne_21 ?_
  refine g_iconst X dX6_paintOne_22 ?_
  refine g_callVI X (c_X8_hang lL tT dD al _ _ _ _ _ _ _ (by rw [d5]; exact hn) (by decide)) kd_24 fc7 lk_RX6_27 rfl rfl ⟨by decide, by decide⟩ rfl (Nat.le_of_ble_eq_true rfl) dX6_paintOne_23 (fun r23 M23 hc23 => ?_)
  rw [show (mu (mu M 113 0 (nxS (M 113 0))) 113 0 (nxS ((nxS (M 113 0))))) 24 5 = (M 24 5) from by simp only [mu]; repeat (first | rw [if_neg (by omega)] | rw [if_pos (by simp)])] at hc23
  obtain ⟨hr23, hc23⟩ := hc23
  subst r23
  have hM23 : M 24 5 < 16 → M23 = oneX M hand 0 := fun q => by rw [hc23, if_pos q]; exact z0 ⟨hn.1, q⟩
  have f5 : M23 24 5 = if M 24 5 < 16 then M 24 5 + 1 else M 24 5 := by by_cases q : M 24 5 < 16; (rw [if_pos q, hM23 q, z5]); (rw [if_neg q, hc23, if_neg q]; exact d5)
  refine g_istore_5 X dX6_paintOne_26 rfl (fun v5_26 ev5_26 => ?_)
  subst v5_26
  refine g_aload_n X dX6_paintOne_28 rfl rfl ?_
  refine g_iload X dX6_paintOne_29 rfl ?_
  refine g_callVI X (c_X8_has lL tT dD al _ _ ⟨by split <;> omega, by split <;> omega⟩ ⟨by rw [f5]; split <;> omega, by rw [f5]; split <;> omega⟩) kd_24 fc7 lk_RX6_33 rfl rfl ⟨by decide, by decide⟩ rfl (Nat.le_of_ble_eq_true rfl) dX6_paintOne_31 (fun r31 M31 hc31 => ?_)
  obtain ⟨hr31, hm31⟩ := hc31
  subst r31
  subst M31
  refine g_if_ne (tgt := 38) X dX6_paintOne_34 (by decide) (b2i_i32 _) (fun q34 => ?_) (fun q34 => ?_)
  · have q34 := b2i_t q34
    have q5 : M 24 5 < 16 := by by_cases q : M 24 5 < 16; exact q; (rw [if_neg q] at q34; omega)
    have e23 := hM23 q5
    have hm2 : M23 24 6 = M23 114 26 ∧ 0 ≤ M23 114 26 ∧ M23 114 26 ≤ 6 := by have w := FP6.one (M := M) hand 0 ⟨hn.1, q5⟩; rw [e23, w 24 6 (by omega), w 114 26 (by omega)]; exact hm
    have he2 : ∀ i, 0 ≤ i → i < 6 → M23 59 i = M23 126 i ∧ 0 ≤ M23 126 i ∧ M23 126 i ≤ 400 := by have w := FP6.one (M := M) hand 0 ⟨hn.1, q5⟩; intro i a b; rw [e23, w 59 i (by omega), w 126 i (by omega)]; exact he i a b
    have f0 : M23 (26 + M 24 5) 0 = 0 := by rw [e23]; unfold oneX hgX; rw [if_neg (by omega), if_neg (by omega), if_pos (by omega)]; rfl
    have f2 : M23 (26 + M 24 5) 2 = drw (nxS (M 113 0)) 401 := by rw [e23]; unfold oneX hgX; rw [if_neg (by omega), if_neg (by omega), if_pos (by omega)]; rfl
    refine g_aload_n X dX6_paintOne_38 rfl rfl ?_
    refine g_iload X dX6_paintOne_39 rfl ?_
    refine g_teq (b := M 24 5) (by rw [if_pos q5]) ?_
    refine g_iconst X dX6_paintOne_41 ?_
    refine g_callVI X (c_X8_isNearR lL tT dD al _ _ _ (by omega) (by omega) (by rw [f0]; omega) (by rw [f2]; omega) (by decide) hm2 he2) kd_24 fc7 lk_RX6_37 rfl rfl ⟨by decide, by decide⟩ rfl (Nat.le_of_ble_eq_true rfl) dX6_paintOne_42 (fun r42 M42 hc42 => ?_)
    obtain ⟨hr42, hm42⟩ := hc42
    subst r42
    subst M42
    refine g_if_eq (tgt := 53) X dX6_paintOne_45 (by decide) (b2i_i32 _) (fun q45 => ?_) (fun q45 => ?_)
    · have q45 := b2i_f q45
      have ng : nrS M23 (M23 (26 + M 24 5) 0) (M23 (26 + M 24 5) 2) 3 = nrS M 0 (drw (sd (M 113 0) 1) 401) 3 := by { rw [f0, f2]; have w := FP6.one (M := M) hand 0 ⟨hn.1, q5⟩; unfold nrS nrK; rw [e23, w.row (o := 126) (by omega), w 114 26 (by omega)]; rfl }
      rw [ng] at q45
      have hg : glwS M (M 113 0) = 0 := by { show (if b2i (nrS M 0 (drw (sd (M 113 0) 1) 401) 3) = 1 then (15 : Int) else 0) = 0; rw [← b2i_0 q45]; rfl }
      refine g_iconst X dX6_paintOne_53 ?_
      refine g_istore_6 X dX6_paintOne_54 rfl (fun v6_54 ev6_54 => ?_)
      subst v6_54
      refine g_aload_n X dX6_paintOne_56 rfl rfl ?_
      refine g_getr (r := 42) X kd_24 fc7 (k := 1) (by decide) rfl wd_219 rfl (by decide) dX6_paintOne_57 ?_
      refine g_iload X dX6_paintOne_60 rfl ?_
      refine g_teq (b := M 24 5) (by rw [if_pos q5]) ?_
      have b0_62_32 : 0 ≤ (M 24 5) := by omega
      have b1_62_32 : (M 24 5) < 16 := by omega
      refine g_aald X kd_42 (bz := 43) rfl b0_62_32 b1_62_32 dX6_paintOne_62 ?_
      have kr_62_32 := kr_43 b0_62_32 b1_62_32
      refine g_astore_7 X dX6_paintOne_63 rfl (fun v7 hv7 => ?_)
      subst v7
      refine g_iconst X dX6_paintOne_65 ?_
      refine g_istore_8 X dX6_paintOne_66 rfl (fun v8_66 ev8_66 => ?_)
      subst v8_66
      have L_68 : ∀ (n : Nat) (pt : Int) (M2 : Mem), (0 ≤ pt) → (pt ≤ 4) → (M2 = oneX M hand pt) → (4 - pt).toNat < n → Gd pP lL eE (rmN 2 50) sS mI aA bB mM cC 0 0 Q tT dD al (fA al) 68 [some (.ref (al 113)), none, none, none, none, none, some (.int (iN 0)), some (.ref (al (43 + (M 24 5)))), some (.int (iN pt))] [] M2 := by
        intro n
        induction n with
        | zero => intro pt M2 hp hp2 hM2 hm; exact absurd hm (Nat.not_lt_zero _)
        | succ n ih =>
          intro pt M2 hp hp2 hM2 hm
          have hs2 : M2 113 0 = sd (M 113 0) (2 + 3 * pt).toNat := by rw [hM2]; exact z28 pt
          have ih_68 := ih
          clear ih
          refine g_iload X dX6_paintOne_68 rfl ?_
          refine g_iconst X dX6_paintOne_70 ?_
          refine g_icmp_ge (tgt := 134) X dX6_paintOne_71 (by decide) ⟨by omega, by omega⟩ (by decide) (fun q71 => ?_) (fun q71 => ?_)
          · rw [hQ]
            refine g_vret X hr hlk dX6_paintOne_134 ?_
            obtain rfl : pt = 4 := by omega
            exact ⟨fun _ => hM2, fun z => absurd q5 z⟩
          · refine g_aload X dX6_paintOne_74 rfl ?_
            refine g_iload X dX6_paintOne_76 rfl ?_
            refine g_iconst X dX6_paintOne_78 ?_
            refine g_imul X dX6_paintOne_79 ?_
            refine g_iconst X dX6_paintOne_80 ?_
            refine g_iadd X dX6_paintOne_81 ?_
            refine g_bipush X dX6_paintOne_82 (by decide +kernel) ?_
            refine g_aload_n X dX6_paintOne_84 rfl rfl ?_
            refine g_bipush X dX6_paintOne_85 (by decide +kernel) ?_
            refine g_callVI X (c_X6_draw lL tT dD al _ _ (by rw [hs2]; exact sd_rng hs _) (by decide)) kd_113 fc6 lk_RX6_23 rfl rfl ⟨by decide, by decide⟩ rfl (Nat.le_of_ble_eq_true rfl) dX6_paintOne_87 (fun r87 M87 hc87 => ?_)
            obtain ⟨hr87, hc87⟩ := hc87
            subst r87
            subst M87
            refine g_iadd X dX6_paintOne_90 ?_
            refine g_iload X dX6_paintOne_91 rfl ?_
            refine g_iadd X dX6_paintOne_93 ?_
            refine g_iast X kr_62_32 (by omega) (by omega) dX6_paintOne_94 ?_
            refine g_aload X dX6_paintOne_95 rfl ?_
            refine g_iload X dX6_paintOne_97 rfl ?_
            refine g_iconst X dX6_paintOne_99 ?_
            refine g_imul X dX6_paintOne_100 ?_
            refine g_iconst X dX6_paintOne_101 ?_
            refine g_iadd X dX6_paintOne_102 ?_
            refine g_bipush X dX6_paintOne_103 (by decide +kernel) ?_
            refine g_aload_n X dX6_paintOne_105 rfl rfl ?_
            refine g_bipush X dX6_paintOne_106 (by decide +kernel) ?_
            refine g_callVI X (c_X6_draw lL tT dD al _ _ (by simp only [mu]; (repeat (first | rw [if_neg (by omega)] | rw [if_pos (by simp)])); exact nxS_rng _) (by decide)) kd_113 fc6 lk_RX6_23 rfl rfl ⟨by decide, by decide⟩ rfl (Nat.le_of_ble_eq_true rfl) dX6_paintOne_108 (fun r108 M108 hc108 => ?_)
            rw [show (mu (mu M2 113 0 (nxS (M2 113 0))) (43 + (M 24 5)) ((pt * 3) + 0) ((20 + (drw (nxS (M2 113 0)) 40)) + 0)) 113 0 = (nxS (M2 113 0)) from by simp only [mu]; repeat (first | rw [if_neg (by omega)] | rw [if_pos (by simp)])] at hc108
            obtain ⟨hr108, hc108⟩ := hc108
            subst r108
            subst M108
            refine g_iadd X dX6_paintOne_111 ?_
            refine g_iast X kr_62_32 (by omega) (by omega) dX6_paintOne_112 ?_
            refine g_aload X dX6_paintOne_113 rfl ?_
            refine g_iload X dX6_paintOne_115 rfl ?_
            refine g_iconst X dX6_paintOne_117 ?_
            refine g_imul X dX6_paintOne_118 ?_
            refine g_iconst X dX6_paintOne_119 ?_
            refine g_iadd X dX6_paintOne_120 ?_
            refine g_aload_n X dX6_paintOne_121 rfl rfl ?_
            refine g_bipush X dX6_paintOne_122 (by decide +kernel) ?_
            refine g_callVI X (c_X6_draw lL tT dD al _ _ (by simp only [mu]; (repeat (first | rw [if_neg (by omega)] | rw [if_pos (by simp)])); exact nxS_rng _) (by decide)) kd_113 fc6 lk_RX6_23 rfl rfl ⟨by decide, by decide⟩ rfl (Nat.le_of_ble_eq_true rfl) dX6_paintOne_124 (fun r124 M124 hc124 => ?_)
            rw [show (mu (mu (mu (mu M2 113 0 (nxS (M2 113 0))) (43 + (M 24 5)) ((pt * 3) + 0) ((20 + (drw (nxS (M2 113 0)) 40)) + 0)) 113 0 (nxS ((nxS (M2 113 0))))) (43 + (M 24 5)) ((pt * 3) + 1) (20 + (drw (nxS ((nxS (M2 113 0)))) 40))) 113 0 = (nxS ((nxS (M2 113 0)))) from by simp only [mu]; repeat (first | rw [if_neg (by omega)] | rw [if_pos (by simp)])] at hc124
            obtain ⟨hr124, hc124⟩ := hc124
            subst r124
            subst M124
            refine g_iast X kr_62_32 (by omega) (by omega) dX6_paintOne_127 ?_
            refine g_iinc_8 X dX6_paintOne_128 rfl (fun v8_128 ev8_128 => ?_)
            subst v8_128
            refine g_goto (tgt := 68) X dX6_paintOne_131 (by decide) ?_
            exact g_sub (ih_68 _ _ (by omega) (by omega) (oneX_s ⟨hn.1, q5⟩ hp (by omega) hM2 hg) (by omega)) ⟨rfl, rfl, rfl, rfl, trivial⟩
      exact g_sub (L_68 _ _ _ (by omega) (by omega) (e23) (Nat.lt_succ_self _)) ⟨rfl, rfl, rfl, rfl, trivial⟩
    · have q45 := b2i_t q45
      have ng : nrS M23 (M23 (26 + M 24 5) 0) (M23 (26 + M 24 5) 2) 3 = nrS M 0 (drw (sd (M 113 0) 1) 401) 3 := by { rw [f0, f2]; have w := FP6.one (M := M) hand 0 ⟨hn.1, q5⟩; unfold nrS nrK; rw [e23, w.row (o := 126) (by omega), w 114 26 (by omega)]; rfl }
      rw [ng] at q45
      have hg : glwS M (M 113 0) = 15 := by { show (if b2i (nrS M 0 (drw (sd (M 113 0) 1) 401) 3) = 1 then (15 : Int) else 0) = 15; rw [← b2i_1 q45]; rfl }
      refine g_bipush X dX6_paintOne_48 (by decide +kernel) ?_
      refine g_goto (tgt := 54) X dX6_paintOne_50 (by decide) ?_
      refine g_istore_6 X dX6_paintOne_54 rfl (fun v6_54 ev6_54 => ?_)
      subst v6_54
      refine g_aload_n X dX6_paintOne_56 rfl rfl ?_
      refine g_getr (r := 42) X kd_24 fc7 (k := 1) (by decide) rfl wd_219 rfl (by decide) dX6_paintOne_57 ?_
      refine g_iload X dX6_paintOne_60 rfl ?_
      refine g_teq (b := M 24 5) (by rw [if_pos q5]) ?_
      have b0_62_85 : 0 ≤ (M 24 5) := by omega
      have b1_62_85 : (M 24 5) < 16 := by omega
      refine g_aald X kd_42 (bz := 43) rfl b0_62_85 b1_62_85 dX6_paintOne_62 ?_
      have kr_62_85 := kr_43 b0_62_85 b1_62_85
      refine g_astore_7 X dX6_paintOne_63 rfl (fun v7 hv7 => ?_)
      subst v7
      refine g_iconst X dX6_paintOne_65 ?_
      refine g_istore_8 X dX6_paintOne_66 rfl (fun v8_66 ev8_66 => ?_)
      subst v8_66
      have L_68 : ∀ (n : Nat) (pt : Int) (M2 : Mem), (0 ≤ pt) → (pt ≤ 4) → (M2 = oneX M hand pt) → (4 - pt).toNat < n → Gd pP lL eE (rmN 2 50) sS mI aA bB mM cC 0 0 Q tT dD al (fA al) 68 [some (.ref (al 113)), none, none, none, none, none, some (.int (iN 15)), some (.ref (al (43 + (M 24 5)))), some (.int (iN pt))] [] M2 := by
        intro n
        induction n with
        | zero => intro pt M2 hp hp2 hM2 hm; exact absurd hm (Nat.not_lt_zero _)
        | succ n ih =>
          intro pt M2 hp hp2 hM2 hm
          have hs2 : M2 113 0 = sd (M 113 0) (2 + 3 * pt).toNat := by rw [hM2]; exact z28 pt
          have ih_68 := ih
          clear ih
          refine g_iload X dX6_paintOne_68 rfl ?_
          refine g_iconst X dX6_paintOne_70 ?_
          refine g_icmp_ge (tgt := 134) X dX6_paintOne_71 (by decide) ⟨by omega, by omega⟩ (by decide) (fun q71 => ?_) (fun q71 => ?_)
          · rw [hQ]
            refine g_vret X hr hlk dX6_paintOne_134 ?_
            obtain rfl : pt = 4 := by omega
            exact ⟨fun _ => hM2, fun z => absurd q5 z⟩
          · refine g_aload X dX6_paintOne_74 rfl ?_
            refine g_iload X dX6_paintOne_76 rfl ?_
            refine g_iconst X dX6_paintOne_78 ?_
            refine g_imul X dX6_paintOne_79 ?_
            refine g_iconst X dX6_paintOne_80 ?_
            refine g_iadd X dX6_paintOne_81 ?_
            refine g_bipush X dX6_paintOne_82 (by decide +kernel) ?_
            refine g_aload_n X dX6_paintOne_84 rfl rfl ?_
            refine g_bipush X dX6_paintOne_85 (by decide +kernel) ?_
            refine g_callVI X (c_X6_draw lL tT dD al _ _ (by rw [hs2]; exact sd_rng hs _) (by decide)) kd_113 fc6 lk_RX6_23 rfl rfl ⟨by decide, by decide⟩ rfl (Nat.le_of_ble_eq_true rfl) dX6_paintOne_87 (fun r87 M87 hc87 => ?_)
            obtain ⟨hr87, hc87⟩ := hc87
            subst r87
            subst M87
            refine g_iadd X dX6_paintOne_90 ?_
            refine g_iload X dX6_paintOne_91 rfl ?_
            refine g_iadd X dX6_paintOne_93 ?_
            refine g_iast X kr_62_85 (by omega) (by omega) dX6_paintOne_94 ?_
            refine g_aload X dX6_paintOne_95 rfl ?_
            refine g_iload X dX6_paintOne_97 rfl ?_
            refine g_iconst X dX6_paintOne_99 ?_
            refine g_imul X dX6_paintOne_100 ?_
            refine g_iconst X dX6_paintOne_101 ?_
            refine g_iadd X dX6_paintOne_102 ?_
            refine g_bipush X dX6_paintOne_103 (by decide +kernel) ?_
            refine g_aload_n X dX6_paintOne_105 rfl rfl ?_
            refine g_bipush X dX6_paintOne_106 (by decide +kernel) ?_
            refine g_callVI X (c_X6_draw lL tT dD al _ _ (by simp only [mu]; (repeat (first | rw [if_neg (by omega)] | rw [if_pos (by simp)])); exact nxS_rng _) (by decide)) kd_113 fc6 lk_RX6_23 rfl rfl ⟨by decide, by decide⟩ rfl (Nat.le_of_ble_eq_true rfl) dX6_paintOne_108 (fun r108 M108 hc108 => ?_)
            rw [show (mu (mu M2 113 0 (nxS (M2 113 0))) (43 + (M 24 5)) ((pt * 3) + 0) ((20 + (drw (nxS (M2 113 0)) 40)) + 15)) 113 0 = (nxS (M2 113 0)) from by simp only [mu]; repeat (first | rw [if_neg (by omega)] | rw [if_pos (by simp)])] at hc108
            obtain ⟨hr108, hc108⟩ := hc108
            subst r108
            subst M108
            refine g_iadd X dX6_paintOne_111 ?_
            refine g_iast X kr_62_85 (by omega) (by omega) dX6_paintOne_112 ?_
            refine g_aload X dX6_paintOne_113 rfl ?_
            refine g_iload X dX6_paintOne_115 rfl ?_
            refine g_iconst X dX6_paintOne_117 ?_
            refine g_imul X dX6_paintOne_118 ?_
            refine g_iconst X dX6_paintOne_119 ?_
            refine g_iadd X dX6_paintOne_120 ?_
            refine g_aload_n X dX6_paintOne_121 rfl rfl ?_
            refine g_bipush X dX6_paintOne_122 (by decide +kernel) ?_
            refine g_callVI X (c_X6_draw lL tT dD al _ _ (by simp only [mu]; (repeat (first | rw [if_neg (by omega)] | rw [if_pos (by simp)])); exact nxS_rng _) (by decide)) kd_113 fc6 lk_RX6_23 rfl rfl ⟨by decide, by decide⟩ rfl (Nat.le_of_ble_eq_true rfl) dX6_paintOne_124 (fun r124 M124 hc124 => ?_)
            rw [show (mu (mu (mu (mu M2 113 0 (nxS (M2 113 0))) (43 + (M 24 5)) ((pt * 3) + 0) ((20 + (drw (nxS (M2 113 0)) 40)) + 15)) 113 0 (nxS ((nxS (M2 113 0))))) (43 + (M 24 5)) ((pt * 3) + 1) (20 + (drw (nxS ((nxS (M2 113 0)))) 40))) 113 0 = (nxS ((nxS (M2 113 0)))) from by simp only [mu]; repeat (first | rw [if_neg (by omega)] | rw [if_pos (by simp)])] at hc124
            obtain ⟨hr124, hc124⟩ := hc124
            subst r124
            subst M124
            refine g_iast X kr_62_85 (by omega) (by omega) dX6_paintOne_127 ?_
            refine g_iinc_8 X dX6_paintOne_128 rfl (fun v8_128 ev8_128 => ?_)
            subst v8_128
            refine g_goto (tgt := 68) X dX6_paintOne_131 (by decide) ?_
            exact g_sub (ih_68 _ _ (by omega) (by omega) (oneX_s ⟨hn.1, q5⟩ hp (by omega) hM2 hg) (by omega)) ⟨rfl, rfl, rfl, rfl, trivial⟩
      exact g_sub (L_68 _ _ _ (by omega) (by omega) (e23) (Nat.lt_succ_self _)) ⟨rfl, rfl, rfl, rfl, trivial⟩
  · have q34 := b2i_f q34
    rw [hQ]
    refine g_vret X hr hlk dX6_paintOne_37 ?_
    clear X hr hlk hQ
    refine ⟨fun q => ?_, fun q => ⟨nxS (nxS (M 113 0)), nxS_rng _, ?_⟩⟩
    · exfalso; apply q34; rw [if_pos q, f5, if_pos q]; omega
    · rw [hc23, if_neg q]; funext o j; simp only [mu]; grind
set_option maxRecDepth 100000 in
set_option maxHeartbeats 4000000 in
theorem c_X9_paint (lL : Launch) (tT : TT) (dD : va_G) (al : Int → Nat) (M : Mem) (hand much seed : Int) (hV : IV M) (ihand : i32 hand) (imuch : i32 much) (iseed : i32 seed) : CI lL yX9_paint cX9_paint 5 FieldType.int 3 78 tT dD al [.ref (al 0), .int (iN hand), .int (iN much), .int (iN seed)] M (fun r M' => r = (if ((0 ≤ hand ∧ hand ≤ 4) ∧ (1 ≤ much ∧ much ≤ 8) ∧ 0 ≤ seed) then (pnt (mu M 114 28 seed) hand much.toNat) 114 23 else -102) ∧ (((0 ≤ hand ∧ hand ≤ 4) ∧ (1 ≤ much ∧ much ≤ 8) ∧ 0 ≤ seed) → SHr M' (pnt (mu M 114 28 seed) hand much.toNat) ∧ FP6 M M') ∧ (¬ ((0 ≤ hand ∧ hand ≤ 4) ∧ (1 ≤ much ∧ much ≤ 8) ∧ 0 ≤ seed) → M' = M)) := by
  refine CI.of (own := "RedSkies") (ls0 := [some (.ref (al 0)), some (.int (iN hand)), some (.int (iN much)), some (.int (iN seed)), none]) (by decide +kernel) rfl (Nat.le_of_ble_eq_true rfl) rfl ?_
  intro pP eE sS mI aA bB mM cC X hr hlk
  obtain ⟨Q, hQ⟩ : ∃ Q : State → Prop, Q = MQ bB (QI tT dD al (fun r M' => r = (if ((0 ≤ hand ∧ hand ≤ 4) ∧ (1 ≤ much ∧ much ≤ 8) ∧ 0 ≤ seed) then (pnt (mu M 114 28 seed) hand much.toNat) 114 23 else -102) ∧ (((0 ≤ hand ∧ hand ≤ 4) ∧ (1 ≤ much ∧ much ≤ 8) ∧ 0 ≤ seed) → SHr M' (pnt (mu M 114 28 seed) hand much.toNat) ∧ FP6 M M') ∧ (¬ ((0 ≤ hand ∧ hand ≤ 4) ∧ (1 ≤ much ∧ much ≤ 8) ∧ 0 ≤ seed) → M' = M))) aA sS 0 0 (fA al) := ⟨_, rfl⟩
  rw [← hQ]
  have hW := hV.w
  have w2 := hW.n
  have n1 := hV.hn
  refine g_iload_n X dX9_paint_0 rfl rfl ?_
  refine g_iconst X dX9_paint_1 ?_
  refine g_callSI X (c_X9_isWithin lL tT dD al _ _ _ ⟨by omega, by omega⟩ (by decide)) lk_RX9_126 rfl rfl ⟨by decide, by decide⟩ rfl (Nat.le_of_ble_eq_true rfl) dX9_paint_2 (fun r2 M2 hc2 => ?_)
  obtain ⟨hr2, hm2⟩ := hc2
  subst r2
  subst M2
  refine g_if_eq (tgt := 23) X dX9_paint_5 (by decide) (b2i_i32 _) (fun q5 => ?_) (fun q5 => ?_)
  · have q5 := b2i_f q5
    refine g_bipush X dX9_paint_23 (by decide +kernel) ?_
    rw [hQ]
    refine g_iret X hr hlk dX9_paint_25 ?_
    have n : ¬ ((0 ≤ hand ∧ hand ≤ 4) ∧ (1 ≤ much ∧ much ≤ 8) ∧ 0 ≤ seed) := by omega
    exact ⟨(if_neg n).symm, fun z => absurd z n, fun _ => rfl⟩
  · have q5 := b2i_t q5
    refine g_iload_n X dX9_paint_8 rfl rfl ?_
    refine g_iconst X dX9_paint_9 ?_
    refine g_icmp_lt (tgt := 23) X dX9_paint_10 (by decide) ⟨by omega, by omega⟩ (by decide) (fun q10 => ?_) (fun q10 => ?_)
    · refine g_bipush X dX9_paint_23 (by decide +kernel) ?_
      rw [hQ]
      refine g_iret X hr hlk dX9_paint_25 ?_
      have n : ¬ ((0 ≤ hand ∧ hand ≤ 4) ∧ (1 ≤ much ∧ much ≤ 8) ∧ 0 ≤ seed) := by omega
      exact ⟨(if_neg n).symm, fun z => absurd z n, fun _ => rfl⟩
    · refine g_iload_n X dX9_paint_13 rfl rfl ?_
      refine g_bipush X dX9_paint_14 (by decide +kernel) ?_
      refine g_icmp_gt (tgt := 23) X dX9_paint_16 (by decide) ⟨by omega, by omega⟩ (by decide) (fun q16 => ?_) (fun q16 => ?_)
      · refine g_bipush X dX9_paint_23 (by decide +kernel) ?_
        rw [hQ]
        refine g_iret X hr hlk dX9_paint_25 ?_
        have n : ¬ ((0 ≤ hand ∧ hand ≤ 4) ∧ (1 ≤ much ∧ much ≤ 8) ∧ 0 ≤ seed) := by omega
        exact ⟨(if_neg n).symm, fun z => absurd z n, fun _ => rfl⟩
      · refine g_iload_n X dX9_paint_19 rfl rfl ?_
        refine g_if_ge (tgt := 26) X dX9_paint_20 (by decide) ⟨by omega, by omega⟩ (fun q20 => ?_) (fun q20 => ?_)
        · have hhd : 0 ≤ hand ∧ hand ≤ 4 := by omega
          refine g_aload_n X dX9_paint_26 rfl rfl ?_
          refine g_getr (r := 113) X kd_0 fc8 (k := 12) (by decide) rfl wd_315 rfl (by decide) dX9_paint_27 ?_
          refine g_iload_n X dX9_paint_30 rfl rfl ?_
          refine g_i2l X dX9_paint_31 ⟨by omega, by omega⟩ ?_
          refine g_putl (kz := 0) X kd_113 fc6 (k := 0) (by decide) rfl wd_299 rfl rfl rfl dX9_paint_32 ?_
          refine g_iconst X dX9_paint_35 ?_
          refine g_istore_4 X dX9_paint_36 rfl (fun v4_36 ev4_36 => ?_)
          subst v4_36
          have L_38 : ∀ (n : Nat) (k : Int) (M1 : Mem), (0 ≤ k) → (k ≤ much) → (PN M M1 hand seed k.toNat) → (8 - k).toNat < n → Gd pP lL eE (rmN 3 78) sS mI aA bB mM cC 0 0 Q tT dD al (fA al) 38 [some (.ref (al 0)), some (.int (iN hand)), some (.int (iN much)), none, some (.int (iN k))] [] M1 := by
            intro n
            induction n with
            | zero => intro k M1 hk hk2 hN hm; exact absurd hm (Nat.not_lt_zero _)
            | succ n ih =>
              intro k M1 hk hk2 hN hm
              have hfp := hN.1
              have hwr := hN.2.2.1.n
              have h51 : M1 24 5 = _ := hN.2.1.1.1
              have hn5 : 0 ≤ M1 24 5 ∧ M1 24 5 ≤ 16 := by rw [h51]; exact hwr.1
              have hm5 : M1 24 6 = M1 114 26 ∧ 0 ≤ M1 114 26 ∧ M1 114 26 ≤ 6 := by rw [hfp 24 6 (by omega), hfp 114 26 (by omega)]; omega
              have he5 : ∀ i, 0 ≤ i → i < 6 → M1 59 i = M1 126 i ∧ 0 ≤ M1 126 i ∧ M1 126 i ≤ 400 := fun i a b => by rw [hfp 59 i (by omega), hfp 126 i (by omega)]; exact ⟨hV.er a b, hW.mts a b⟩
              have ih_38 := ih
              clear ih
              refine g_iload X dX9_paint_38 rfl ?_
              refine g_iload_n X dX9_paint_40 rfl rfl ?_
              refine g_icmp_ge (tgt := 62) X dX9_paint_41 (by decide) ⟨by omega, by omega⟩ ⟨by omega, by omega⟩ (fun q41 => ?_) (fun q41 => ?_)
              · refine g_aload_n X dX9_paint_62 rfl rfl ?_
                refine g_getr (r := 24) X kd_0 fc8 (k := 9) (by decide) rfl wd_312 rfl (by decide) dX9_paint_63 ?_
                refine g_geti (kz := 5) X kd_24 fc7 (k := 5) (by decide) rfl wd_228 rfl dX9_paint_66 ?_
                rw [hQ]
                refine g_iret X hr hlk dX9_paint_69 ?_
                obtain rfl : k = much := by omega
                have n : ((0 ≤ hand ∧ hand ≤ 4) ∧ (1 ≤ k ∧ k ≤ 8) ∧ 0 ≤ seed) := by omega
                exact ⟨by rw [if_pos n]; exact h51, fun _ => ⟨hN.2.1, hfp⟩, fun z => absurd n z⟩
              · refine g_aload_n X dX9_paint_44 rfl rfl ?_
                refine g_getr (r := 113) X kd_0 fc8 (k := 12) (by decide) rfl wd_315 rfl (by decide) dX9_paint_45 ?_
                refine g_aload_n X dX9_paint_48 rfl rfl ?_
                refine g_getr (r := 24) X kd_0 fc8 (k := 9) (by decide) rfl wd_312 rfl (by decide) dX9_paint_49 ?_
                refine g_iload_n X dX9_paint_52 rfl rfl ?_
                refine g_callVV X (c_X6_paintOne lL tT dD al _ _ hn5 hN.2.2.2.1 hm5 he5) kd_113 fc6 lk_RX9_179 rfl rfl ⟨by decide, by decide⟩ rfl (Nat.le_of_ble_eq_true rfl) dX9_paint_53 (fun M53 hc53 => ?_)
                refine g_iinc_4 X dX9_paint_56 trivial (fun v4_56 ev4_56 => ?_)
                subst v4_56
                refine g_goto (tgt := 38) X dX9_paint_59 (by decide) ?_
                exact g_sub (ih_38 _ _ (by omega) (by omega) (by rw [toN_s hk]; exact hN.go hhd hc53) (by clear hc53; omega)) ⟨rfl, rfl, rfl, rfl, trivial⟩
          exact g_sub (L_38 _ _ _ (by omega) (by omega) (PN.beg hW hV.2.1 ⟨by omega, by omega⟩) (Nat.lt_succ_self _)) ⟨rfl, rfl, rfl, rfl, trivial⟩
        · refine g_bipush X dX9_paint_23 (by decide +kernel) ?_
          rw [hQ]
          refine g_iret X hr hlk dX9_paint_25 ?_
          have n : ¬ ((0 ≤ hand ∧ hand ≤ 4) ∧ (1 ≤ much ∧ much ≤ 8) ∧ 0 ≤ seed) := by omega
          exact ⟨(if_neg n).symm, fun z => absurd z n, fun _ => rfl⟩
