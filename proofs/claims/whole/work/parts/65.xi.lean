set_option maxRecDepth 100000 in
set_option maxHeartbeats 4000000 in
theorem c_X9_datesOf (lL : Launch) (tT : TT) (dD : va_G) (al : Int → Nat) (M : Mem) (m q z : Int) (hV : IV M) (hm0 : 0 ≤ m) (hm1 : m < M 114 15) (h0 : 0 ≤ q) (h1 : q < M 114 23) (iz : i32 z) : CI lL yX9_datesOf cX9_datesOf 14 FieldType.int 3 75 tT dD al [.ref (al 0), .int (iN m), .int (iN q), .int (iN z)] M (fun r M' => r = (if z = 0 then dN M m q (nY M q) else if z = 1 then dF M m q (nY M q) else dL M m q (nY M q)) ∧ M' = M) := by
  refine CI.of (own := "RedSkies") (ls0 := [some (.ref (al 0)), some (.int (iN m)), some (.int (iN q)), some (.int (iN z)), none, none, none, none, none, none, none, none, none, none]) (by decide +kernel) rfl (Nat.le_of_ble_eq_true rfl) rfl ?_
  intro pP eE sS mI aA bB mM cC X hr hlk
  obtain ⟨Q, hQ⟩ : ∃ Q : State → Prop, Q = MQ bB (QI tT dD al (fun r M' => r = (if z = 0 then dN M m q (nY M q) else if z = 1 then dF M m q (nY M q) else dL M m q (nY M q)) ∧ M' = M)) aA sS 0 0 (fA al) := ⟨_, rfl⟩
  rw [← hQ]
  have hW := hV.w
  have w2 := hW.n
  have n1 := hV.hn
  have w1 := hW.row h0 h1
  have w3 := hW.mea
  have w4 := hW.pig
  have w5 := hW.law
  have e2 := hV.pi
  have hvr := vlu_rng hW (p := q) hm0 (by omega)
  have cl1 := clsS_rng M (vlu M m q - M 114 19) (by omega)
  have cl2 := clsS_rng M (vlu M m q + M 114 19) (by omega)
  have hyr : yr0 M q = M 124 (6 * q + 2) - M 124 (6 * q + 3) := rfl
  have hto : toS M q = min 400 (M 124 (6 * q + 2) + M 124 (6 * q + 3)) := rfl
  have hyf : yr0 M q ≤ frS M q := by unfold frS; split <;> omega
  have hfr : 0 ≤ frS M q ∧ frS M q ≤ 400 := by { unfold frS; split; omega; (have z := w4.2 (M 124 (6 * q + 5)) (by omega) (by omega); omega) }
  refine g_aload_n X dX9_datesOf_0 rfl rfl ?_
  refine g_getr (r := 24) X kd_0 fc8 (k := 9) (by decide) rfl wd_312 rfl (by decide) dX9_datesOf_1 ?_
  refine g_getr (r := 25) X kd_24 fc7 (k := 0) (by decide) rfl wd_217 rfl (by decide) dX9_datesOf_4 ?_
  refine g_iload_n X dX9_datesOf_7 rfl rfl ?_
  have b0_8_5 : 0 ≤ q := by omega
  have b1_8_5 : q < 16 := by omega
  refine g_aald X kd_25 (bz := 26) rfl b0_8_5 b1_8_5 dX9_datesOf_8 ?_
  have kr_8_5 := kr_26 b0_8_5 b1_8_5
  refine g_astore_4 X dX9_datesOf_9 rfl (fun v4 hv4 => ?_)
  subst v4
  refine g_iconst X dX9_datesOf_11 ?_
  refine g_aload X dX9_datesOf_12 rfl ?_
  refine g_iconst X dX9_datesOf_14 ?_
  refine g_iald X kr_8_5 (by decide) (by decide) dX9_datesOf_15 ?_
  refine g_teq (b := M 124 (6 * q + 2)) (by exact hV.fa h0 h1 (by decide) (by decide)) ?_
  refine g_aload X dX9_datesOf_16 rfl ?_
  refine g_iconst X dX9_datesOf_18 ?_
  refine g_iald X kr_8_5 (by decide) (by decide) dX9_datesOf_19 ?_
  refine g_teq (b := M 124 (6 * q + 3)) (by exact hV.fa h0 h1 (by decide) (by decide)) ?_
  refine g_isub X dX9_datesOf_20 ?_
  refine g_mmax X wd_558 wd_559 wd_80 wd_560 (by decide) ⟨by omega, by omega⟩ rfl ⟨by decide, by decide⟩ (Nat.le_of_ble_eq_true rfl) dX9_datesOf_21 ?_
  refine g_istore_5 X dX9_datesOf_24 rfl (fun v5_24 ev5_24 => ?_)
  subst v5_24
  refine g_sipush X dX9_datesOf_26 (by decide +kernel) ?_
  refine g_aload X dX9_datesOf_29 rfl ?_
  refine g_iconst X dX9_datesOf_31 ?_
  refine g_iald X kr_8_5 (by decide) (by decide) dX9_datesOf_32 ?_
  refine g_teq (b := M 124 (6 * q + 2)) (by exact hV.fa h0 h1 (by decide) (by decide)) ?_
  refine g_aload X dX9_datesOf_33 rfl ?_
  refine g_iconst X dX9_datesOf_35 ?_
  refine g_iald X kr_8_5 (by decide) (by decide) dX9_datesOf_36 ?_
  refine g_teq (b := M 124 (6 * q + 3)) (by exact hV.fa h0 h1 (by decide) (by decide)) ?_
  refine g_iadd X dX9_datesOf_37 ?_
  refine g_mmin X wd_555 wd_556 wd_80 wd_557 (by decide) ⟨by omega, by omega⟩ rfl ⟨by decide, by decide⟩ (Nat.le_of_ble_eq_true rfl) dX9_datesOf_38 ?_
  refine g_istore_6 X dX9_datesOf_41 rfl (fun v6_41 ev6_41 => ?_)
  subst v6_41
  refine g_aload_n X dX9_datesOf_43 rfl rfl ?_
  refine g_aload X dX9_datesOf_44 rfl ?_
  refine g_iconst X dX9_datesOf_46 ?_
  refine g_iald X kr_8_5 (by decide) (by decide) dX9_datesOf_47 ?_
  refine g_teq (b := M 124 (6 * q + 5)) (by exact hV.fa h0 h1 (by decide) (by decide)) ?_
  refine g_callVI X (c_X9_isPigment lL tT dD al _ _ ⟨by omega, by omega⟩ ⟨by omega, by omega⟩) kd_0 fc8 lk_RX9_137 rfl rfl ⟨by decide, by decide⟩ rfl (Nat.le_of_ble_eq_true rfl) dX9_datesOf_48 (fun r48 M48 hc48 => ?_)
  obtain ⟨hr48, hm48⟩ := hc48
  subst r48
  subst M48
  refine g_if_eq (tgt := 70) X dX9_datesOf_51 (by decide) (b2i_i32 _) (fun q51 => ?_) (fun q51 => ?_)
  · have q51 := b2i_f q51
    refine g_aload_n X dX9_datesOf_70 rfl rfl ?_
    refine g_iload_n X dX9_datesOf_71 rfl rfl ?_
    refine g_iload_n X dX9_datesOf_72 rfl rfl ?_
    refine g_callVI X (c_X9_valueOf lL tT dD al _ _ _ hV hm0 hm1 h0 h1) kd_0 fc8 lk_RX9_163 rfl rfl ⟨by decide, by decide⟩ rfl (Nat.le_of_ble_eq_true rfl) dX9_datesOf_73 (fun r73 M73 hc73 => ?_)
    obtain ⟨hr73, hm73⟩ := hc73
    subst r73
    subst M73
    refine g_istore_7 X dX9_datesOf_76 rfl (fun v7_76 ev7_76 => ?_)
    subst v7_76
    refine g_aload_n X dX9_datesOf_78 rfl rfl ?_
    refine g_getr (r := 22) X kd_0 fc8 (k := 8) (by decide) rfl wd_311 rfl (by decide) dX9_datesOf_79 ?_
    refine g_iload X dX9_datesOf_82 rfl ?_
    refine g_callVI X (c_X2_lowest lL tT dD al _ _ hV (by omega)) kd_22 fc2 lk_RX9_258 rfl rfl ⟨by decide, by decide⟩ rfl (Nat.le_of_ble_eq_true rfl) dX9_datesOf_84 (fun r84 M84 hc84 => ?_)
    obtain ⟨hr84, hm84⟩ := hc84
    subst r84
    subst M84
    refine g_istore_8 X dX9_datesOf_87 rfl (fun v8_87 ev8_87 => ?_)
    subst v8_87
    refine g_aload_n X dX9_datesOf_89 rfl rfl ?_
    refine g_getr (r := 22) X kd_0 fc8 (k := 8) (by decide) rfl wd_311 rfl (by decide) dX9_datesOf_90 ?_
    refine g_iload X dX9_datesOf_93 rfl ?_
    refine g_callVI X (c_X2_highest lL tT dD al _ _ hV (by omega)) kd_22 fc2 lk_RX9_261 rfl rfl ⟨by decide, by decide⟩ rfl (Nat.le_of_ble_eq_true rfl) dX9_datesOf_95 (fun r95 M95 hc95 => ?_)
    obtain ⟨hr95, hm95⟩ := hc95
    subst r95
    subst M95
    refine g_istore_9 X dX9_datesOf_98 rfl (fun v9_98 ev9_98 => ?_)
    subst v9_98
    refine g_iconst X dX9_datesOf_100 ?_
    refine g_istore_10 X dX9_datesOf_101 rfl (fun v10_101 ev10_101 => ?_)
    subst v10_101
    refine g_iconst X dX9_datesOf_103 ?_
    refine g_istore_11 X dX9_datesOf_104 rfl (fun v11_104 ev11_104 => ?_)
    subst v11_104
    refine g_iconst X dX9_datesOf_106 ?_
    refine g_istore_12 X dX9_datesOf_107 rfl (fun v12_107 ev12_107 => ?_)
    subst v12_107
    refine g_iload X dX9_datesOf_109 rfl ?_
    refine g_istore_13 X dX9_datesOf_111 rfl (fun v13_111 ev13_111 => ?_)
    subst v13_111
    have L_113 : ∀ (n : Nat) (a : Int) (b : Int) (u : Int) (y : Int), (frS M q ≤ y) → (y = frS M q ∨ y ≤ toS M q + 1) → (a = dN M m q (y - yr0 M q).toNat) → (b = dF M m q (y - yr0 M q).toNat) → (u = dL M m q (y - yr0 M q).toNat) → (401 - y).toNat < n → Gd pP lL eE (rmN 3 75) sS mI aA bB mM cC 0 0 Q tT dD al (fA al) 113 [some (.ref (al 0)), none, none, some (.int (iN z)), none, none, some (.int (iN (min 400 ((M 124 (6 * q + 2)) + (M 124 (6 * q + 3)))))), none, some (.int (iN (clsS M ((vlu M m q) - M 114 19)))), some (.int (iN (clsS M ((vlu M m q) + M 114 19)))), some (.int (iN a)), some (.int (iN b)), some (.int (iN u)), some (.int (iN y))] [] M := by
      intro n
      induction n with
      | zero => intro a b u y hy1 hy3 ha hb hd hm; exact absurd hm (Nat.not_lt_zero _)
      | succ n ih =>
        intro a b u y hy1 hy3 ha hb hd hm
        have hy : yr0 M q ≤ y := by omega
        have r1 := dF_iff M m q (y - yr0 M q).toNat
        rw [← hb, ← hd] at r1
        have ih_113 := ih
        clear ih
        refine g_iload X dX9_datesOf_113 rfl ?_
        refine g_iload X dX9_datesOf_115 rfl ?_
        refine g_icmp_gt (tgt := 164) X dX9_datesOf_117 (by decide) ⟨by omega, by omega⟩ ⟨by omega, by omega⟩ (fun q117 => ?_) (fun q117 => ?_)
        · refine g_iload_n X dX9_datesOf_164 rfl rfl ?_
          refine g_if_ne (tgt := 171) X dX9_datesOf_165 (by decide) ⟨by omega, by omega⟩ (fun q165 => ?_) (fun q165 => ?_)
          · refine g_iload_n X dX9_datesOf_171 rfl rfl ?_
            refine g_iconst X dX9_datesOf_172 ?_
            refine g_icmp_ne (tgt := 181) X dX9_datesOf_173 (by decide) ⟨by omega, by omega⟩ (by decide) (fun q173 => ?_) (fun q173 => ?_)
            · refine g_iload X dX9_datesOf_181 rfl ?_
              rw [hQ]
              refine g_iret X hr hlk dX9_datesOf_183 ?_
              have w := d_end (m := m) (by omega) hyf hy1 (by omega) hy3 ha hb hd
              exact ⟨by first | (rw [if_pos (by omega)]; exact w.1) | (rw [if_neg (by omega), if_pos (by omega)]; exact w.2.1) | (rw [if_neg (by omega), if_neg (by omega)]; exact w.2.2), rfl⟩
            · refine g_iload X dX9_datesOf_176 rfl ?_
              refine g_goto (tgt := 183) X dX9_datesOf_178 (by decide) ?_
              rw [hQ]
              refine g_iret X hr hlk dX9_datesOf_183 ?_
              have w := d_end (m := m) (by omega) hyf hy1 (by omega) hy3 ha hb hd
              exact ⟨by first | (rw [if_pos (by omega)]; exact w.1) | (rw [if_neg (by omega), if_pos (by omega)]; exact w.2.1) | (rw [if_neg (by omega), if_neg (by omega)]; exact w.2.2), rfl⟩
          · refine g_iload X dX9_datesOf_168 rfl ?_
            rw [hQ]
            refine g_iret X hr hlk dX9_datesOf_170 ?_
            have w := d_end (m := m) (by omega) hyf hy1 (by omega) hy3 ha hb hd
            exact ⟨by first | (rw [if_pos (by omega)]; exact w.1) | (rw [if_neg (by omega), if_pos (by omega)]; exact w.2.1) | (rw [if_neg (by omega), if_neg (by omega)]; exact w.2.2), rfl⟩
        · refine g_aload_n X dX9_datesOf_120 rfl rfl ?_
          refine g_getr (r := 24) X kd_0 fc8 (k := 9) (by decide) rfl wd_312 rfl (by decide) dX9_datesOf_121 ?_
          refine g_iload X dX9_datesOf_124 rfl ?_
          refine g_iload X dX9_datesOf_126 rfl ?_
          refine g_iload X dX9_datesOf_128 rfl ?_
          refine g_callVI X (c_X8_iceAllows lL tT dD al _ _ _ _ hV (by omega) ⟨by omega, by omega⟩ ⟨by omega, by omega⟩) kd_24 fc7 lk_RX9_329 rfl rfl ⟨by decide, by decide⟩ rfl (Nat.le_of_ble_eq_true rfl) dX9_datesOf_130 (fun r130 M130 hc130 => ?_)
          obtain ⟨hr130, hm130⟩ := hc130
          subst r130
          subst M130
          refine g_if_eq (tgt := 158) X dX9_datesOf_133 (by decide) (b2i_i32 _) (fun q133 => ?_) (fun q133 => ?_)
          · have q133 := b2i_f q133
            have hno : ¬ okD M m q y := fun w => q133 ((ok_mid hy1 (by omega)).mp w)
            refine g_iinc_13 X dX9_datesOf_158 rfl (fun v13_158 ev13_158 => ?_)
            subst v13_158
            refine g_goto (tgt := 113) X dX9_datesOf_161 (by decide) ?_
            exact g_sub (ih_113 _ _ _ _ (by omega) (by omega) (by first | rw [(d_one hy ho).1, ← ha] | rw [(d_non hy hno).1, ← ha]) (by first | (rw [(d_one hy ho).2.1, ← hb]; first | rw [if_pos q142] | rw [if_neg q142]) | rw [(d_non hy hno).2.1, ← hb]) (by first | exact (d_one hy ho).2.2.symm | rw [(d_non hy hno).2.2, ← hd]) (by omega)) ⟨rfl, rfl, rfl, rfl, rfl, rfl, rfl, rfl, rfl, trivial⟩
          · have q133 := b2i_t q133
            have ho : okD M m q y := (ok_mid hy1 (by omega)).mpr q133
            refine g_iinc_10 X dX9_datesOf_136 rfl (fun v10_136 ev10_136 => ?_)
            subst v10_136
            refine g_iload X dX9_datesOf_139 rfl ?_
            refine g_iconst X dX9_datesOf_141 ?_
            refine g_icmp_ne (tgt := 150) X dX9_datesOf_142 (by decide) ⟨by omega, by omega⟩ (by decide) (fun q142 => ?_) (fun q142 => ?_)
            · refine g_iload X dX9_datesOf_150 rfl ?_
              refine g_istore_11 X dX9_datesOf_152 rfl (fun v11_152 ev11_152 => ?_)
              subst v11_152
              refine g_iload X dX9_datesOf_154 rfl ?_
              refine g_istore_12 X dX9_datesOf_156 rfl (fun v12_156 ev12_156 => ?_)
              subst v12_156
              refine g_iinc_13 X dX9_datesOf_158 rfl (fun v13_158 ev13_158 => ?_)
              subst v13_158
              refine g_goto (tgt := 113) X dX9_datesOf_161 (by decide) ?_
              exact g_sub (ih_113 _ _ _ _ (by omega) (by omega) (by first | rw [(d_one hy ho).1, ← ha] | rw [(d_non hy hno).1, ← ha]) (by first | (rw [(d_one hy ho).2.1, ← hb]; first | rw [if_pos q142] | rw [if_neg q142]) | rw [(d_non hy hno).2.1, ← hb]) (by first | exact (d_one hy ho).2.2.symm | rw [(d_non hy hno).2.2, ← hd]) (by omega)) ⟨rfl, rfl, rfl, rfl, rfl, rfl, rfl, rfl, rfl, trivial⟩
            · refine g_iload X dX9_datesOf_145 rfl ?_
              refine g_goto (tgt := 152) X dX9_datesOf_147 (by decide) ?_
              refine g_istore_11 X dX9_datesOf_152 rfl (fun v11_152 ev11_152 => ?_)
              subst v11_152
              refine g_iload X dX9_datesOf_154 rfl ?_
              refine g_istore_12 X dX9_datesOf_156 rfl (fun v12_156 ev12_156 => ?_)
              subst v12_156
              refine g_iinc_13 X dX9_datesOf_158 rfl (fun v13_158 ev13_158 => ?_)
              subst v13_158
              refine g_goto (tgt := 113) X dX9_datesOf_161 (by decide) ?_
              exact g_sub (ih_113 _ _ _ _ (by omega) (by omega) (by first | rw [(d_one hy ho).1, ← ha] | rw [(d_non hy hno).1, ← ha]) (by first | (rw [(d_one hy ho).2.1, ← hb]; first | rw [if_pos q142] | rw [if_neg q142]) | rw [(d_non hy hno).2.1, ← hb]) (by first | exact (d_one hy ho).2.2.symm | rw [(d_non hy hno).2.2, ← hd]) (by omega)) ⟨rfl, rfl, rfl, rfl, rfl, rfl, rfl, rfl, rfl, trivial⟩
    exact g_sub (L_113 _ _ _ _ _ (by unfold frS; split <;> omega) (by left; unfold frS; split <;> omega) ((d_beg1 (by unfold frS; split <;> omega) hyf).1) ((d_beg1 (by unfold frS; split <;> omega) hyf).2.1) ((d_beg1 (by unfold frS; split <;> omega) hyf).2.2) (Nat.lt_succ_self _)) ⟨rfl, rfl, rfl, rfl, rfl, rfl, rfl, rfl, rfl, trivial⟩
  · have q51 := b2i_t q51
    refine g_iload X dX9_datesOf_54 rfl ?_
    refine g_aload_n X dX9_datesOf_56 rfl rfl ?_
    refine g_getr (r := 15) X kd_0 fc8 (k := 5) (by decide) rfl wd_308 rfl (by decide) dX9_datesOf_57 ?_
    refine g_aload X dX9_datesOf_60 rfl ?_
    refine g_iconst X dX9_datesOf_62 ?_
    refine g_iald X kr_8_5 (by decide) (by decide) dX9_datesOf_63 ?_
    have w6 := w4.2 (M 124 (6 * q + 5)) (by omega) (by omega)
    refine g_teq (b := M 124 (6 * q + 5)) (by exact hV.fa h0 h1 (by decide) (by decide)) ?_
    refine g_iald X kd_15 (by omega) (by omega) dX9_datesOf_64 ?_
    refine g_teq (b := M 122 (M 124 (6 * q + 5))) (by exact (hV.pr (by omega) (by omega)).1) ?_
    refine g_mmax X wd_558 wd_559 wd_80 wd_560 ⟨by omega, by omega⟩ ⟨by omega, by omega⟩ rfl ⟨by decide, by decide⟩ (Nat.le_of_ble_eq_true rfl) dX9_datesOf_65 ?_
    refine g_istore_5 X dX9_datesOf_68 rfl (fun v5_68 ev5_68 => ?_)
    subst v5_68
    refine g_aload_n X dX9_datesOf_70 rfl rfl ?_
    refine g_iload_n X dX9_datesOf_71 rfl rfl ?_
    refine g_iload_n X dX9_datesOf_72 rfl rfl ?_
    refine g_callVI X (c_X9_valueOf lL tT dD al _ _ _ hV hm0 hm1 h0 h1) kd_0 fc8 lk_RX9_163 rfl rfl ⟨by decide, by decide⟩ rfl (Nat.le_of_ble_eq_true rfl) dX9_datesOf_73 (fun r73 M73 hc73 => ?_)
    obtain ⟨hr73, hm73⟩ := hc73
    subst r73
    subst M73
    refine g_istore_7 X dX9_datesOf_76 rfl (fun v7_76 ev7_76 => ?_)
    subst v7_76
    refine g_aload_n X dX9_datesOf_78 rfl rfl ?_
    refine g_getr (r := 22) X kd_0 fc8 (k := 8) (by decide) rfl wd_311 rfl (by decide) dX9_datesOf_79 ?_
    refine g_iload X dX9_datesOf_82 rfl ?_
    refine g_callVI X (c_X2_lowest lL tT dD al _ _ hV (by omega)) kd_22 fc2 lk_RX9_258 rfl rfl ⟨by decide, by decide⟩ rfl (Nat.le_of_ble_eq_true rfl) dX9_datesOf_84 (fun r84 M84 hc84 => ?_)
    obtain ⟨hr84, hm84⟩ := hc84
    subst r84
    subst M84
    refine g_istore_8 X dX9_datesOf_87 rfl (fun v8_87 ev8_87 => ?_)
    subst v8_87
    refine g_aload_n X dX9_datesOf_89 rfl rfl ?_
    refine g_getr (r := 22) X kd_0 fc8 (k := 8) (by decide) rfl wd_311 rfl (by decide) dX9_datesOf_90 ?_
    refine g_iload X dX9_datesOf_93 rfl ?_
    refine g_callVI X (c_X2_highest lL tT dD al _ _ hV (by omega)) kd_22 fc2 lk_RX9_261 rfl rfl ⟨by decide, by decide⟩ rfl (Nat.le_of_ble_eq_true rfl) dX9_datesOf_95 (fun r95 M95 hc95 => ?_)
    obtain ⟨hr95, hm95⟩ := hc95
    subst r95
    subst M95
    refine g_istore_9 X dX9_datesOf_98 rfl (fun v9_98 ev9_98 => ?_)
    subst v9_98
    refine g_iconst X dX9_datesOf_100 ?_
    refine g_istore_10 X dX9_datesOf_101 rfl (fun v10_101 ev10_101 => ?_)
    subst v10_101
    refine g_iconst X dX9_datesOf_103 ?_
    refine g_istore_11 X dX9_datesOf_104 rfl (fun v11_104 ev11_104 => ?_)
    subst v11_104
    refine g_iconst X dX9_datesOf_106 ?_
    refine g_istore_12 X dX9_datesOf_107 rfl (fun v12_107 ev12_107 => ?_)
    subst v12_107
    refine g_iload X dX9_datesOf_109 rfl ?_
    refine g_istore_13 X dX9_datesOf_111 rfl (fun v13_111 ev13_111 => ?_)
    subst v13_111
    have L_113 : ∀ (n : Nat) (a : Int) (b : Int) (u : Int) (y : Int), (frS M q ≤ y) → (y = frS M q ∨ y ≤ toS M q + 1) → (a = dN M m q (y - yr0 M q).toNat) → (b = dF M m q (y - yr0 M q).toNat) → (u = dL M m q (y - yr0 M q).toNat) → (401 - y).toNat < n → Gd pP lL eE (rmN 3 75) sS mI aA bB mM cC 0 0 Q tT dD al (fA al) 113 [some (.ref (al 0)), none, none, some (.int (iN z)), none, none, some (.int (iN (min 400 ((M 124 (6 * q + 2)) + (M 124 (6 * q + 3)))))), none, some (.int (iN (clsS M ((vlu M m q) - M 114 19)))), some (.int (iN (clsS M ((vlu M m q) + M 114 19)))), some (.int (iN a)), some (.int (iN b)), some (.int (iN u)), some (.int (iN y))] [] M := by
      intro n
      induction n with
      | zero => intro a b u y hy1 hy3 ha hb hd hm; exact absurd hm (Nat.not_lt_zero _)
      | succ n ih =>
        intro a b u y hy1 hy3 ha hb hd hm
        have hy : yr0 M q ≤ y := by omega
        have r1 := dF_iff M m q (y - yr0 M q).toNat
        rw [← hb, ← hd] at r1
        have ih_113 := ih
        clear ih
        refine g_iload X dX9_datesOf_113 rfl ?_
        refine g_iload X dX9_datesOf_115 rfl ?_
        refine g_icmp_gt (tgt := 164) X dX9_datesOf_117 (by decide) ⟨by omega, by omega⟩ ⟨by omega, by omega⟩ (fun q117 => ?_) (fun q117 => ?_)
        · refine g_iload_n X dX9_datesOf_164 rfl rfl ?_
          refine g_if_ne (tgt := 171) X dX9_datesOf_165 (by decide) ⟨by omega, by omega⟩ (fun q165 => ?_) (fun q165 => ?_)
          · refine g_iload_n X dX9_datesOf_171 rfl rfl ?_
            refine g_iconst X dX9_datesOf_172 ?_
            refine g_icmp_ne (tgt := 181) X dX9_datesOf_173 (by decide) ⟨by omega, by omega⟩ (by decide) (fun q173 => ?_) (fun q173 => ?_)
            · refine g_iload X dX9_datesOf_181 rfl ?_
              rw [hQ]
              refine g_iret X hr hlk dX9_datesOf_183 ?_
              have w := d_end (m := m) (by omega) hyf hy1 (by omega) hy3 ha hb hd
              exact ⟨by first | (rw [if_pos (by omega)]; exact w.1) | (rw [if_neg (by omega), if_pos (by omega)]; exact w.2.1) | (rw [if_neg (by omega), if_neg (by omega)]; exact w.2.2), rfl⟩
            · refine g_iload X dX9_datesOf_176 rfl ?_
              refine g_goto (tgt := 183) X dX9_datesOf_178 (by decide) ?_
              rw [hQ]
              refine g_iret X hr hlk dX9_datesOf_183 ?_
              have w := d_end (m := m) (by omega) hyf hy1 (by omega) hy3 ha hb hd
              exact ⟨by first | (rw [if_pos (by omega)]; exact w.1) | (rw [if_neg (by omega), if_pos (by omega)]; exact w.2.1) | (rw [if_neg (by omega), if_neg (by omega)]; exact w.2.2), rfl⟩
          · refine g_iload X dX9_datesOf_168 rfl ?_
            rw [hQ]
            refine g_iret X hr hlk dX9_datesOf_170 ?_
            have w := d_end (m := m) (by omega) hyf hy1 (by omega) hy3 ha hb hd
            exact ⟨by first | (rw [if_pos (by omega)]; exact w.1) | (rw [if_neg (by omega), if_pos (by omega)]; exact w.2.1) | (rw [if_neg (by omega), if_neg (by omega)]; exact w.2.2), rfl⟩
        · refine g_aload_n X dX9_datesOf_120 rfl rfl ?_
          refine g_getr (r := 24) X kd_0 fc8 (k := 9) (by decide) rfl wd_312 rfl (by decide) dX9_datesOf_121 ?_
          refine g_iload X dX9_datesOf_124 rfl ?_
          refine g_iload X dX9_datesOf_126 rfl ?_
          refine g_iload X dX9_datesOf_128 rfl ?_
          refine g_callVI X (c_X8_iceAllows lL tT dD al _ _ _ _ hV (by omega) ⟨by omega, by omega⟩ ⟨by omega, by omega⟩) kd_24 fc7 lk_RX9_329 rfl rfl ⟨by decide, by decide⟩ rfl (Nat.le_of_ble_eq_true rfl) dX9_datesOf_130 (fun r130 M130 hc130 => ?_)
          obtain ⟨hr130, hm130⟩ := hc130
          subst r130
          subst M130
          refine g_if_eq (tgt := 158) X dX9_datesOf_133 (by decide) (b2i_i32 _) (fun q133 => ?_) (fun q133 => ?_)
          · have q133 := b2i_f q133
            have hno : ¬ okD M m q y := fun w => q133 ((ok_mid hy1 (by omega)).mp w)
            refine g_iinc_13 X dX9_datesOf_158 rfl (fun v13_158 ev13_158 => ?_)
            subst v13_158
            refine g_goto (tgt := 113) X dX9_datesOf_161 (by decide) ?_
            exact g_sub (ih_113 _ _ _ _ (by omega) (by omega) (by first | rw [(d_one hy ho).1, ← ha] | rw [(d_non hy hno).1, ← ha]) (by first | (rw [(d_one hy ho).2.1, ← hb]; first | rw [if_pos q142] | rw [if_neg q142]) | rw [(d_non hy hno).2.1, ← hb]) (by first | exact (d_one hy ho).2.2.symm | rw [(d_non hy hno).2.2, ← hd]) (by omega)) ⟨rfl, rfl, rfl, rfl, rfl, rfl, rfl, rfl, rfl, trivial⟩
          · have q133 := b2i_t q133
            have ho : okD M m q y := (ok_mid hy1 (by omega)).mpr q133
            refine g_iinc_10 X dX9_datesOf_136 rfl (fun v10_136 ev10_136 => ?_)
            subst v10_136
            refine g_iload X dX9_datesOf_139 rfl ?_
            refine g_iconst X dX9_datesOf_141 ?_
            refine g_icmp_ne (tgt := 150) X dX9_datesOf_142 (by decide) ⟨by omega, by omega⟩ (by decide) (fun q142 => ?_) (fun q142 => ?_)
            · refine g_iload X dX9_datesOf_150 rfl ?_
              refine g_istore_11 X dX9_datesOf_152 rfl (fun v11_152 ev11_152 => ?_)
              subst v11_152
              refine g_iload X dX9_datesOf_154 rfl ?_
              refine g_istore_12 X dX9_datesOf_156 rfl (fun v12_156 ev12_156 => ?_)
              subst v12_156
              refine g_iinc_13 X dX9_datesOf_158 rfl (fun v13_158 ev13_158 => ?_)
              subst v13_158
              refine g_goto (tgt := 113) X dX9_datesOf_161 (by decide) ?_
              exact g_sub (ih_113 _ _ _ _ (by omega) (by omega) (by first | rw [(d_one hy ho).1, ← ha] | rw [(d_non hy hno).1, ← ha]) (by first | (rw [(d_one hy ho).2.1, ← hb]; first | rw [if_pos q142] | rw [if_neg q142]) | rw [(d_non hy hno).2.1, ← hb]) (by first | exact (d_one hy ho).2.2.symm | rw [(d_non hy hno).2.2, ← hd]) (by omega)) ⟨rfl, rfl, rfl, rfl, rfl, rfl, rfl, rfl, rfl, trivial⟩
            · refine g_iload X dX9_datesOf_145 rfl ?_
              refine g_goto (tgt := 152) X dX9_datesOf_147 (by decide) ?_
              refine g_istore_11 X dX9_datesOf_152 rfl (fun v11_152 ev11_152 => ?_)
              subst v11_152
              refine g_iload X dX9_datesOf_154 rfl ?_
              refine g_istore_12 X dX9_datesOf_156 rfl (fun v12_156 ev12_156 => ?_)
              subst v12_156
              refine g_iinc_13 X dX9_datesOf_158 rfl (fun v13_158 ev13_158 => ?_)
              subst v13_158
              refine g_goto (tgt := 113) X dX9_datesOf_161 (by decide) ?_
              exact g_sub (ih_113 _ _ _ _ (by omega) (by omega) (by first | rw [(d_one hy ho).1, ← ha] | rw [(d_non hy hno).1, ← ha]) (by first | (rw [(d_one hy ho).2.1, ← hb]; first | rw [if_pos q142] | rw [if_neg q142]) | rw [(d_non hy hno).2.1, ← hb]) (by first | exact (d_one hy ho).2.2.symm | rw [(d_non hy hno).2.2, ← hd]) (by omega)) ⟨rfl, rfl, rfl, rfl, rfl, rfl, rfl, rfl, rfl, trivial⟩
    exact g_sub (L_113 _ _ _ _ _ (by unfold frS; split <;> omega) (by left; unfold frS; split <;> omega) ((d_beg1 (by unfold frS; split <;> omega) hyf).1) ((d_beg1 (by unfold frS; split <;> omega) hyf).2.1) ((d_beg1 (by unfold frS; split <;> omega) hyf).2.2) (Nat.lt_succ_self _)) ⟨rfl, rfl, rfl, rfl, rfl, rfl, rfl, rfl, rfl, trivial⟩
set_option maxRecDepth 100000 in
set_option maxHeartbeats 4000000 in
theorem c_X9_dateless (lL : Launch) (tT : TT) (dD : va_G) (al : Int → Nat) (M : Mem) (m : Int) (hV : IV M) (hm0 : 0 ≤ m) (hm1 : m < M 114 15) : CI lL yX9_dateless cX9_dateless 4 FieldType.int 4 108 tT dD al [.ref (al 0), .int (iN m)] M (fun r M' => r = wrS M m (M 114 23).toNat ∧ M' = M) := by
  refine CI.of (own := "RedSkies") (ls0 := [some (.ref (al 0)), some (.int (iN m)), none, none]) (by decide +kernel) rfl (Nat.le_of_ble_eq_true rfl) rfl ?_
  intro pP eE sS mI aA bB mM cC X hr hlk
  obtain ⟨Q, hQ⟩ : ∃ Q : State → Prop, Q = MQ bB (QI tT dD al (fun r M' => r = wrS M m (M 114 23).toNat ∧ M' = M)) aA sS 0 0 (fA al) := ⟨_, rfl⟩
  rw [← hQ]
  have hW := hV.w
  have w2 := hW.n
  have n1 := hV.hn
  have c0 : ∀ i : Int, ¬ dN M m i (nY M i) = 0 → (fun p : Int => if dN M m p (nY M p) = 0 then (2 : Int) ^ p.toNat else 0) i = 0 := fun i h => if_neg h
  have c1 : ∀ i : Int, dN M m i (nY M i) = 0 → (fun p : Int => if dN M m p (nY M p) = 0 then (2 : Int) ^ p.toNat else 0) i = 2 ^ i.toNat := fun i h => if_pos h
  refine g_iconst X dX9_dateless_0 ?_
  refine g_istore_n_2 X dX9_dateless_1 rfl rfl (fun v2_1 ev2_1 => ?_)
  subst v2_1
  refine g_iconst X dX9_dateless_2 ?_
  refine g_istore_n_3 X dX9_dateless_3 rfl rfl (fun v3_3 ev3_3 => ?_)
  subst v3_3
  have L_4 : ∀ (n : Nat) (b : Int) (k : Int), (0 ≤ k) → (k ≤ M 114 23) → (b = wrS M m k.toNat) → (16 - k).toNat < n → Gd pP lL eE (rmN 4 108) sS mI aA bB mM cC 0 0 Q tT dD al (fA al) 4 [some (.ref (al 0)), some (.int (iN m)), some (.int (iN b)), some (.int (iN k))] [] M := by
    intro n
    induction n with
    | zero => intro b k hk hk2 hb hm; exact absurd hm (Nat.not_lt_zero _)
    | succ n ih =>
      intro b k hk hk2 hb hm
      have ih_4 := ih
      clear ih
      refine g_iload_n X dX9_dateless_4 rfl rfl ?_
      refine g_aload_n X dX9_dateless_5 rfl rfl ?_
      refine g_getr (r := 24) X kd_0 fc8 (k := 9) (by decide) rfl wd_312 rfl (by decide) dX9_dateless_6 ?_
      refine g_geti (kz := 5) X kd_24 fc7 (k := 5) (by decide) rfl wd_228 rfl dX9_dateless_9 ?_
      refine g_icmp_ge (tgt := 37) X dX9_dateless_12 (by decide) ⟨by omega, by omega⟩ ⟨by omega, by omega⟩ (fun q12 => ?_) (fun q12 => ?_)
      · refine g_iload_n X dX9_dateless_37 rfl rfl ?_
        rw [hQ]
        refine g_iret X hr hlk dX9_dateless_38 ?_
        obtain rfl : k = M 114 23 := by omega
        exact ⟨hb, rfl⟩
      · refine g_aload_n X dX9_dateless_15 rfl rfl ?_
        refine g_iload_n X dX9_dateless_16 rfl rfl ?_
        refine g_iload_n X dX9_dateless_17 rfl rfl ?_
        refine g_iconst X dX9_dateless_18 ?_
        refine g_callVI X (c_X9_datesOf lL tT dD al _ _ _ _ hV hm0 hm1 hk (by omega) (by decide)) kd_0 fc8 lk_RX9_278 rfl rfl ⟨by decide, by decide⟩ rfl (Nat.le_of_ble_eq_true rfl) dX9_dateless_19 (fun r19 M19 hc19 => ?_)
        obtain ⟨hr19, hm19⟩ := hc19
        subst r19
        subst M19
        have w9 := dN_rng M m k (nY M k)
        have w8 := nY_rng hW hk (by omega)
        refine g_teq (b := dN M m k (nY M k)) (by exact if_pos rfl) ?_
        refine g_if_ne (tgt := 31) X dX9_dateless_22 (by decide) ⟨by omega, by omega⟩ (fun q22 => ?_) (fun q22 => ?_)
        · refine g_iinc_3 X dX9_dateless_31 rfl (fun v3_31 ev3_31 => ?_)
          subst v3_31
          refine g_goto (tgt := 4) X dX9_dateless_34 (by decide) ?_
          exact g_sub (ih_4 _ _ (by omega) (by omega) (by first | (rw [hb]; exact or_acc c0 c1 hk (by omega) q22) | (rw [hb]; exact sm_skip hk (c0 k q22))) (by omega)) ⟨rfl, rfl, rfl, rfl, trivial⟩
        · refine g_iload_n X dX9_dateless_25 rfl rfl ?_
          refine g_iconst X dX9_dateless_26 ?_
          refine g_iload_n X dX9_dateless_27 rfl rfl ?_
          refine g_ishl X dX9_dateless_28 ?_
          refine g_ior X dX9_dateless_29 ?_
          refine g_istore_n_2 X dX9_dateless_30 rfl rfl (fun v2_30 ev2_30 => ?_)
          subst v2_30
          refine g_iinc_3 X dX9_dateless_31 rfl (fun v3_31 ev3_31 => ?_)
          subst v3_31
          refine g_goto (tgt := 4) X dX9_dateless_34 (by decide) ?_
          exact g_sub (ih_4 _ _ (by omega) (by omega) (by first | (rw [hb]; exact or_acc c0 c1 hk (by omega) q22) | (rw [hb]; exact sm_skip hk (c0 k q22))) (by omega)) ⟨rfl, rfl, rfl, rfl, trivial⟩
  exact g_sub (L_4 _ _ _ (by omega) (by omega) (rfl) (Nat.lt_succ_self _)) ⟨rfl, rfl, rfl, rfl, trivial⟩
set_option maxRecDepth 100000 in
set_option maxHeartbeats 4000000 in
theorem c_X9_layOut (lL : Launch) (tT : TT) (dD : va_G) (al : Int → Nat) (M : Mem) (m : Int) (hV : IV M) (hm0 : 0 ≤ m) (hm1 : m < M 114 15) : CV lL yX9_layOut cX9_layOut 3 3 75 tT dD al [.ref (al 0), .int (iN m)] M (fun M' => LO M M' m (M 114 23)) := by
  refine CV.of (own := "RedSkies") (ls0 := [some (.ref (al 0)), some (.int (iN m)), none]) (by decide +kernel) rfl (Nat.le_of_ble_eq_true rfl) rfl ?_
  intro pP eE sS mI aA bB mM cC X hr hlk
  obtain ⟨Q, hQ⟩ : ∃ Q : State → Prop, Q = MQ bB (QV tT dD al (fun M' => LO M M' m (M 114 23))) aA sS 0 0 (fA al) := ⟨_, rfl⟩
  rw [← hQ]
  have hW := hV.w
  have w2 := hW.n
  have n1 := hV.hn
  refine g_iconst X dX9_layOut_0 ?_
  refine g_istore_n_2 X dX9_layOut_1 rfl rfl (fun v2_1 ev2_1 => ?_)
  subst v2_1
  have L_2 : ∀ (n : Nat) (k : Int) (M1 : Mem), (0 ≤ k) → (k ≤ M 114 23) → (LO M M1 m k) → (16 - k).toNat < n → Gd pP lL eE (rmN 3 75) sS mI aA bB mM cC 0 0 Q tT dD al (fA al) 2 [some (.ref (al 0)), some (.int (iN m)), some (.int (iN k))] [] M1 := by
    intro n
    induction n with
    | zero => intro k M1 hk hk2 hL hm; exact absurd hm (Nat.not_lt_zero _)
    | succ n ih =>
      intro k M1 hk hk2 hL hm
      have hV1 := hL.1.iv hV
      have n2 := hV1.hn
      have e23 : M1 114 23 = M 114 23 := hL.1.eq.fld (by decide)
      have e15 : M1 114 15 = M 114 15 := hL.1.eq.fld (by decide)
      have ih_2 := ih
      clear ih
      refine g_iload_n X dX9_layOut_2 rfl rfl ?_
      refine g_aload_n X dX9_layOut_3 rfl rfl ?_
      refine g_getr (r := 24) X kd_0 fc8 (k := 9) (by decide) rfl wd_312 rfl (by decide) dX9_layOut_4 ?_
      refine g_geti (kz := 5) X kd_24 fc7 (k := 5) (by decide) rfl wd_228 rfl dX9_layOut_7 ?_
      refine g_icmp_ge (tgt := 54) X dX9_layOut_10 (by decide) ⟨by omega, by omega⟩ ⟨by omega, by omega⟩ (fun q10 => ?_) (fun q10 => ?_)
      · rw [hQ]
        refine g_vret X hr hlk dX9_layOut_54 ?_
        obtain rfl : k = M 114 23 := by omega
        exact hL
      · refine g_aload_n X dX9_layOut_13 rfl rfl ?_
        refine g_getr (r := 100) X kd_0 fc8 (k := 11) (by decide) rfl wd_314 rfl (by decide) dX9_layOut_14 ?_
        refine g_getr (r := 101) X kd_100 fc0 (k := 0) (by decide) rfl wd_258 rfl (by decide) dX9_layOut_17 ?_
        refine g_iload_n X dX9_layOut_20 rfl rfl ?_
        refine g_aload_n X dX9_layOut_21 rfl rfl ?_
        refine g_getr (r := 24) X kd_0 fc8 (k := 9) (by decide) rfl wd_312 rfl (by decide) dX9_layOut_22 ?_
        refine g_getr (r := 25) X kd_24 fc7 (k := 0) (by decide) rfl wd_217 rfl (by decide) dX9_layOut_25 ?_
        refine g_iload_n X dX9_layOut_28 rfl rfl ?_
        have b0_29_17 : 0 ≤ k := by omega
        have b1_29_17 : k < 16 := by omega
        refine g_aald X kd_25 (bz := 26) rfl b0_29_17 b1_29_17 dX9_layOut_29 ?_
        have kr_29_17 := kr_26 b0_29_17 b1_29_17
        refine g_iconst X dX9_layOut_30 ?_
        refine g_iald X kr_29_17 (by decide) (by decide) dX9_layOut_31 ?_
        refine g_iast X kd_101 (by omega) (by omega) dX9_layOut_32 ?_
        refine g_aload_n X dX9_layOut_33 rfl rfl ?_
        refine g_getr (r := 100) X kd_0 fc8 (k := 11) (by decide) rfl wd_314 rfl (by decide) dX9_layOut_34 ?_
        refine g_getr (r := 102) X kd_100 fc0 (k := 1) (by decide) rfl wd_260 rfl (by decide) dX9_layOut_37 ?_
        refine g_iload_n X dX9_layOut_40 rfl rfl ?_
        refine g_aload_n X dX9_layOut_41 rfl rfl ?_
        refine g_iload_n X dX9_layOut_42 rfl rfl ?_
        refine g_iload_n X dX9_layOut_43 rfl rfl ?_
        have hX1 : XS M (mu M1 101 k (M1 (26 + k) 1)) := hL.1.pu _ (by omega)
        have hV2 := hX1.iv hV
        have f23 : (mu M1 101 k (M1 (26 + k) 1)) 114 23 = M 114 23 := hX1.eq.fld (by decide)
        have f15 : (mu M1 101 k (M1 (26 + k) 1)) 114 15 = M 114 15 := hX1.eq.fld (by decide)
        refine g_callVI X (c_X9_valueOf lL tT dD al _ _ _ hV2 hm0 (by omega) hk (by omega)) kd_0 fc8 lk_RX9_163 rfl rfl ⟨by decide, by decide⟩ rfl (Nat.le_of_ble_eq_true rfl) dX9_layOut_44 (fun r44 M44 hc44 => ?_)
        obtain ⟨hr44, hm44⟩ := hc44
        subst r44
        subst M44
        refine g_iast X kd_102 (by omega) (by omega) dX9_layOut_47 ?_
        refine g_iinc_2 X dX9_layOut_48 rfl (fun v2_48 ev2_48 => ?_)
        subst v2_48
        refine g_goto (tgt := 2) X dX9_layOut_51 (by decide) ?_
        exact g_sub (ih_2 _ _ (by omega) (by omega) (hL.go hk (by rw [hV1.fa hk (by omega) (by decide) (by decide), hL.1.eq.row (o := 124) (by omega)]; rfl) (by rw [hX1.eq.e_vlu])) (by omega)) ⟨rfl, rfl, rfl, trivial⟩
  exact g_sub (L_2 _ _ _ (by omega) (by omega) (⟨XS.rf M, fun p a b => by omega⟩) (Nat.lt_succ_self _)) ⟨rfl, rfl, rfl, trivial⟩
