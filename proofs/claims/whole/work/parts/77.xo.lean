set_option maxRecDepth 100000 in
set_option maxHeartbeats 4000000 in
theorem c_X0_deal (lL : Launch) (tT : TT) (dD : va_G) (al : Int → Nat) (M : Mem) (cb nb : Int) (hD : DK M cb nb) : CV lL yX0_deal cX0_deal 4 3 72 tT dD al [.ref (al 100), .int (iN cb), .int (iN nb)] M (DL M cb nb) := by
  refine CV.of (own := "RedSkies$Dealing") (ls0 := [some (.ref (al 100)), some (.int (iN cb)), some (.int (iN nb)), none]) (by decide +kernel) rfl (Nat.le_of_ble_eq_true rfl) rfl ?_
  intro pP eE sS mI aA bB mM cC X hr hlk
  obtain ⟨Q, hQ⟩ : ∃ Q : State → Prop, Q = MQ bB (QV tT dD al (DL M cb nb)) aA sS 0 0 (fA al) := ⟨_, rfl⟩
  rw [← hQ]
  have hst := stT_rng M cb nb
  obtain ⟨d1, d2, d3, d4⟩ := id hD
  refine g_aload_n X dX0_deal_0 rfl rfl ?_
  refine g_getr (r := 103) X kd_100 fc0 (k := 7) (by decide) rfl wd_271 rfl (by decide) dX0_deal_1 ?_
  refine g_iconst X dX0_deal_4 ?_
  have b0_5_4 : (0 : Int) ≤ 0 := by decide
  have b1_5_4 : (0 : Int) < 9 := by decide
  refine g_aald X kd_103 (bz := 104) rfl b0_5_4 b1_5_4 dX0_deal_5 ?_
  have kr_5_4 := kr_104 b0_5_4 b1_5_4
  refine g_iconst X dX0_deal_6 ?_
  refine g_callSV X (c_J7_fill_53178 lL tT dD al _ _ _ _ kr_5_4) lk_RX0_31 rfl rfl ⟨by decide, by decide⟩ rfl (Nat.le_of_ble_eq_true rfl) dX0_deal_7 (fun M7 hc7 => ?_)
  subst M7
  refine g_aload_n X dX0_deal_10 rfl rfl ?_
  refine g_getr (r := 103) X kd_100 fc0 (k := 7) (by decide) rfl wd_271 rfl (by decide) dX0_deal_11 ?_
  refine g_iconst X dX0_deal_14 ?_
  have b0_15_10 : (0 : Int) ≤ 0 := by decide
  have b1_15_10 : (0 : Int) < 9 := by decide
  refine g_aald X kd_103 (bz := 104) rfl b0_15_10 b1_15_10 dX0_deal_15 ?_
  have kr_15_10 := kr_104 b0_15_10 b1_15_10
  refine g_bipush X dX0_deal_16 (by decide +kernel) ?_
  refine g_iconst X dX0_deal_18 ?_
  refine g_iast X kr_15_10 (by decide) (by decide) dX0_deal_19 ?_
  refine g_aload_n X dX0_deal_20 rfl rfl ?_
  refine g_iconst X dX0_deal_21 ?_
  refine g_puti (kz := 8) X kd_100 fc0 (k := 8) (by decide) rfl wd_272 rfl rfl rfl dX0_deal_22 ?_
  refine g_aload_n X dX0_deal_25 rfl rfl ?_
  refine g_aload_n X dX0_deal_26 rfl rfl ?_
  refine g_iload_n X dX0_deal_27 rfl rfl ?_
  refine g_iload_n X dX0_deal_28 rfl rfl ?_
  refine g_callVI X (c_X0_pairs lL tT dD al _ _ _ (hD.cg rfl rfl)) kd_100 fc0 lk_RX0_41 rfl rfl ⟨by decide, by decide⟩ rfl (Nat.le_of_ble_eq_true rfl) dX0_deal_29 (fun r29 M29 hc29 => ?_)
  obtain ⟨hr29, hm29⟩ := hc29
  subst r29
  subst M29
  refine g_teq (b := stT M cb nb) (by rfl) ?_
  refine g_puti (kz := 2) X kd_100 fc0 (k := 2) (by decide) rfl wd_261 rfl rfl rfl dX0_deal_32 ?_
  refine g_iconst X dX0_deal_35 ?_
  refine g_istore_n_3 X dX0_deal_36 rfl rfl (fun v3_36 ev3_36 => ?_)
  subst v3_36
  have L_37 : ∀ (n : Nat) (h : Int) (M1 : Mem), (0 ≤ h) → (h ≤ 5) → (OF M M1) → (M1 100 8 = RT4 M cb nb h.toNat) → (M1 100 2 = stT M cb nb) → (DB M cb nb M1 h.toNat) → (5 - h).toNat < n → Gd pP lL eE (rmN 3 72) sS mI aA bB mM cC 0 0 Q tT dD al (fA al) 37 [some (.ref (al 100)), some (.int (iN cb)), some (.int (iN nb)), some (.int (iN h))] [] M1 := by
    intro n
    induction n with
    | zero => intro h M1 hh hh2 hO h8 h2 hB hm; exact absurd hm (Nat.not_lt_zero _)
    | succ n ih =>
      intro h M1 hh hh2 hO h8 h2 hB hm
      have h101 : M1 101 = M 101 := hO.row (by omega)
      have h102 : M1 102 = M 102 := hO.row (by omega)
      have hD1 := hD.cg h101 h102
      have ih_37 := ih
      clear ih
      refine g_iload_n X dX0_deal_37 rfl rfl ?_
      refine g_iconst X dX0_deal_38 ?_
      refine g_icmp_gt (tgt := 59) X dX0_deal_39 (by decide) ⟨by omega, by omega⟩ (by decide) (fun q39 => ?_) (fun q39 => ?_)
      · refine g_aload_n X dX0_deal_59 rfl rfl ?_
        refine g_lconst X (v := 0) dX0_deal_60 (by decide +kernel) ?_
        refine g_putl (kz := 3) X kd_100 fc0 (k := 3) (by decide) rfl wd_263 rfl rfl rfl dX0_deal_61 ?_
        refine g_aload_n X dX0_deal_64 rfl rfl ?_
        refine g_lconst X (v := 0) dX0_deal_65 (by decide +kernel) ?_
        refine g_putl (kz := 4) X kd_100 fc0 (k := 4) (by decide) rfl wd_265 rfl rfl rfl dX0_deal_66 ?_
        refine g_iconst X dX0_deal_69 ?_
        refine g_istore_n_3 X dX0_deal_70 rfl rfl (fun v3_70 ev3_70 => ?_)
        subst v3_70
        have L_71 : ∀ (n : Nat) (s : Int) (M2 : Mem), (0 ≤ s) → (s ≤ 129) → (OF M M2) → (M2 100 2 = stT M cb nb) → (DB M cb nb M2 5) → (M2 100 4 = sm (fun j => DT M cb nb 5 (j - 64)) s.toNat) → (M2 100 3 = sm (fun j => if stT M cb nb ≤ j - 64 then DT M cb nb 5 (j - 64) else 0) s.toNat) → (129 - s).toNat < n → Gd pP lL eE (rmN 3 72) sS mI aA bB mM cC 0 0 Q tT dD al (fA al) 71 [some (.ref (al 100)), none, none, some (.int (iN s))] [] M2 := by
          intro n
          induction n with
          | zero => intro s M2 hs hs2 hO2 g2 hB2 g4 g3 hm; exact absurd hm (Nat.not_lt_zero _)
          | succ n ih =>
            intro s M2 hs hs2 hO2 g2 hB2 g4 g3 hm
            have ih_71 := ih
            clear ih
            refine g_iload_n X dX0_deal_71 rfl rfl ?_
            refine g_sipush X dX0_deal_72 (by decide +kernel) ?_
            refine g_icmp_ge (tgt := 131) X dX0_deal_75 (by decide) ⟨by omega, by omega⟩ (by decide) (fun q75 => ?_) (fun q75 => ?_)
            · rw [hQ]
              refine g_vret X hr hlk dX0_deal_131 ?_
              obtain rfl : s = 129 := by omega
              exact ⟨hO2, g2, g3.trans (upT_e M cb nb).symm, g4.trans (lowT_e M cb nb).symm⟩
            · have rB := hB2 s hs (by omega)
              have rD := DT_rng M cb nb 5 (s - 64)
              refine g_aload_n X dX0_deal_78 rfl rfl ?_
              refine g_dup X dX0_deal_79 rfl ?_
              refine g_getl (kz := 4) X kd_100 fc0 (k := 4) (by decide) rfl wd_265 rfl dX0_deal_80 ?_
              refine g_aload_n X dX0_deal_83 rfl rfl ?_
              refine g_getr (r := 103) X kd_100 fc0 (k := 7) (by decide) rfl wd_271 rfl (by decide) dX0_deal_84 ?_
              refine g_iconst X dX0_deal_87 ?_
              have b0_88_46 : (0 : Int) ≤ 0 := by decide
              have b1_88_46 : (0 : Int) < 9 := by decide
              refine g_aald X kd_103 (bz := 104) rfl b0_88_46 b1_88_46 dX0_deal_88 ?_
              have kr_88_46 := kr_104 b0_88_46 b1_88_46
              refine g_iload_n X dX0_deal_89 rfl rfl ?_
              refine g_iald X kr_88_46 (by omega) (by omega) dX0_deal_90 ?_
              refine g_teq (b := DT M cb nb 5 (s - 64)) (by exact rB) ?_
              refine g_i2l X dX0_deal_91 ⟨by omega, by omega⟩ ?_
              refine g_ladd X dX0_deal_92 ?_
              refine g_putl (kz := 4) X kd_100 fc0 (k := 4) (by decide) rfl wd_265 rfl rfl rfl dX0_deal_93 ?_
              refine g_iload_n X dX0_deal_96 rfl rfl ?_
              refine g_bipush X dX0_deal_97 (by decide +kernel) ?_
              refine g_isub X dX0_deal_99 ?_
              refine g_aload_n X dX0_deal_100 rfl rfl ?_
              refine g_geti (kz := 2) X kd_100 fc0 (k := 2) (by decide) rfl wd_261 rfl dX0_deal_101 ?_
              refine g_teq (b := (M2 100 2)) (by first | (simp [mu]; done) | (simp only [mu]; repeat (first | rw [if_pos (⟨rfl, rfl⟩)] | rw [if_neg (by omega)]))) ?_
              refine g_icmp_lt (tgt := 125) X dX0_deal_104 (by decide) ⟨by omega, by omega⟩ ⟨by omega, by omega⟩ (fun q104 => ?_) (fun q104 => ?_)
              · refine g_iinc_3 X dX0_deal_125 trivial (fun v3_125 ev3_125 => ?_)
                subst v3_125
                refine g_goto (tgt := 71) X dX0_deal_128 (by decide) ?_
                exact g_sub (ih_71 _ _ (by omega) (by omega) (by first | exact (hO2.pu _ (by omega)).pu _ (by omega) | exact hO2.pu _ (by omega)) (g2) (hB2) (by rw [sm_s _ hs, ← g4]; rfl) (by first | (rw [sm_s _ hs, if_pos (by omega), ← g3]; rfl) | (rw [sm_s _ hs, if_neg (by omega), Int.add_zero]; exact g3)) (by omega)) ⟨rfl, rfl, trivial⟩
              · refine g_aload_n X dX0_deal_107 rfl rfl ?_
                refine g_dup X dX0_deal_108 rfl ?_
                refine g_getl (kz := 3) X kd_100 fc0 (k := 3) (by decide) rfl wd_263 rfl dX0_deal_109 ?_
                refine g_teql (b := (M2 100 3)) (by first | (simp [mu]; done) | (simp only [mu]; repeat (first | rw [if_pos (⟨rfl, rfl⟩)] | rw [if_neg (by omega)]))) ?_
                refine g_aload_n X dX0_deal_112 rfl rfl ?_
                refine g_getr (r := 103) X kd_100 fc0 (k := 7) (by decide) rfl wd_271 rfl (by decide) dX0_deal_113 ?_
                refine g_iconst X dX0_deal_116 ?_
                have b0_117_67 : (0 : Int) ≤ 0 := by decide
                have b1_117_67 : (0 : Int) < 9 := by decide
                refine g_aald X kd_103 (bz := 104) rfl b0_117_67 b1_117_67 dX0_deal_117 ?_
                have kr_117_67 := kr_104 b0_117_67 b1_117_67
                refine g_iload_n X dX0_deal_118 rfl rfl ?_
                refine g_iald X kr_117_67 (by omega) (by omega) dX0_deal_119 ?_
                refine g_teq (b := DT M cb nb 5 (s - 64)) (by exact rB) ?_
                refine g_i2l X dX0_deal_120 ⟨by omega, by omega⟩ ?_
                refine g_ladd X dX0_deal_121 ?_
                refine g_putl (kz := 3) X kd_100 fc0 (k := 3) (by decide) rfl wd_263 rfl rfl rfl dX0_deal_122 ?_
                refine g_iinc_3 X dX0_deal_125 trivial (fun v3_125 ev3_125 => ?_)
                subst v3_125
                refine g_goto (tgt := 71) X dX0_deal_128 (by decide) ?_
                exact g_sub (ih_71 _ _ (by omega) (by omega) (by first | exact (hO2.pu _ (by omega)).pu _ (by omega) | exact hO2.pu _ (by omega)) (g2) (hB2) (by rw [sm_s _ hs, ← g4]; rfl) (by first | (rw [sm_s _ hs, if_pos (by omega), ← g3]; rfl) | (rw [sm_s _ hs, if_neg (by omega), Int.add_zero]; exact g3)) (by omega)) ⟨rfl, rfl, trivial⟩
        exact g_sub (L_71 _ _ _ (by omega) (by omega) ((hO.pu 0 (by omega)).pu 0 (by omega)) (h2) (by obtain rfl : h = 5 := (by omega); exact hB) (rfl) (rfl) (Nat.lt_succ_self _)) ⟨rfl, rfl, trivial⟩
      · refine g_aload_n X dX0_deal_42 rfl rfl ?_
        refine g_aload_n X dX0_deal_43 rfl rfl ?_
        refine g_iload_n X dX0_deal_44 rfl rfl ?_
        refine g_iload_n X dX0_deal_45 rfl rfl ?_
        refine g_callVI X (c_X0_ofHand lL tT dD al _ _ _ (by omega) d1 (fun j a b c => by rw [h101]; exact (d3 j a b c).1)) kd_100 fc0 lk_RX0_47 rfl rfl ⟨by decide, by decide⟩ rfl (Nat.le_of_ble_eq_true rfl) dX0_deal_46 (fun r46 M46 hc46 => ?_)
        obtain ⟨hr46, hm46⟩ := hc46
        subst r46
        subst M46
        refine g_iload_n X dX0_deal_49 rfl rfl ?_
        refine g_callVV X (c_X0_dealHand lL tT dD al _ _ _ _ _ hD1 (MB.ofI _ _ hh) (by rw [h8]; exact (RT_cg h101 cb nb _).symm) (fun s a b => by rw [hB s a b]; exact (DT_cg h101 h102 cb nb _ _).symm)) kd_100 fc0 lk_RX0_50 rfl rfl ⟨by decide, by decide⟩ rfl (Nat.le_of_ble_eq_true rfl) dX0_deal_50 (fun M50 hc50 => ?_)
        refine g_iinc_3 X dX0_deal_53 rfl (fun v3_53 ev3_53 => ?_)
        subst v3_53
        refine g_goto (tgt := 37) X dX0_deal_56 (by decide) ?_
        exact g_sub (ih_37 _ _ (by omega) (by omega) (hO.tr hc50.1.of) (by rw [hc50.2.1, toN_s hh]; exact RT_cg h101 cb nb _) (by rw [hc50.1 100 2 (by omega)]; exact h2) (fun s a b => by rw [hc50.2.2 s a b, toN_s hh]; exact DT_cg h101 h102 cb nb _ _) (by omega)) ⟨rfl, rfl, rfl, rfl, trivial⟩
  exact g_sub (L_37 _ _ _ (by omega) (by omega) (OF.st M _ _) (rfl) (rfl) (DB.st M cb nb _ _) (Nat.lt_succ_self _)) ⟨rfl, rfl, rfl, rfl, trivial⟩
