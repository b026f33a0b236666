set_option maxRecDepth 100000 in
set_option maxHeartbeats 4000000 in
theorem c_X0_dealHand (lL : Launch) (tT : TT) (dD : va_G) (al : Int → Nat) (M : Mem) (mem nb cb : Int) (g : Nat) (hD : DK M cb nb) (hM : MB M cb mem g) (hr8 : M 100 8 = RT4 M cb nb g) (hB : ∀ s, 0 ≤ s → s < 129 → M 104 s = DT M cb nb g (s - 64)) : CV lL yX0_dealHand cX0_dealHand 8 2 45 tT dD al [.ref (al 100), .int (iN mem), .int (iN nb)] M (fun M' => HF M M' ∧ M' 100 8 = RT4 M cb nb (g + 1) ∧ ∀ s, 0 ≤ s → s < 129 → M' 104 s = DT M cb nb (g + 1) (s - 64)) := by
  refine CV.of (own := "RedSkies$Dealing") (ls0 := [some (.ref (al 100)), some (.int (iN mem)), some (.int (iN nb)), none, none, none, none, none]) (by decide +kernel) rfl (Nat.le_of_ble_eq_true rfl) rfl ?_
  intro pP eE sS mI aA bB mM cC X hr hlk
  obtain ⟨Q, hQ⟩ : ∃ Q : State → Prop, Q = MQ bB (QV tT dD al (fun M' => HF M M' ∧ M' 100 8 = RT4 M cb nb (g + 1) ∧ ∀ s, 0 ≤ s → s < 129 → M' 104 s = DT M cb nb (g + 1) (s - 64))) aA sS 0 0 (fA al) := ⟨_, rfl⟩
  rw [← hQ]
  obtain ⟨d1, d2, d3, d4⟩ := id hD
  have hmem := hM.1
  have hkc := kP_rng (bit cb) (M 101) (bit nb) g 16
  have hcr := cP_rng (bit cb) (M 101) g 16
  have hand := and_rng (b := nb) hM.1.1 hM.1.2 d2.1
  have hR1 : RT4 M cb nb (g + 1) = RT4 M cb nb g + (kP (bit cb) (M 101) (bit nb) g 16) * ((cP (bit cb) (M 101) g 16) - (kP (bit cb) (M 101) (bit nb) g 16)) := rfl
  have hR2 : 0 ≤ RT4 M cb nb g ∧ RT4 M cb nb g ≤ 64 := RS_64 _ _ _ (by decide) g
  have hR3 : 0 ≤ RT4 M cb nb (g + 1) ∧ RT4 M cb nb (g + 1) ≤ 64 := RS_64 _ _ _ (by decide) (g + 1)
  refine g_iload_n X dX0_dealHand_0 rfl rfl ?_
  refine g_callSI X (c_J6_bitCount_0f7a4 lL tT dD al _ _ hM.1.1 hM.1.2) lk_RX0_83 rfl rfl ⟨by decide, by decide⟩ rfl (Nat.le_of_ble_eq_true rfl) dX0_dealHand_1 (fun r1 M1 hc1 => ?_)
  obtain ⟨hr1, hm1⟩ := hc1
  subst r1
  subst M1
  refine g_teq (b := (cP (bit cb) (M 101) g 16)) (by exact hM.all) ?_
  refine g_istore_n_3 X dX0_dealHand_4 rfl rfl (fun v3_4 ev3_4 => ?_)
  subst v3_4
  refine g_iload_n X dX0_dealHand_5 rfl rfl ?_
  refine g_iload_n X dX0_dealHand_6 rfl rfl ?_
  refine g_iand X dX0_dealHand_7 ?_
  refine g_callSI X (c_J6_bitCount_0f7a4 lL tT dD al _ _ hand.1 (by omega)) lk_RX0_83 rfl rfl ⟨by decide, by decide⟩ rfl (Nat.le_of_ble_eq_true rfl) dX0_dealHand_8 (fun r8 M8 hc8 => ?_)
  obtain ⟨hr8, hm8⟩ := hc8
  subst r8
  subst M8
  refine g_teq (b := (kP (bit cb) (M 101) (bit nb) g 16)) (by exact hM.cho d2.1) ?_
  refine g_istore_4 X dX0_dealHand_11 rfl (fun v4_11 ev4_11 => ?_)
  subst v4_11
  refine g_iload X dX0_dealHand_13 rfl ?_
  refine g_iload_n X dX0_dealHand_15 rfl rfl ?_
  refine g_iload X dX0_dealHand_16 rfl ?_
  refine g_isub X dX0_dealHand_18 ?_
  refine g_mmin X wd_667 wd_556 wd_80 wd_557 ⟨by omega, by omega⟩ ⟨by omega, by omega⟩ rfl ⟨by decide, by decide⟩ (Nat.le_of_ble_eq_true rfl) dX0_dealHand_19 ?_
  refine g_istore_5 X dX0_dealHand_22 rfl (fun v5_22 ev5_22 => ?_)
  refine g_iload X dX0_dealHand_24 rfl ?_
  refine g_iload X dX0_dealHand_26 rfl ?_
  refine g_icmp_ne (tgt := 35) X dX0_dealHand_28 (by decide) ⟨by omega, by omega⟩ ⟨by omega, by omega⟩ (fun q28 => ?_) (fun q28 => ?_)
  · obtain ⟨sD, hsD⟩ : ∃ z : Int, z = -1 := ⟨-1, rfl⟩
    refine g_iconst X dX0_dealHand_35 ?_
    refine g_teq (b := sD) (by exact hsD.symm) ?_
    refine g_istore_6 X dX0_dealHand_36 rfl (fun v6_36 ev6_36 => ?_)
    subst v6_36
    have hside : (sD = 1 ∧ v5_22 = (kP (bit cb) (M 101) (bit nb) g 16)) ∨ (sD = -1 ∧ v5_22 = (cP (bit cb) (M 101) g 16) - (kP (bit cb) (M 101) (bit nb) g 16)) := by omega
    have hfe : v5_22 * ((cP (bit cb) (M 101) g 16) - v5_22) = (kP (bit cb) (M 101) (bit nb) g 16) * ((cP (bit cb) (M 101) g 16) - (kP (bit cb) (M 101) (bit nb) g 16)) := kf_eq (by omega)
    have hff : 2 * v5_22 ≤ (cP (bit cb) (M 101) g 16) := by omega
    have hsp : sD = 1 ∨ sD = -1 := by omega
    refine g_iload X dX0_dealHand_38 rfl ?_
    refine g_iconst X dX0_dealHand_40 ?_
    refine g_icmp_lt (tgt := 51) X dX0_dealHand_41 (by decide) ⟨by omega, by omega⟩ (by decide) (fun q41 => ?_) (fun q41 => ?_)
    · rw [hQ]
      refine g_vret X hr hlk dX0_dealHand_51 ?_
      first | (exfalso; omega) | exact ⟨HF.rf M, by rw [hR1, ← hfe, show v5_22 = 0 by omega, Int.zero_mul, Int.add_zero]; exact hr8, fun s a b => by rw [hB s a b]; exact (hand_same (f := v5_22) (by omega) (by omega) (s - 64)).symm⟩
    · refine g_iload X dX0_dealHand_44 rfl ?_
      refine g_bipush X dX0_dealHand_46 (by decide +kernel) ?_
      refine g_icmp_le (tgt := 52) X dX0_dealHand_48 (by decide) ⟨by omega, by omega⟩ (by decide) (fun q48 => ?_) (fun q48 => ?_)
      · refine g_iconst X dX0_dealHand_52 ?_
        refine g_istore_7 X dX0_dealHand_53 rfl (fun v7_53 ev7_53 => ?_)
        subst v7_53
        have L_55 : ∀ (n : Nat) (k : Int) (M1 : Mem), (1 ≤ k) → (k ≤ v5_22 + 1) → (ZR M M1 k) → (v5_22 + 1 - k).toNat < n → Gd pP lL eE (rmN 2 45) sS mI aA bB mM cC 0 0 Q tT dD al (fA al) 55 [some (.ref (al 100)), some (.int (iN mem)), none, some (.int (iN ((cP (bit cb) (M 101) g 16)))), none, some (.int (iN v5_22)), some (.int (iN (sD))), some (.int (iN k))] [] M1 := by
          intro n
          induction n with
          | zero => intro k M1 hk hk2 hZ hm; exact absurd hm (Nat.not_lt_zero _)
          | succ n ih =>
            intro k M1 hk hk2 hZ hm
            have ih_55 := ih
            clear ih
            refine g_iload X dX0_dealHand_55 rfl ?_
            refine g_iload X dX0_dealHand_57 rfl ?_
            refine g_icmp_gt (tgt := 79) X dX0_dealHand_59 (by decide) ⟨by omega, by omega⟩ ⟨by omega, by omega⟩ (fun q59 => ?_) (fun q59 => ?_)
            · refine g_aload_n X dX0_dealHand_79 rfl rfl ?_
              refine g_bipush X dX0_dealHand_80 (by decide +kernel) ?_
              refine g_aload_n X dX0_dealHand_82 rfl rfl ?_
              refine g_geti (kz := 8) X kd_100 fc0 (k := 8) (by decide) rfl wd_272 rfl dX0_dealHand_83 ?_
              refine g_iload X dX0_dealHand_86 rfl ?_
              refine g_iload_n X dX0_dealHand_88 rfl rfl ?_
              refine g_iload X dX0_dealHand_89 rfl ?_
              refine g_isub X dX0_dealHand_91 ?_
              refine g_imul X dX0_dealHand_92 ?_
              refine g_teq (b := (kP (bit cb) (M 101) (bit nb) g 16) * ((cP (bit cb) (M 101) g 16) - (kP (bit cb) (M 101) (bit nb) g 16))) (by exact hfe) ?_
              refine g_iadd X dX0_dealHand_93 ?_
              refine g_teq (b := RT4 M cb nb (g + 1)) (by rw [hZ.1 100 8 (by omega), hr8]; exact hR1.symm) ?_
              refine g_mmin X wd_667 wd_556 wd_80 wd_557 (by decide) ⟨by omega, by omega⟩ rfl ⟨by decide, by decide⟩ (Nat.le_of_ble_eq_true rfl) dX0_dealHand_94 ?_
              refine g_teq (b := RT4 M cb nb (g + 1)) (by omega) ?_
              refine g_puti (kz := 8) X kd_100 fc0 (k := 8) (by decide) rfl wd_272 rfl rfl rfl dX0_dealHand_97 ?_
              refine g_iconst X dX0_dealHand_100 ?_
              refine g_istore_7 X dX0_dealHand_101 rfl (fun v7_101 ev7_101 => ?_)
              subst v7_101
              have L_103 : ∀ (n : Nat) (q : Int) (M2 : Mem), (0 ≤ q) → (q ≤ 16) → (HF M M2) → (M2 100 8 = RT4 M cb nb (g + 1)) → (tbX M2 (FT M cb nb g sD q.toNat) v5_22) → (16 - q).toNat < n → Gd pP lL eE (rmN 2 45) sS mI aA bB mM cC 0 0 Q tT dD al (fA al) 103 [some (.ref (al 100)), some (.int (iN mem)), none, none, none, some (.int (iN v5_22)), some (.int (iN (sD))), some (.int (iN q))] [] M2 := by
                intro n
                induction n with
                | zero => intro q M2 hq hq2 hH h8 hX hm; exact absurd hm (Nat.not_lt_zero _)
                | succ n ih =>
                  intro q M2 hq hq2 hH h8 hX hm
                  have h101 : M2 101 = M 101 := hH.row (by omega)
                  have h102 : M2 102 = M 102 := hH.row (by omega)
                  have hmq : q < 16 → (bit mem q = 1 ↔ (bit cb q = 1 ∧ M 101 q = g)) := fun z => hM.2 q hq z
                  have ih_103 := ih
                  clear ih
                  refine g_iload X dX0_dealHand_103 rfl ?_
                  refine g_bipush X dX0_dealHand_105 (by decide +kernel) ?_
                  refine g_icmp_ge (tgt := 141) X dX0_dealHand_107 (by decide) ⟨by omega, by omega⟩ (by decide) (fun q107 => ?_) (fun q107 => ?_)
                  · refine g_aload_n X dX0_dealHand_141 rfl rfl ?_
                    refine g_getr (r := 103) X kd_100 fc0 (k := 7) (by decide) rfl wd_271 rfl (by decide) dX0_dealHand_142 ?_
                    refine g_iload X dX0_dealHand_145 rfl ?_
                    have b0_147_52 : 0 ≤ v5_22 := by omega
                    have b1_147_52 : v5_22 < 9 := by omega
                    refine g_aald X kd_103 (bz := 104) rfl b0_147_52 b1_147_52 dX0_dealHand_147 ?_
                    have kr_147_52 := kr_104 b0_147_52 b1_147_52
                    refine g_iconst X dX0_dealHand_148 ?_
                    refine g_aload_n X dX0_dealHand_149 rfl rfl ?_
                    refine g_getr (r := 103) X kd_100 fc0 (k := 7) (by decide) rfl wd_271 rfl (by decide) dX0_dealHand_150 ?_
                    refine g_iconst X dX0_dealHand_153 ?_
                    have b0_154_57 : (0 : Int) ≤ 0 := by decide
                    have b1_154_57 : (0 : Int) < 9 := by decide
                    refine g_aald X kd_103 (bz := 104) rfl b0_154_57 b1_154_57 dX0_dealHand_154 ?_
                    have kr_154_57 := kr_104 b0_154_57 b1_154_57
                    refine g_iconst X dX0_dealHand_155 ?_
                    refine g_sipush X dX0_dealHand_156 (by decide +kernel) ?_
                    refine g_copy X wd_672 wd_494 wd_493 wd_79 kr_147_52 kr_154_57 (by first | decide | omega) (by first | decide | omega) (by first | decide | omega) (by first | decide | omega) (by first | decide | omega) rfl ⟨by decide, by decide⟩ (Nat.le_of_ble_eq_true rfl) dX0_dealHand_159 ?_
                    rw [hQ]
                    refine g_vret X hr hlk dX0_dealHand_162 ?_
                    obtain rfl : q = 16 := by omega
                    refine ⟨fun o k n => ?_, ?_, hand_end hX (by omega) hside⟩
                    · show (if o = 104 + 0 ∧ 0 ≤ k ∧ k < 0 + 129 then M2 (104 + v5_22) (0 + (k - 0)) else M2 o k) = _
                      rw [if_neg (by omega)]; exact hH o k n
                    · exact h8
                  · refine g_iload_n X dX0_dealHand_110 rfl rfl ?_
                    refine g_iload X dX0_dealHand_111 rfl ?_
                    refine g_callSI X (c_X0_holds lL tT dD al _ _ _ hM.1 ⟨hq, by omega⟩) lk_RX0_23 rfl rfl ⟨by decide, by decide⟩ rfl (Nat.le_of_ble_eq_true rfl) dX0_dealHand_113 (fun r113 M113 hc113 => ?_)
                    obtain ⟨hr113, hm113⟩ := hc113
                    subst r113
                    subst M113
                    refine g_if_eq (tgt := 135) X dX0_dealHand_116 (by decide) (b2i_i32 _) (fun q116 => ?_) (fun q116 => ?_)
                    · have q116 := b2i_f q116
                      refine g_iinc_7 X dX0_dealHand_135 rfl (fun v7_135 ev7_135 => ?_)
                      subst v7_135
                      refine g_goto (tgt := 103) X dX0_dealHand_138 (by decide) ?_
                      exact g_sub (ih_103 _ _ (by omega) (by omega) (by first | exact hH | exact hH.tr hc132.1.hf) (by first | exact h8 | (rw [hc132.1 100 8 (by omega)]; exact h8)) (by first | exact tb_memI hq hc132.2 ((hmq (by omega)).mp q116) rfl | exact tb_noI hq hX (fun z => q116 ((hmq (by omega)).mpr z))) (by omega)) ⟨rfl, rfl, rfl, rfl, rfl, trivial⟩
                    · have q116 := b2i_t q116
                      have hagr := agP_rng (n := 16) (mb := bit cb) (hd := M 101) (vl := M 102) (i := q) hq (by omega)
                      have hown : -16 ≤ sD * (agP 16 (bit cb) (M 101) (M 102) q) ∧ sD * (agP 16 (bit cb) (M 101) (M 102) q) ≤ 16 := by rcases hsp with z | z <;> rw [z] <;> omega
                      refine g_aload_n X dX0_dealHand_119 rfl rfl ?_
                      refine g_iload X dX0_dealHand_120 rfl ?_
                      refine g_aload_n X dX0_dealHand_122 rfl rfl ?_
                      refine g_iload X dX0_dealHand_123 rfl ?_
                      refine g_iload_n X dX0_dealHand_125 rfl rfl ?_
                      refine g_callVI X (c_X0_against lL tT dD al _ _ _ hM.1 (fun j a b c => by rw [h101, h102]; exact d3 j a b ((hM.2 j a b).mp c).1) ⟨hq, by omega⟩ q116) kd_100 fc0 lk_RX0_27 rfl rfl ⟨by decide, by decide⟩ rfl (Nat.le_of_ble_eq_true rfl) dX0_dealHand_126 (fun r126 M126 hc126 => ?_)
                      obtain ⟨hr126, hm126⟩ := hc126
                      subst r126
                      subst M126
                      refine g_teq (b := agP 16 (bit cb) (M 101) (M 102) q) (by rw [h101, h102]; exact hM.ag hq (by omega) q116) ?_
                      refine g_imul X dX0_dealHand_129 ?_
                      refine g_iload X dX0_dealHand_130 rfl ?_
                      refine g_callVV X (c_X0_addToChoices lL tT dD al _ _ _ _ hown (by omega) (by rw [h8]; exact hR3) hX (fun k x => FT_rng M cb nb g sD (by omega) k x) (fun k x k0 k1 hx => FT_win (by omega) hsp hff (by rw [hfe, ← hR1]; exact Int.le_refl _) (by omega) (by rw [h8] at hx; exact hx))) kd_100 fc0 lk_RX0_92 rfl rfl ⟨by decide, by decide⟩ rfl (Nat.le_of_ble_eq_true rfl) dX0_dealHand_132 (fun M132 hc132 => ?_)
                      refine g_iinc_7 X dX0_dealHand_135 rfl (fun v7_135 ev7_135 => ?_)
                      subst v7_135
                      refine g_goto (tgt := 103) X dX0_dealHand_138 (by decide) ?_
                      exact g_sub (ih_103 _ _ (by omega) (by omega) (by first | exact hH | exact hH.tr hc132.1.hf) (by first | exact h8 | (rw [hc132.1 100 8 (by omega)]; exact h8)) (by first | exact tb_memI hq hc132.2 ((hmq (by omega)).mp q116) rfl | exact tb_noI hq hX (fun z => q116 ((hmq (by omega)).mpr z))) (by omega)) ⟨rfl, rfl, rfl, rfl, rfl, trivial⟩
              exact g_sub (L_103 _ _ _ (by omega) (by omega) (hZ.1.hf.mu8 _) (mu_same _ _ _ _) (tbX.af (tb_beg (fun s a b => by rw [hZ.2.1 s]; exact hB s a b) (fun j s a b c d => hZ.2.2 j s a (by omega) c d)) (fun j s a b c d => by rw [mu_o _ _ _ (by omega)])) (Nat.lt_succ_self _)) ⟨rfl, rfl, rfl, rfl, rfl, trivial⟩
            · refine g_aload_n X dX0_dealHand_62 rfl rfl ?_
              refine g_getr (r := 103) X kd_100 fc0 (k := 7) (by decide) rfl wd_271 rfl (by decide) dX0_dealHand_63 ?_
              refine g_iload X dX0_dealHand_66 rfl ?_
              have b0_68_84 : 0 ≤ k := by omega
              have b1_68_84 : k < 9 := by omega
              refine g_aald X kd_103 (bz := 104) rfl b0_68_84 b1_68_84 dX0_dealHand_68 ?_
              have kr_68_84 := kr_104 b0_68_84 b1_68_84
              refine g_iconst X dX0_dealHand_69 ?_
              refine g_callSV X (c_J7_fill_53178 lL tT dD al _ _ _ _ kr_68_84) lk_RX0_31 rfl rfl ⟨by decide, by decide⟩ rfl (Nat.le_of_ble_eq_true rfl) dX0_dealHand_70 (fun M70 hc70 => ?_)
              subst M70
              refine g_iinc_7 X dX0_dealHand_73 rfl (fun v7_73 ev7_73 => ?_)
              subst v7_73
              refine g_goto (tgt := 55) X dX0_dealHand_76 (by decide) ?_
              exact g_sub (ih_55 _ _ (by omega) (by omega) (hZ.go hk (by omega)) (by omega)) ⟨rfl, rfl, rfl, rfl, rfl, rfl, trivial⟩
        exact g_sub (L_55 _ _ _ (by omega) (by omega) (⟨AF.rf M, fun s => rfl, fun j s a b => by omega⟩) (Nat.lt_succ_self _)) ⟨rfl, rfl, rfl, rfl, rfl, rfl, trivial⟩
      · rw [hQ]
        refine g_vret X hr hlk dX0_dealHand_51 ?_
        first | (exfalso; omega) | exact ⟨HF.rf M, by rw [hR1, ← hfe, show v5_22 = 0 by omega, Int.zero_mul, Int.add_zero]; exact hr8, fun s a b => by rw [hB s a b]; exact (hand_same (f := v5_22) (by omega) (by omega) (s - 64)).symm⟩
  · obtain ⟨sD, hsD⟩ : ∃ z : Int, z = 1 := ⟨1, rfl⟩
    refine g_iconst X dX0_dealHand_31 ?_
    refine g_goto (tgt := 36) X dX0_dealHand_32 (by decide) ?_
    refine g_teq (b := sD) (by exact hsD.symm) ?_
    refine g_istore_6 X dX0_dealHand_36 rfl (fun v6_36 ev6_36 => ?_)
    subst v6_36
    have hside : (sD = 1 ∧ v5_22 = (kP (bit cb) (M 101) (bit nb) g 16)) ∨ (sD = -1 ∧ v5_22 = (cP (bit cb) (M 101) g 16) - (kP (bit cb) (M 101) (bit nb) g 16)) := by omega
    have hfe : v5_22 * ((cP (bit cb) (M 101) g 16) - v5_22) = (kP (bit cb) (M 101) (bit nb) g 16) * ((cP (bit cb) (M 101) g 16) - (kP (bit cb) (M 101) (bit nb) g 16)) := kf_eq (by omega)
    have hff : 2 * v5_22 ≤ (cP (bit cb) (M 101) g 16) := by omega
    have hsp : sD = 1 ∨ sD = -1 := by omega
    refine g_iload X dX0_dealHand_38 rfl ?_
    refine g_iconst X dX0_dealHand_40 ?_
    refine g_icmp_lt (tgt := 51) X dX0_dealHand_41 (by decide) ⟨by omega, by omega⟩ (by decide) (fun q41 => ?_) (fun q41 => ?_)
    · rw [hQ]
      refine g_vret X hr hlk dX0_dealHand_51 ?_
      first | (exfalso; omega) | exact ⟨HF.rf M, by rw [hR1, ← hfe, show v5_22 = 0 by omega, Int.zero_mul, Int.add_zero]; exact hr8, fun s a b => by rw [hB s a b]; exact (hand_same (f := v5_22) (by omega) (by omega) (s - 64)).symm⟩
    · refine g_iload X dX0_dealHand_44 rfl ?_
      refine g_bipush X dX0_dealHand_46 (by decide +kernel) ?_
      refine g_icmp_le (tgt := 52) X dX0_dealHand_48 (by decide) ⟨by omega, by omega⟩ (by decide) (fun q48 => ?_) (fun q48 => ?_)
      · refine g_iconst X dX0_dealHand_52 ?_
        refine g_istore_7 X dX0_dealHand_53 rfl (fun v7_53 ev7_53 => ?_)
        subst v7_53
        have L_55 : ∀ (n : Nat) (k : Int) (M1 : Mem), (1 ≤ k) → (k ≤ v5_22 + 1) → (ZR M M1 k) → (v5_22 + 1 - k).toNat < n → Gd pP lL eE (rmN 2 45) sS mI aA bB mM cC 0 0 Q tT dD al (fA al) 55 [some (.ref (al 100)), some (.int (iN mem)), none, some (.int (iN ((cP (bit cb) (M 101) g 16)))), none, some (.int (iN v5_22)), some (.int (iN (sD))), some (.int (iN k))] [] M1 := by
          intro n
          induction n with
          | zero => intro k M1 hk hk2 hZ hm; exact absurd hm (Nat.not_lt_zero _)
          | succ n ih =>
            intro k M1 hk hk2 hZ hm
            have ih_55 := ih
            clear ih
            refine g_iload X dX0_dealHand_55 rfl ?_
            refine g_iload X dX0_dealHand_57 rfl ?_
            refine g_icmp_gt (tgt := 79) X dX0_dealHand_59 (by decide) ⟨by omega, by omega⟩ ⟨by omega, by omega⟩ (fun q59 => ?_) (fun q59 => ?_)
            · refine g_aload_n X dX0_dealHand_79 rfl rfl ?_
              refine g_bipush X dX0_dealHand_80 (by decide +kernel) ?_
              refine g_aload_n X dX0_dealHand_82 rfl rfl ?_
              refine g_geti (kz := 8) X kd_100 fc0 (k := 8) (by decide) rfl wd_272 rfl dX0_dealHand_83 ?_
              refine g_iload X dX0_dealHand_86 rfl ?_
              refine g_iload_n X dX0_dealHand_88 rfl rfl ?_
              refine g_iload X dX0_dealHand_89 rfl ?_
              refine g_isub X dX0_dealHand_91 ?_
              refine g_imul X dX0_dealHand_92 ?_
              refine g_teq (b := (kP (bit cb) (M 101) (bit nb) g 16) * ((cP (bit cb) (M 101) g 16) - (kP (bit cb) (M 101) (bit nb) g 16))) (by exact hfe) ?_
              refine g_iadd X dX0_dealHand_93 ?_
              refine g_teq (b := RT4 M cb nb (g + 1)) (by rw [hZ.1 100 8 (by omega), hr8]; exact hR1.symm) ?_
              refine g_mmin X wd_667 wd_556 wd_80 wd_557 (by decide) ⟨by omega, by omega⟩ rfl ⟨by decide, by decide⟩ (Nat.le_of_ble_eq_true rfl) dX0_dealHand_94 ?_
              refine g_teq (b := RT4 M cb nb (g + 1)) (by omega) ?_
              refine g_puti (kz := 8) X kd_100 fc0 (k := 8) (by decide) rfl wd_272 rfl rfl rfl dX0_dealHand_97 ?_
              refine g_iconst X dX0_dealHand_100 ?_
              refine g_istore_7 X dX0_dealHand_101 rfl (fun v7_101 ev7_101 => ?_)
              subst v7_101
              have L_103 : ∀ (n : Nat) (q : Int) (M2 : Mem), (0 ≤ q) → (q ≤ 16) → (HF M M2) → (M2 100 8 = RT4 M cb nb (g + 1)) → (tbX M2 (FT M cb nb g sD q.toNat) v5_22) → (16 - q).toNat < n → Gd pP lL eE (rmN 2 45) sS mI aA bB mM cC 0 0 Q tT dD al (fA al) 103 [some (.ref (al 100)), some (.int (iN mem)), none, none, none, some (.int (iN v5_22)), some (.int (iN (sD))), some (.int (iN q))] [] M2 := by
                intro n
                induction n with
                | zero => intro q M2 hq hq2 hH h8 hX hm; exact absurd hm (Nat.not_lt_zero _)
                | succ n ih =>
                  intro q M2 hq hq2 hH h8 hX hm
                  have h101 : M2 101 = M 101 := hH.row (by omega)
                  have h102 : M2 102 = M 102 := hH.row (by omega)
                  have hmq : q < 16 → (bit mem q = 1 ↔ (bit cb q = 1 ∧ M 101 q = g)) := fun z => hM.2 q hq z
                  have ih_103 := ih
                  clear ih
                  refine g_iload X dX0_dealHand_103 rfl ?_
                  refine g_bipush X dX0_dealHand_105 (by decide +kernel) ?_
                  refine g_icmp_ge (tgt := 141) X dX0_dealHand_107 (by decide) ⟨by omega, by omega⟩ (by decide) (fun q107 => ?_) (fun q107 => ?_)
                  · refine g_aload_n X dX0_dealHand_141 rfl rfl ?_
                    refine g_getr (r := 103) X kd_100 fc0 (k := 7) (by decide) rfl wd_271 rfl (by decide) dX0_dealHand_142 ?_
                    refine g_iload X dX0_dealHand_145 rfl ?_
                    have b0_147_126 : 0 ≤ v5_22 := by omega
                    have b1_147_126 : v5_22 < 9 := by omega
                    refine g_aald X kd_103 (bz := 104) rfl b0_147_126 b1_147_126 dX0_dealHand_147 ?_
                    have kr_147_126 := kr_104 b0_147_126 b1_147_126
                    refine g_iconst X dX0_dealHand_148 ?_
                    refine g_aload_n X dX0_dealHand_149 rfl rfl ?_
                    refine g_getr (r := 103) X kd_100 fc0 (k := 7) (by decide) rfl wd_271 rfl (by decide) dX0_dealHand_150 ?_
                    refine g_iconst X dX0_dealHand_153 ?_
                    have b0_154_131 : (0 : Int) ≤ 0 := by decide
                    have b1_154_131 : (0 : Int) < 9 := by decide
                    refine g_aald X kd_103 (bz := 104) rfl b0_154_131 b1_154_131 dX0_dealHand_154 ?_
                    have kr_154_131 := kr_104 b0_154_131 b1_154_131
                    refine g_iconst X dX0_dealHand_155 ?_
                    refine g_sipush X dX0_dealHand_156 (by decide +kernel) ?_
                    refine g_copy X wd_672 wd_494 wd_493 wd_79 kr_147_126 kr_154_131 (by first | decide | omega) (by first | decide | omega) (by first | decide | omega) (by first | decide | omega) (by first | decide | omega) rfl ⟨by decide, by decide⟩ (Nat.le_of_ble_eq_true rfl) dX0_dealHand_159 ?_
                    rw [hQ]
                    refine g_vret X hr hlk dX0_dealHand_162 ?_
                    obtain rfl : q = 16 := by omega
                    refine ⟨fun o k n => ?_, ?_, hand_end hX (by omega) hside⟩
                    · show (if o = 104 + 0 ∧ 0 ≤ k ∧ k < 0 + 129 then M2 (104 + v5_22) (0 + (k - 0)) else M2 o k) = _
                      rw [if_neg (by omega)]; exact hH o k n
                    · exact h8
                  · refine g_iload_n X dX0_dealHand_110 rfl rfl ?_
                    refine g_iload X dX0_dealHand_111 rfl ?_
                    refine g_callSI X (c_X0_holds lL tT dD al _ _ _ hM.1 ⟨hq, by omega⟩) lk_RX0_23 rfl rfl ⟨by decide, by decide⟩ rfl (Nat.le_of_ble_eq_true rfl) dX0_dealHand_113 (fun r113 M113 hc113 => ?_)
                    obtain ⟨hr113, hm113⟩ := hc113
                    subst r113
                    subst M113
                    refine g_if_eq (tgt := 135) X dX0_dealHand_116 (by decide) (b2i_i32 _) (fun q116 => ?_) (fun q116 => ?_)
                    · have q116 := b2i_f q116
                      refine g_iinc_7 X dX0_dealHand_135 rfl (fun v7_135 ev7_135 => ?_)
                      subst v7_135
                      refine g_goto (tgt := 103) X dX0_dealHand_138 (by decide) ?_
                      exact g_sub (ih_103 _ _ (by omega) (by omega) (by first | exact hH | exact hH.tr hc132.1.hf) (by first | exact h8 | (rw [hc132.1 100 8 (by omega)]; exact h8)) (by first | exact tb_memI hq hc132.2 ((hmq (by omega)).mp q116) rfl | exact tb_noI hq hX (fun z => q116 ((hmq (by omega)).mpr z))) (by omega)) ⟨rfl, rfl, rfl, rfl, rfl, trivial⟩
                    · have q116 := b2i_t q116
                      have hagr := agP_rng (n := 16) (mb := bit cb) (hd := M 101) (vl := M 102) (i := q) hq (by omega)
                      have hown : -16 ≤ sD * (agP 16 (bit cb) (M 101) (M 102) q) ∧ sD * (agP 16 (bit cb) (M 101) (M 102) q) ≤ 16 := by rcases hsp with z | z <;> rw [z] <;> omega
                      refine g_aload_n X dX0_dealHand_119 rfl rfl ?_
                      refine g_iload X dX0_dealHand_120 rfl ?_
                      refine g_aload_n X dX0_dealHand_122 rfl rfl ?_
                      refine g_iload X dX0_dealHand_123 rfl ?_
                      refine g_iload_n X dX0_dealHand_125 rfl rfl ?_
                      refine g_callVI X (c_X0_against lL tT dD al _ _ _ hM.1 (fun j a b c => by rw [h101, h102]; exact d3 j a b ((hM.2 j a b).mp c).1) ⟨hq, by omega⟩ q116) kd_100 fc0 lk_RX0_27 rfl rfl ⟨by decide, by decide⟩ rfl (Nat.le_of_ble_eq_true rfl) dX0_dealHand_126 (fun r126 M126 hc126 => ?_)
                      obtain ⟨hr126, hm126⟩ := hc126
                      subst r126
                      subst M126
                      refine g_teq (b := agP 16 (bit cb) (M 101) (M 102) q) (by rw [h101, h102]; exact hM.ag hq (by omega) q116) ?_
                      refine g_imul X dX0_dealHand_129 ?_
                      refine g_iload X dX0_dealHand_130 rfl ?_
                      refine g_callVV X (c_X0_addToChoices lL tT dD al _ _ _ _ hown (by omega) (by rw [h8]; exact hR3) hX (fun k x => FT_rng M cb nb g sD (by omega) k x) (fun k x k0 k1 hx => FT_win (by omega) hsp hff (by rw [hfe, ← hR1]; exact Int.le_refl _) (by omega) (by rw [h8] at hx; exact hx))) kd_100 fc0 lk_RX0_92 rfl rfl ⟨by decide, by decide⟩ rfl (Nat.le_of_ble_eq_true rfl) dX0_dealHand_132 (fun M132 hc132 => ?_)
                      refine g_iinc_7 X dX0_dealHand_135 rfl (fun v7_135 ev7_135 => ?_)
                      subst v7_135
                      refine g_goto (tgt := 103) X dX0_dealHand_138 (by decide) ?_
                      exact g_sub (ih_103 _ _ (by omega) (by omega) (by first | exact hH | exact hH.tr hc132.1.hf) (by first | exact h8 | (rw [hc132.1 100 8 (by omega)]; exact h8)) (by first | exact tb_memI hq hc132.2 ((hmq (by omega)).mp q116) rfl | exact tb_noI hq hX (fun z => q116 ((hmq (by omega)).mpr z))) (by omega)) ⟨rfl, rfl, rfl, rfl, rfl, trivial⟩
              exact g_sub (L_103 _ _ _ (by omega) (by omega) (hZ.1.hf.mu8 _) (mu_same _ _ _ _) (tbX.af (tb_beg (fun s a b => by rw [hZ.2.1 s]; exact hB s a b) (fun j s a b c d => hZ.2.2 j s a (by omega) c d)) (fun j s a b c d => by rw [mu_o _ _ _ (by omega)])) (Nat.lt_succ_self _)) ⟨rfl, rfl, rfl, rfl, rfl, trivial⟩
            · refine g_aload_n X dX0_dealHand_62 rfl rfl ?_
              refine g_getr (r := 103) X kd_100 fc0 (k := 7) (by decide) rfl wd_271 rfl (by decide) dX0_dealHand_63 ?_
              refine g_iload X dX0_dealHand_66 rfl ?_
              have b0_68_158 : 0 ≤ k := by omega
              have b1_68_158 : k < 9 := by omega
              refine g_aald X kd_103 (bz := 104) rfl b0_68_158 b1_68_158 dX0_dealHand_68 ?_
              have kr_68_158 := kr_104 b0_68_158 b1_68_158
              refine g_iconst X dX0_dealHand_69 ?_
              refine g_callSV X (c_J7_fill_53178 lL tT dD al _ _ _ _ kr_68_158) lk_RX0_31 rfl rfl ⟨by decide, by decide⟩ rfl (Nat.le_of_ble_eq_true rfl) dX0_dealHand_70 (fun M70 hc70 => ?_)
              subst M70
              refine g_iinc_7 X dX0_dealHand_73 rfl (fun v7_73 ev7_73 => ?_)
              subst v7_73
              refine g_goto (tgt := 55) X dX0_dealHand_76 (by decide) ?_
              exact g_sub (ih_55 _ _ (by omega) (by omega) (hZ.go hk (by omega)) (by omega)) ⟨rfl, rfl, rfl, rfl, rfl, rfl, trivial⟩
        exact g_sub (L_55 _ _ _ (by omega) (by omega) (⟨AF.rf M, fun s => rfl, fun j s a b => by omega⟩) (Nat.lt_succ_self _)) ⟨rfl, rfl, rfl, rfl, rfl, rfl, trivial⟩
      · rw [hQ]
        refine g_vret X hr hlk dX0_dealHand_51 ?_
        first | (exfalso; omega) | exact ⟨HF.rf M, by rw [hR1, ← hfe, show v5_22 = 0 by omega, Int.zero_mul, Int.add_zero]; exact hr8, fun s a b => by rw [hB s a b]; exact (hand_same (f := v5_22) (by omega) (by omega) (s - 64)).symm⟩
