set_option maxRecDepth 100000 in
set_option maxHeartbeats 4000000 in
theorem c_X10_say (lL : Launch) (tT : TT) (dD : va_G) (al : Int → Nat) (M : Mem) (v : Int)  : CV lL yX10_say cX10_say 3 0 0 tT dD al [.ref (al 114), .long (jN v)] M (fun M' => M' = mu M 114 54 (31 * M 114 54 + v)) := by
  refine CV.of (own := "RedSkiesModel") (ls0 := [some (.ref (al 114)), some (.long (jN v)), none]) (by decide +kernel) rfl (Nat.le_of_ble_eq_true rfl) rfl ?_
  intro pP eE sS mI aA bB mM cC X hr hlk
  obtain ⟨Q, hQ⟩ : ∃ Q : State → Prop, Q = MQ bB (QV tT dD al (fun M' => M' = mu M 114 54 (31 * M 114 54 + v))) aA sS 0 0 (fA al) := ⟨_, rfl⟩
  rw [← hQ]
  refine g_aload_n X dX10_say_0 rfl rfl ?_
  refine g_ldc2 X (n := 31) wd_1279 (by decide +kernel) dX10_say_1 ?_
  refine g_aload_n X dX10_say_4 rfl rfl ?_
  refine g_getl (kz := 54) X kd_114 fc9 (k := 54) (by decide) rfl wd_881 rfl dX10_say_5 ?_
  refine g_lmul X dX10_say_8 ?_
  refine g_lload_n X dX10_say_9 rfl rfl ?_
  refine g_ladd X dX10_say_10 ?_
  refine g_putl (kz := 54) X kd_114 fc9 (k := 54) (by decide) rfl wd_881 rfl rfl rfl dX10_say_11 ?_
  rw [hQ]
  refine g_vret X hr hlk dX10_say_14 ?_
  rfl
set_option maxRecDepth 100000 in
set_option maxHeartbeats 4000000 in
theorem c_X10_sayPicture (lL : Launch) (tT : TT) (dD : va_G) (al : Int → Nat) (M : Mem) (p : Int) (hW : WV M) (h0 : 0 ≤ p) (h1 : p < M 114 23) : CV lL yX10_sayPicture cX10_sayPicture 3 4 94 tT dD al [.ref (al 114), .int (iN p)] M (fun M' => M' = mu M 114 54 (spH M p (M 114 54))) := by
  refine CV.of (own := "RedSkiesModel") (ls0 := [some (.ref (al 114)), some (.int (iN p)), none]) (by decide +kernel) rfl (Nat.le_of_ble_eq_true rfl) rfl ?_
  intro pP eE sS mI aA bB mM cC X hr hlk
  obtain ⟨Q, hQ⟩ : ∃ Q : State → Prop, Q = MQ bB (QV tT dD al (fun M' => M' = mu M 114 54 (spH M p (M 114 54)))) aA sS 0 0 (fA al) := ⟨_, rfl⟩
  rw [← hQ]
  have w2 := hW.n
  have w3 := hW.mea
  refine g_iconst X dX10_sayPicture_0 ?_
  refine g_istore_n_2 X dX10_sayPicture_1 rfl rfl (fun v2_1 ev2_1 => ?_)
  subst v2_1
  have L_2 : ∀ (n : Nat) (i : Int) (M1 : Mem), (0 ≤ i) → (i ≤ 6) → (M1 = mu M 114 54 (hf (M 114 54) (fun i => M 124 (6 * p + i)) i.toNat)) → (6 - i).toNat < n → Gd pP lL eE (rmN 4 94) sS mI aA bB mM cC 0 0 Q tT dD al (fA al) 2 [some (.ref (al 114)), some (.int (iN p)), some (.int (iN i))] [] M1 := by
    intro n
    induction n with
    | zero => intro i M1 hi hi2 hM1 hm; exact absurd hm (Nat.not_lt_zero _)
    | succ n ih =>
      intro i M1 hi hi2 hM1 hm
      have hH : HM M M1 := by rw [hM1]; exact HM.of M _
      have ih_2 := ih
      clear ih
      refine g_iload_n X dX10_sayPicture_2 rfl rfl ?_
      refine g_bipush X dX10_sayPicture_3 (by decide +kernel) ?_
      refine g_icmp_ge (tgt := 30) X dX10_sayPicture_5 (by decide) ⟨by omega, by omega⟩ (by decide) (fun q5 => ?_) (fun q5 => ?_)
      · refine g_iconst X dX10_sayPicture_30 ?_
        refine g_istore_n_2 X dX10_sayPicture_31 rfl rfl (fun v2_31 ev2_31 => ?_)
        subst v2_31
        have L_32 : ∀ (n : Nat) (i : Int) (M2 : Mem), (0 ≤ i) → (i ≤ 12) → (M2 = mu M 114 54 (hf (spA M p (M 114 54)) (fun c => rgt M p c) i.toNat)) → (12 - i).toNat < n → Gd pP lL eE (rmN 4 94) sS mI aA bB mM cC 0 0 Q tT dD al (fA al) 32 [some (.ref (al 114)), some (.int (iN p)), some (.int (iN i))] [] M2 := by
          intro n
          induction n with
          | zero => intro i M2 hi hi2 hM2 hm; exact absurd hm (Nat.not_lt_zero _)
          | succ n ih =>
            intro i M2 hi hi2 hM2 hm
            have hH : HM M M2 := by rw [hM2]; exact HM.of M _
            have hW2 := hH.WV hW
            have r23 : M2 114 23 = M 114 23 := hH.fld (by omega)
            have ih_32 := ih
            clear ih
            refine g_iload_n X dX10_sayPicture_32 rfl rfl ?_
            refine g_bipush X dX10_sayPicture_33 (by decide +kernel) ?_
            refine g_icmp_ge (tgt := 55) X dX10_sayPicture_35 (by decide) ⟨by omega, by omega⟩ (by decide) (fun q35 => ?_) (fun q35 => ?_)
            · refine g_aload_n X dX10_sayPicture_55 rfl rfl ?_
              refine g_aload_n X dX10_sayPicture_56 rfl rfl ?_
              refine g_iload_n X dX10_sayPicture_57 rfl rfl ?_
              refine g_iconst X dX10_sayPicture_58 ?_
              refine g_callVI X (c_X10_nearOf lL tT dD al _ _ _ hW2 h0 (by omega) (by decide)) kd_114 fc9 lk_RX10_238 rfl rfl ⟨by decide, by decide⟩ rfl (Nat.le_of_ble_eq_true rfl) dX10_sayPicture_59 (fun r59 M59 hc59 => ?_)
              obtain ⟨hr59, hm59⟩ := hc59
              subst r59
              subst M59
              have hno := nrO_rng M p 2
              refine g_teq (b := nrO M p 2) (by unfold nrO; rw [hH.row (o := 124) (by omega), hH.e_nrS]) ?_
              refine g_i2l X dX10_sayPicture_62 ⟨by omega, by omega⟩ ?_
              refine g_callVV X (c_X10_say lL tT dD al _ _ ) kd_114 fc9 lk_RX10_351 rfl rfl ⟨by decide, by decide⟩ rfl (Nat.le_of_ble_eq_true rfl) dX10_sayPicture_63 (fun M63 hc63 => ?_)
              refine g_iconst X dX10_sayPicture_66 ?_
              refine g_istore_n_2 X dX10_sayPicture_67 rfl rfl (fun v2_67 ev2_67 => ?_)
              subst v2_67
              have L_68 : ∀ (n : Nat) (i : Int) (M5 : Mem), (0 ≤ i) → (i ≤ M 114 15) → (M5 = mu M 114 54 (hf (spB M p (M 114 54)) (fun m => vlu M m p) i.toNat)) → (4 - i).toNat < n → Gd pP lL eE (rmN 4 94) sS mI aA bB mM cC 0 0 Q tT dD al (fA al) 68 [some (.ref (al 114)), some (.int (iN p)), some (.int (iN i))] [] M5 := by
                intro n
                induction n with
                | zero => intro i M5 hi hi2 hM5 hm; exact absurd hm (Nat.not_lt_zero _)
                | succ n ih =>
                  intro i M5 hi hi2 hM5 hm
                  have hH : HM M M5 := by rw [hM5]; exact HM.of M _
                  have hW5 := hH.WV hW
                  have r23 : M5 114 23 = M 114 23 := hH.fld (by omega)
                  have r15 : M5 114 15 = M 114 15 := hH.fld (by omega)
                  have ih_68 := ih
                  clear ih
                  refine g_iload_n X dX10_sayPicture_68 rfl rfl ?_
                  refine g_aload_n X dX10_sayPicture_69 rfl rfl ?_
                  refine g_geti (kz := 15) X kd_114 fc9 (k := 15) (by decide) rfl wd_842 rfl dX10_sayPicture_70 ?_
                  refine g_icmp_ge (tgt := 93) X dX10_sayPicture_73 (by decide) ⟨by omega, by omega⟩ ⟨by omega, by omega⟩ (fun q73 => ?_) (fun q73 => ?_)
                  · rw [hQ]
                    refine g_vret X hr hlk dX10_sayPicture_93 ?_
                    obtain rfl : i = M 114 15 := by omega
                    exact hM5
                  · refine g_aload_n X dX10_sayPicture_76 rfl rfl ?_
                    refine g_aload_n X dX10_sayPicture_77 rfl rfl ?_
                    refine g_iload_n X dX10_sayPicture_78 rfl rfl ?_
                    refine g_iload_n X dX10_sayPicture_79 rfl rfl ?_
                    refine g_callVI X (c_X10_valueOf lL tT dD al _ _ _ hW5 hi (by omega) h0 (by omega)) kd_114 fc9 lk_RX10_218 rfl rfl ⟨by decide, by decide⟩ rfl (Nat.le_of_ble_eq_true rfl) dX10_sayPicture_80 (fun r80 M80 hc80 => ?_)
                    obtain ⟨hr80, hm80⟩ := hc80
                    subst r80
                    subst M80
                    have hvr := vlu_rng hW (p := p) hi (by omega)
                    refine g_teq (b := vlu M i p) (by rw [hH.e_vlu]) ?_
                    refine g_i2l X dX10_sayPicture_83 ⟨by omega, by omega⟩ ?_
                    refine g_callVV X (c_X10_say lL tT dD al _ _ ) kd_114 fc9 lk_RX10_351 rfl rfl ⟨by decide, by decide⟩ rfl (Nat.le_of_ble_eq_true rfl) dX10_sayPicture_84 (fun M84 hc84 => ?_)
                    refine g_iinc_2 X dX10_sayPicture_87 rfl (fun v2_87 ev2_87 => ?_)
                    subst v2_87
                    refine g_goto (tgt := 68) X dX10_sayPicture_90 (by decide) ?_
                    exact g_sub (ih_68 _ _ (by omega) (by omega) (h_put hM5 hc84 (hf_s _ _ hi)) (by omega)) ⟨rfl, rfl, rfl, trivial⟩
              exact g_sub (L_68 _ _ _ (by omega) (by omega) (by obtain rfl : i = 12 := (by omega); rw [hf_0]; exact h_put hM2 hc63 rfl) (Nat.lt_succ_self _)) ⟨rfl, rfl, rfl, trivial⟩
            · refine g_aload_n X dX10_sayPicture_38 rfl rfl ?_
              refine g_aload_n X dX10_sayPicture_39 rfl rfl ?_
              refine g_iload_n X dX10_sayPicture_40 rfl rfl ?_
              refine g_iload_n X dX10_sayPicture_41 rfl rfl ?_
              refine g_callVI X (c_X10_rightOf lL tT dD al _ _ _ hW2 h0 (by omega) hi (by omega)) kd_114 fc9 lk_RX10_207 rfl rfl ⟨by decide, by decide⟩ rfl (Nat.le_of_ble_eq_true rfl) dX10_sayPicture_42 (fun r42 M42 hc42 => ?_)
              obtain ⟨hr42, hm42⟩ := hc42
              subst r42
              subst M42
              have hrg := rgt_rng M p i
              refine g_teq (b := rgt M p i) (by rw [hH.e_rgt]) ?_
              refine g_i2l X dX10_sayPicture_45 ⟨by omega, by omega⟩ ?_
              refine g_callVV X (c_X10_say lL tT dD al _ _ ) kd_114 fc9 lk_RX10_351 rfl rfl ⟨by decide, by decide⟩ rfl (Nat.le_of_ble_eq_true rfl) dX10_sayPicture_46 (fun M46 hc46 => ?_)
              refine g_iinc_2 X dX10_sayPicture_49 rfl (fun v2_49 ev2_49 => ?_)
              subst v2_49
              refine g_goto (tgt := 32) X dX10_sayPicture_52 (by decide) ?_
              exact g_sub (ih_32 _ _ (by omega) (by omega) (h_put hM2 hc46 (hf_s _ _ hi)) (by omega)) ⟨rfl, rfl, rfl, trivial⟩
        exact g_sub (L_32 _ _ _ (by omega) (by omega) (by obtain rfl : i = 6 := (by omega); rw [hf_0]; exact hM1) (Nat.lt_succ_self _)) ⟨rfl, rfl, rfl, trivial⟩
      · refine g_aload_n X dX10_sayPicture_8 rfl rfl ?_
        refine g_aload_n X dX10_sayPicture_9 rfl rfl ?_
        refine g_getr (r := 124) X kd_114 fc9 (k := 24) (by decide) rfl wd_851 rfl (by decide) dX10_sayPicture_10 ?_
        refine g_bipush X dX10_sayPicture_13 (by decide +kernel) ?_
        refine g_iload_n X dX10_sayPicture_15 rfl rfl ?_
        refine g_imul X dX10_sayPicture_16 ?_
        refine g_iload_n X dX10_sayPicture_17 rfl rfl ?_
        refine g_iadd X dX10_sayPicture_18 ?_
        refine g_iald X kd_124 (by omega) (by omega) dX10_sayPicture_19 ?_
        have hrr := row_rng hW h0 h1 hi (by omega)
        refine g_teq (b := M 124 (6 * p + i)) (by rw [hH.row (o := 124) (by omega)]) ?_
        refine g_i2l X dX10_sayPicture_20 hrr ?_
        refine g_callVV X (c_X10_say lL tT dD al _ _ ) kd_114 fc9 lk_RX10_351 rfl rfl ⟨by decide, by decide⟩ rfl (Nat.le_of_ble_eq_true rfl) dX10_sayPicture_21 (fun M21 hc21 => ?_)
        refine g_iinc_2 X dX10_sayPicture_24 rfl (fun v2_24 ev2_24 => ?_)
        subst v2_24
        refine g_goto (tgt := 2) X dX10_sayPicture_27 (by decide) ?_
        exact g_sub (ih_2 _ _ (by omega) (by omega) (h_put hM1 hc21 (hf_s _ _ hi)) (by omega)) ⟨rfl, rfl, rfl, trivial⟩
  exact g_sub (L_2 _ _ _ (by omega) (by omega) (by rw [hf_0]; exact (mu_id M 114 54).symm) (Nat.lt_succ_self _)) ⟨rfl, rfl, rfl, trivial⟩
set_option maxRecDepth 100000 in
set_option maxHeartbeats 4000000 in
theorem c_X10_sayMeasure (lL : Launch) (tT : TT) (dD : va_G) (al : Int → Nat) (M : Mem) (m : Int) (hW : WV M) (hm0 : 0 ≤ m) (hm1 : m < M 114 15) : CV lL yX10_sayMeasure cX10_sayMeasure 2 5 117 tT dD al [.ref (al 114), .int (iN m)] M (fun M' => HM M M' ∧ M' 114 54 = smH M m (M 114 54)) := by
  refine CV.of (own := "RedSkiesModel") (ls0 := [some (.ref (al 114)), some (.int (iN m))]) (by decide +kernel) rfl (Nat.le_of_ble_eq_true rfl) rfl ?_
  intro pP eE sS mI aA bB mM cC X hr hlk
  obtain ⟨Q, hQ⟩ : ∃ Q : State → Prop, Q = MQ bB (QV tT dD al (fun M' => HM M M' ∧ M' 114 54 = smH M m (M 114 54))) aA sS 0 0 (fA al) := ⟨_, rfl⟩
  rw [← hQ]
  have w3 := hW.mea
  refine g_aload_n X dX10_sayMeasure_0 rfl rfl ?_
  refine g_iload_n X dX10_sayMeasure_1 rfl rfl ?_
  refine g_iconst X dX10_sayMeasure_2 ?_
  refine g_iconst X dX10_sayMeasure_3 ?_
  refine g_callVV X (c_X10_look lL tT dD al _ _ _ _ hW hm0 hm1 (by decide) (by decide)) kd_114 fc9 lk_RX10_262 rfl rfl ⟨by decide, by decide⟩ rfl (Nat.le_of_ble_eq_true rfl) dX10_sayMeasure_4 (fun M4 hc4 => ?_)
  refine g_aload_n X dX10_sayMeasure_7 rfl rfl ?_
  refine g_aload_n X dX10_sayMeasure_8 rfl rfl ?_
  refine g_callVI X (c_X10_statNow lL tT dD al _  hc4.2.2.1) kd_114 fc9 lk_RX10_266 rfl rfl ⟨by decide, by decide⟩ rfl (Nat.le_of_ble_eq_true rfl) dX10_sayMeasure_9 (fun r9 M9 hc9 => ?_)
  obtain ⟨hr9, hm9⟩ := hc9
  subst r9
  subst M9
  have hst := stM_rng hc4.2.2.1
  rw [(hc4.2.pr hW).st] at hst
  have hst2 : -240 ≤ stV M m 2 (-1) ∧ stV M m 2 (-1) ≤ 240 := hst
  refine g_teq (b := stV M m 2 (-1)) (by exact (hc4.2.pr hW).st) ?_
  refine g_i2l X dX10_sayMeasure_12 ⟨by omega, by omega⟩ ?_
  refine g_callVV X (c_X10_say lL tT dD al _ _ ) kd_114 fc9 lk_RX10_351 rfl rfl ⟨by decide, by decide⟩ rfl (Nat.le_of_ble_eq_true rfl) dX10_sayMeasure_13 (fun M13 hc13 => ?_)
  have hL13 : LK M13 := by rw [hc13]; exact LK_h hc4.2.2.1 _
  have k1 : M4 114 54 = M 114 54 := hc4.1.fld (by omega)
  have k2 : M13 114 54 = 31 * M 114 54 + stV M m 2 (-1) := by rw [hc13, mu_same, k1]
  refine g_aload_n X dX10_sayMeasure_16 rfl rfl ?_
  refine g_callVV X (c_X10_layOdds lL tT dD al _  hL13) kd_114 fc9 lk_RX10_293 rfl rfl ⟨by decide, by decide⟩ rfl (Nat.le_of_ble_eq_true rfl) dX10_sayMeasure_17 (fun M17 hc17 => ?_)
  have hc17' : OT M4 (mu M17 114 54 (M4 114 54)) ∧ (mu M17 114 54 (M4 114 54)) 114 38 = lowM M4 ∧ (mu M17 114 54 (M4 114 54)) 114 37 = upM M4 := ⟨fun o k n => by have z := hc17.1 o k n; rw [hc13] at z; simp only [mu] at z ⊢; grind, by simp [mu]; rw [hc17.2.1, hc13]; exact (up_h _ _).2, by simp [mu]; rw [hc17.2.2, hc13]; exact (up_h _ _).1⟩
  obtain ⟨hS, el', eu', rg⟩ := odds_ok hW (SM.rfl' M) hc4 hc17'
  have el : M17 114 38 = lowV M m 2 (-1) := by rw [← el']; simp [mu]
  have eu : M17 114 37 = upV M m 2 (-1) := by rw [← eu']; simp [mu]
  have k3 : M17 114 54 = M13 114 54 := hc17.1.h54
  refine g_aload_n X dX10_sayMeasure_20 rfl rfl ?_
  refine g_aload_n X dX10_sayMeasure_21 rfl rfl ?_
  refine g_getl (kz := 37) X kd_114 fc9 (k := 37) (by decide) rfl wd_864 rfl dX10_sayMeasure_22 ?_
  refine g_teql (b := upV M m 2 (-1)) (by exact eu) ?_
  refine g_aload_n X dX10_sayMeasure_25 rfl rfl ?_
  refine g_getl (kz := 38) X kd_114 fc9 (k := 38) (by decide) rfl wd_865 rfl dX10_sayMeasure_26 ?_
  refine g_teql (b := lowV M m 2 (-1)) (by exact el) ?_
  refine g_iconst X dX10_sayMeasure_29 ?_
  refine g_callSJ X (c_X10_term lL tT dD al _ _ _ _ (by omega) (by omega) (by decide)) lk_RX10_296 rfl rfl ⟨by decide, by decide⟩ rfl (Nat.le_of_ble_eq_true rfl) dX10_sayMeasure_30 (fun r30 M30 hc30 => ?_)
  obtain ⟨hr30, hm30⟩ := hc30
  subst r30
  subst M30
  refine g_callVV X (c_X10_say lL tT dD al _ _ ) kd_114 fc9 lk_RX10_351 rfl rfl ⟨by decide, by decide⟩ rfl (Nat.le_of_ble_eq_true rfl) dX10_sayMeasure_33 (fun M33 hc33 => ?_)
  have k4 := congrFun (congrFun hc33 114) 54
  rw [mu_same, k3, k2] at k4
  refine g_aload_n X dX10_sayMeasure_36 rfl rfl ?_
  refine g_aload_n X dX10_sayMeasure_37 rfl rfl ?_
  refine g_getl (kz := 37) X kd_114 fc9 (k := 37) (by decide) rfl wd_864 rfl dX10_sayMeasure_38 ?_
  refine g_teql (b := upV M m 2 (-1)) (by rw [hc33]; simp [mu]; exact eu) ?_
  refine g_aload_n X dX10_sayMeasure_41 rfl rfl ?_
  refine g_getl (kz := 38) X kd_114 fc9 (k := 38) (by decide) rfl wd_865 rfl dX10_sayMeasure_42 ?_
  refine g_teql (b := lowV M m 2 (-1)) (by rw [hc33]; simp [mu]; exact el) ?_
  refine g_iconst X dX10_sayMeasure_45 ?_
  refine g_callSJ X (c_X10_term lL tT dD al _ _ _ _ (by omega) (by omega) (by decide)) lk_RX10_296 rfl rfl ⟨by decide, by decide⟩ rfl (Nat.le_of_ble_eq_true rfl) dX10_sayMeasure_46 (fun r46 M46 hc46 => ?_)
  obtain ⟨hr46, hm46⟩ := hc46
  subst r46
  subst M46
  refine g_callVV X (c_X10_say lL tT dD al _ _ ) kd_114 fc9 lk_RX10_351 rfl rfl ⟨by decide, by decide⟩ rfl (Nat.le_of_ble_eq_true rfl) dX10_sayMeasure_49 (fun M49 hc49 => ?_)
  rw [hQ]
  refine g_vret X hr hlk dX10_sayMeasure_52 ?_
  refine ⟨?_, by rw [hc49, mu_same, k4]; rfl⟩
  rw [hc49, hc33]
  exact ((((HM.sm hc4.1).tr (by rw [hc13]; exact HM.of _ _)).tr (HM.sm hc17.1.sm)).tr (HM.of _ _)).tr (HM.of _ _)
