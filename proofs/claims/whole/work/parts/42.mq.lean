set_option maxRecDepth 100000 in
set_option maxHeartbeats 4000000 in
theorem c_X10_faultOf (lL : Launch) (tT : TT) (dD : va_G) (al : Int → Nat) (M : Mem) (k : Int) (hk : 0 ≤ k ∧ k ≤ 2) (hP : WPage M) (hB : B118 M) : CI lL yX10_faultOf cX10_faultOf 3 FieldType.int 3 69 tT dD al [.ref (al 114), .int (iN k)] M (FR k M) := by
  refine CI.of (own := "RedSkiesModel") (ls0 := [some (.ref (al 114)), some (.int (iN k)), none]) (by decide +kernel) rfl (Nat.le_of_ble_eq_true rfl) rfl ?_
  intro pP eE sS mI aA bB mM cC X hr hlk
  obtain ⟨Q, hQ⟩ : ∃ Q : State → Prop, Q = MQ bB (QI tT dD al (FR k M)) aA sS 0 0 (fA al) := ⟨_, rfl⟩
  rw [← hQ]
  have hp0 := hP.1
  refine g_aload_n X dX10_faultOf_0 rfl rfl ?_
  refine g_iconst X dX10_faultOf_1 ?_
  refine g_puti (kz := 2) X kd_114 fc9 (k := 2) (by decide) rfl wd_829 rfl rfl rfl dX10_faultOf_2 ?_
  refine g_aload_n X dX10_faultOf_5 rfl rfl ?_
  refine g_iconst X dX10_faultOf_6 ?_
  refine g_puti (kz := 6) X kd_114 fc9 (k := 6) (by decide) rfl wd_833 rfl rfl rfl dX10_faultOf_7 ?_
  refine g_aload_n X dX10_faultOf_10 rfl rfl ?_
  refine g_iconst X dX10_faultOf_11 ?_
  refine g_puti (kz := 7) X kd_114 fc9 (k := 7) (by decide) rfl wd_834 rfl rfl rfl dX10_faultOf_12 ?_
  refine g_aload_n X dX10_faultOf_15 rfl rfl ?_
  refine g_iconst X dX10_faultOf_16 ?_
  refine g_puti (kz := 10) X kd_114 fc9 (k := 10) (by decide) rfl wd_837 rfl rfl rfl dX10_faultOf_17 ?_
  refine g_iconst X dX10_faultOf_20 ?_
  refine g_istore_n_2 X dX10_faultOf_21 rfl rfl (fun v2_21 ev2_21 => ?_)
  subst v2_21
  have L_22 : ∀ (n : Nat) (i : Int) (M1 : Mem), (0 ≤ i) → (i ≤ 3) → (M1 = zr (rdP M) 116 i) → (3 - i).toNat < n → Gd pP lL eE (rmN 3 69) sS mI aA bB mM cC 0 0 Q tT dD al (fA al) 22 [some (.ref (al 114)), some (.int (iN k)), some (.int (iN i))] [] M1 := by
    intro n
    induction n with
    | zero => intro i M1 hi hi2 hM1 hm; exact absurd hm (Nat.not_lt_zero _)
    | succ n ih =>
      intro i M1 hi hi2 hM1 hm
      have ih_22 := ih
      clear ih
      refine g_iload_n X dX10_faultOf_22 rfl rfl ?_
      refine g_iconst X dX10_faultOf_23 ?_
      refine g_icmp_ge (tgt := 40) X dX10_faultOf_24 (by decide) ⟨by omega, by omega⟩ (by decide) (fun q24 => ?_) (fun q24 => ?_)
      · refine g_iconst X dX10_faultOf_40 ?_
        refine g_istore_n_2 X dX10_faultOf_41 rfl rfl (fun v2_41 ev2_41 => ?_)
        subst v2_41
        have L_42 : ∀ (n : Nat) (i : Int) (M2 : Mem), (0 ≤ i) → (i ≤ 24) → (M2 = zr (zr (rdP M) 116 3) 117 i) → (24 - i).toNat < n → Gd pP lL eE (rmN 3 69) sS mI aA bB mM cC 0 0 Q tT dD al (fA al) 42 [some (.ref (al 114)), some (.int (iN k)), some (.int (iN i))] [] M2 := by
          intro n
          induction n with
          | zero => intro i M2 hi hi2 hM2 hm; exact absurd hm (Nat.not_lt_zero _)
          | succ n ih =>
            intro i M2 hi hi2 hM2 hm
            have ih_42 := ih
            clear ih
            refine g_iload_n X dX10_faultOf_42 rfl rfl ?_
            refine g_bipush X dX10_faultOf_43 (by decide +kernel) ?_
            refine g_icmp_ge (tgt := 61) X dX10_faultOf_45 (by decide) ⟨by omega, by omega⟩ (by decide) (fun q45 => ?_) (fun q45 => ?_)
            · refine g_iconst X dX10_faultOf_61 ?_
              refine g_istore_n_2 X dX10_faultOf_62 rfl rfl (fun v2_62 ev2_62 => ?_)
              subst v2_62
              have L_63 : ∀ (n : Nat) (u : Int) (M3 : Mem), (0 ≤ u) → (u ≤ M 114 1) → (M3 = rdM k (rd0 M) u.toNat) → (rdI k M3) → (∀ j, 0 ≤ j → j < u → stpOk k (rdM k (rd0 M) j.toNat) (M 115 j)) → (B118 M3) → (40 - u).toNat < n → Gd pP lL eE (rmN 3 69) sS mI aA bB mM cC 0 0 Q tT dD al (fA al) 63 [some (.ref (al 114)), some (.int (iN k)), some (.int (iN u))] [] M3 := by
                intro n
                induction n with
                | zero => intro u M3 hn hn2 hM3 hI hok hB3 hm; exact absurd hm (Nat.not_lt_zero _)
                | succ n ih =>
                  intro u M3 hn hn2 hM3 hI hok hB3 hm
                  have hR : RD M M3 := by rw [hM3]; exact (rd0_RD M).tr (rdM_RD k _ _)
                  have r1 : M3 114 1 = M 114 1 := hR.fld (by omega)
                  have r115 : M3 115 u = M 115 u := by rw [hR.row (o := 115) (by omega)]
                  have ih_63 := ih
                  clear ih
                  refine g_iload_n X dX10_faultOf_63 rfl rfl ?_
                  refine g_aload_n X dX10_faultOf_64 rfl rfl ?_
                  refine g_geti (kz := 1) X kd_114 fc9 (k := 1) (by decide) rfl wd_828 rfl dX10_faultOf_65 ?_
                  refine g_icmp_ge (tgt := 131) X dX10_faultOf_68 (by decide) ⟨by omega, by omega⟩ ⟨by omega, by omega⟩ (fun q68 => ?_) (fun q68 => ?_)
                  · refine g_iload_n X dX10_faultOf_131 rfl rfl ?_
                    rw [hQ]
                    refine g_iret X hr hlk dX10_faultOf_132 ?_
                    first | exact ⟨by omega, hok, Or.inr ⟨by omega, by rw [← hM3, ← r115]; exact hno, fr_step hM3 hn hs⟩, by rw [hs]; exact stp_B hk hI hB3⟩ | exact ⟨by omega, hok, Or.inl ⟨by omega, hM3, hI⟩, hB3⟩
                  · have hch : 1 ≤ M3 115 u ∧ M3 115 u ≤ 126 := by rw [r115]; exact hP.2 u hn (by omega)
                    refine g_iload_n X dX10_faultOf_71 rfl rfl ?_
                    refine g_if_ne (tgt := 91) X dX10_faultOf_72 (by decide) ⟨by omega, by omega⟩ (fun q72 => ?_) (fun q72 => ?_)
                    · refine g_iload_n X dX10_faultOf_91 rfl rfl ?_
                      refine g_iconst X dX10_faultOf_92 ?_
                      refine g_icmp_ne (tgt := 112) X dX10_faultOf_93 (by decide) ⟨by omega, by omega⟩ (by decide) (fun q93 => ?_) (fun q93 => ?_)
                      · refine g_aload_n X dX10_faultOf_112 rfl rfl ?_
                        refine g_aload_n X dX10_faultOf_113 rfl rfl ?_
                        refine g_getr (r := 115) X kd_114 fc9 (k := 0) (by decide) rfl wd_827 rfl (by decide) dX10_faultOf_114 ?_
                        refine g_iload_n X dX10_faultOf_117 rfl rfl ?_
                        refine g_iald X kd_115 (by omega) (by omega) dX10_faultOf_118 ?_
                        refine g_callVI X (c_X10_goLaw lL tT dD al _ _ (hI.2.2 (by omega)) hch) kd_114 fc9 lk_RX10_151 rfl rfl ⟨by decide, by decide⟩ rfl (Nat.le_of_ble_eq_true rfl) dX10_faultOf_119 (fun r119 M119 hc119 => ?_)
                        obtain ⟨hr119, hc119⟩ := hc119
                        subst r119
                        have hs : M119 = stpM k M3 (M3 115 u) := by obtain rfl : k = 2 := (by omega); rw [stpM_2]; exact hc119
                        refine g_if_eq (tgt := 131) X dX10_faultOf_122 (by decide) (b2i_i32 _) (fun q122 => ?_) (fun q122 => ?_)
                        · have q122 := b2i_f q122
                          have hno : ¬ stpOk k M3 (M3 115 u) := by rintro (q | q | q) <;> first | exact q122 q.2 | omega
                          refine g_iload_n X dX10_faultOf_131 rfl rfl ?_
                          rw [hQ]
                          refine g_iret X hr hlk dX10_faultOf_132 ?_
                          first | exact ⟨by omega, hok, Or.inr ⟨by omega, by rw [← hM3, ← r115]; exact hno, fr_step hM3 hn hs⟩, by rw [hs]; exact stp_B hk hI hB3⟩ | exact ⟨by omega, hok, Or.inl ⟨by omega, hM3, hI⟩, hB3⟩
                        · have q122 := b2i_t q122
                          have ho : stpOk k M3 (M3 115 u) := Or.inr (Or.inr ⟨by omega, q122⟩)
                          refine g_iinc_2 X dX10_faultOf_125 rfl (fun v2_125 ev2_125 => ?_)
                          subst v2_125
                          refine g_goto (tgt := 63) X dX10_faultOf_128 (by decide) ?_
                          exact g_sub (ih_63 _ _ (by omega) (by omega) (fr_step hM3 hn hs) (by rw [hs]; exact stp_I hk hI ho) (fun j a b => if e : j = u then (by rw [e, ← hM3, ← r115]; exact ho) else hok j a (by omega)) (by rw [hs]; exact stp_B hk hI hB3) (by omega)) ⟨rfl, rfl, rfl, trivial⟩
                      · refine g_aload_n X dX10_faultOf_96 rfl rfl ?_
                        refine g_aload_n X dX10_faultOf_97 rfl rfl ?_
                        refine g_getr (r := 115) X kd_114 fc9 (k := 0) (by decide) rfl wd_827 rfl (by decide) dX10_faultOf_98 ?_
                        refine g_iload_n X dX10_faultOf_101 rfl rfl ?_
                        refine g_iald X kd_115 (by omega) (by omega) dX10_faultOf_102 ?_
                        refine g_callVI X (c_X10_goMeasure lL tT dD al _ _ (hI.2.1 (by omega)) hch) kd_114 fc9 lk_RX10_148 rfl rfl ⟨by decide, by decide⟩ rfl (Nat.le_of_ble_eq_true rfl) dX10_faultOf_103 (fun r103 M103 hc103 => ?_)
                        obtain ⟨hr103, hc103⟩ := hc103
                        subst r103
                        have hs : M103 = stpM k M3 (M3 115 u) := by obtain rfl : k = 1 := (by omega); rw [stpM_1]; exact hc103
                        refine g_if_eq (tgt := 131) X dX10_faultOf_106 (by decide) (b2i_i32 _) (fun q106 => ?_) (fun q106 => ?_)
                        · have q106 := b2i_f q106
                          have hno : ¬ stpOk k M3 (M3 115 u) := by rintro (q | q | q) <;> first | exact q106 q.2 | omega
                          refine g_iload_n X dX10_faultOf_131 rfl rfl ?_
                          rw [hQ]
                          refine g_iret X hr hlk dX10_faultOf_132 ?_
                          first | exact ⟨by omega, hok, Or.inr ⟨by omega, by rw [← hM3, ← r115]; exact hno, fr_step hM3 hn hs⟩, by rw [hs]; exact stp_B hk hI hB3⟩ | exact ⟨by omega, hok, Or.inl ⟨by omega, hM3, hI⟩, hB3⟩
                        · have q106 := b2i_t q106
                          have ho : stpOk k M3 (M3 115 u) := Or.inr (Or.inl ⟨by omega, q106⟩)
                          refine g_goto (tgt := 125) X dX10_faultOf_109 (by decide) ?_
                          refine g_iinc_2 X dX10_faultOf_125 rfl (fun v2_125 ev2_125 => ?_)
                          subst v2_125
                          refine g_goto (tgt := 63) X dX10_faultOf_128 (by decide) ?_
                          exact g_sub (ih_63 _ _ (by omega) (by omega) (fr_step hM3 hn hs) (by rw [hs]; exact stp_I hk hI ho) (fun j a b => if e : j = u then (by rw [e, ← hM3, ← r115]; exact ho) else hok j a (by omega)) (by rw [hs]; exact stp_B hk hI hB3) (by omega)) ⟨rfl, rfl, rfl, trivial⟩
                    · refine g_aload_n X dX10_faultOf_75 rfl rfl ?_
                      refine g_aload_n X dX10_faultOf_76 rfl rfl ?_
                      refine g_getr (r := 115) X kd_114 fc9 (k := 0) (by decide) rfl wd_827 rfl (by decide) dX10_faultOf_77 ?_
                      refine g_iload_n X dX10_faultOf_80 rfl rfl ?_
                      refine g_iald X kd_115 (by omega) (by omega) dX10_faultOf_81 ?_
                      refine g_callVI X (c_X10_goLamp lL tT dD al _ _ (hI.1 (by omega)) hch) kd_114 fc9 lk_RX10_145 rfl rfl ⟨by decide, by decide⟩ rfl (Nat.le_of_ble_eq_true rfl) dX10_faultOf_82 (fun r82 M82 hc82 => ?_)
                      obtain ⟨hr82, hc82⟩ := hc82
                      subst r82
                      have hs : M82 = stpM k M3 (M3 115 u) := by obtain rfl : k = 0 := (by omega); rw [stpM_0]; exact hc82
                      refine g_if_eq (tgt := 131) X dX10_faultOf_85 (by decide) (b2i_i32 _) (fun q85 => ?_) (fun q85 => ?_)
                      · have q85 := b2i_f q85
                        have hno : ¬ stpOk k M3 (M3 115 u) := by rintro (q | q | q) <;> first | exact q85 q.2 | omega
                        refine g_iload_n X dX10_faultOf_131 rfl rfl ?_
                        rw [hQ]
                        refine g_iret X hr hlk dX10_faultOf_132 ?_
                        first | exact ⟨by omega, hok, Or.inr ⟨by omega, by rw [← hM3, ← r115]; exact hno, fr_step hM3 hn hs⟩, by rw [hs]; exact stp_B hk hI hB3⟩ | exact ⟨by omega, hok, Or.inl ⟨by omega, hM3, hI⟩, hB3⟩
                      · have q85 := b2i_t q85
                        have ho : stpOk k M3 (M3 115 u) := Or.inl ⟨by omega, q85⟩
                        refine g_goto (tgt := 125) X dX10_faultOf_88 (by decide) ?_
                        refine g_iinc_2 X dX10_faultOf_125 rfl (fun v2_125 ev2_125 => ?_)
                        subst v2_125
                        refine g_goto (tgt := 63) X dX10_faultOf_128 (by decide) ?_
                        exact g_sub (ih_63 _ _ (by omega) (by omega) (fr_step hM3 hn hs) (by rw [hs]; exact stp_I hk hI ho) (fun j a b => if e : j = u then (by rw [e, ← hM3, ← r115]; exact ho) else hok j a (by omega)) (by rw [hs]; exact stp_B hk hI hB3) (by omega)) ⟨rfl, rfl, rfl, trivial⟩
              exact g_sub (L_63 _ _ _ (by omega) (by omega) (by obtain rfl : i = 24 := (by omega); exact hM2) (by obtain rfl : i = 24 := (by omega); rw [hM2]; exact rd0_I k hB) (fun j a b => by omega) (by obtain rfl : i = 24 := (by omega); rw [hM2]; intro j a b; have e : rd0 M 118 j = M 118 j := (by simp [rd0, zr, rdP, mu]); show 0 ≤ rd0 M 118 j ∧ rd0 M 118 j ≤ 999; rw [e]; exact hB j a b) (Nat.lt_succ_self _)) ⟨rfl, rfl, rfl, trivial⟩
            · refine g_aload_n X dX10_faultOf_48 rfl rfl ?_
              refine g_getr (r := 117) X kd_114 fc9 (k := 11) (by decide) rfl wd_838 rfl (by decide) dX10_faultOf_49 ?_
              refine g_iload_n X dX10_faultOf_52 rfl rfl ?_
              refine g_iconst X dX10_faultOf_53 ?_
              refine g_iast X kd_117 (by omega) (by omega) dX10_faultOf_54 ?_
              refine g_iinc_2 X dX10_faultOf_55 rfl (fun v2_55 ev2_55 => ?_)
              subst v2_55
              refine g_goto (tgt := 42) X dX10_faultOf_58 (by decide) ?_
              exact g_sub (ih_42 _ _ (by omega) (by omega) (by rw [hM2]; exact zr_s hi) (by omega)) ⟨rfl, rfl, rfl, trivial⟩
        exact g_sub (L_42 _ _ _ (by omega) (by omega) (by obtain rfl : i = 3 := (by omega); rw [hM1]; exact (zr_0 _ _).symm) (Nat.lt_succ_self _)) ⟨rfl, rfl, rfl, trivial⟩
      · refine g_aload_n X dX10_faultOf_27 rfl rfl ?_
        refine g_getr (r := 116) X kd_114 fc9 (k := 9) (by decide) rfl wd_836 rfl (by decide) dX10_faultOf_28 ?_
        refine g_iload_n X dX10_faultOf_31 rfl rfl ?_
        refine g_iconst X dX10_faultOf_32 ?_
        refine g_iast X kd_116 (by omega) (by omega) dX10_faultOf_33 ?_
        refine g_iinc_2 X dX10_faultOf_34 rfl (fun v2_34 ev2_34 => ?_)
        subst v2_34
        refine g_goto (tgt := 22) X dX10_faultOf_37 (by decide) ?_
        exact g_sub (ih_22 _ _ (by omega) (by omega) (by rw [hM1]; exact zr_s hi) (by omega)) ⟨rfl, rfl, rfl, trivial⟩
  exact g_sub (L_22 _ _ _ (by omega) (by omega) ((zr_0 (rdP M) 116).symm) (Nat.lt_succ_self _)) ⟨rfl, rfl, rfl, trivial⟩
set_option maxRecDepth 100000 in
set_option maxHeartbeats 4000000 in
theorem c_X10_fault (lL : Launch) (tT : TT) (dD : va_G) (al : Int → Nat) (M : Mem) (k : Int) (ik : i32 k) (hP : WPage M) (hB : B118 M) : CI lL yX10_fault cX10_fault 2 FieldType.int 4 91 tT dD al [.ref (al 114), .int (iN k)] M (fun r M' => (0 ≤ k ∧ k ≤ 2 → FR k M r M') ∧ (¬ (0 ≤ k ∧ k ≤ 2) → r = -102 ∧ M' = M)) := by
  refine CI.of (own := "RedSkiesModel") (ls0 := [some (.ref (al 114)), some (.int (iN k))]) (by decide +kernel) rfl (Nat.le_of_ble_eq_true rfl) rfl ?_
  intro pP eE sS mI aA bB mM cC X hr hlk
  obtain ⟨Q, hQ⟩ : ∃ Q : State → Prop, Q = MQ bB (QI tT dD al (fun r M' => (0 ≤ k ∧ k ≤ 2 → FR k M r M') ∧ (¬ (0 ≤ k ∧ k ≤ 2) → r = -102 ∧ M' = M))) aA sS 0 0 (fA al) := ⟨_, rfl⟩
  rw [← hQ]
  refine g_iload_n X dX10_fault_0 rfl rfl ?_
  refine g_i2l X dX10_fault_1 ⟨by omega, by omega⟩ ?_
  refine g_lconst X (v := 0) dX10_fault_2 (by decide +kernel) ?_
  refine g_ldc2 X (n := 2) wd_1007 (by decide +kernel) dX10_fault_3 ?_
  refine g_callSI X (c_X10_in lL tT dD al _ _ _ _ ⟨by omega, by omega⟩ (by decide) (by decide)) lk_RX10_98 rfl rfl ⟨by decide, by decide⟩ rfl (Nat.le_of_ble_eq_true rfl) dX10_fault_6 (fun r6 M6 hc6 => ?_)
  obtain ⟨hr6, hm6⟩ := hc6
  subst r6
  subst M6
  refine g_if_eq (tgt := 20) X dX10_fault_9 (by decide) (b2i_i32 _) (fun q9 => ?_) (fun q9 => ?_)
  · have q9 := b2i_f q9
    refine g_bipush X dX10_fault_20 (by decide +kernel) ?_
    rw [hQ]
    refine g_iret X hr hlk dX10_fault_22 ?_
    first | exact ⟨fun _ => hc14, fun q => absurd (by assumption) q⟩ | exact ⟨fun q => absurd q (by assumption), fun _ => ⟨rfl, rfl⟩⟩
  · have q9 := b2i_t q9
    refine g_aload_n X dX10_fault_12 rfl rfl ?_
    refine g_iload_n X dX10_fault_13 rfl rfl ?_
    refine g_callVI X (c_X10_faultOf lL tT dD al _ _ (by omega) hP hB) kd_114 fc9 lk_RX10_156 rfl rfl ⟨by decide, by decide⟩ rfl (Nat.le_of_ble_eq_true rfl) dX10_fault_14 (fun r14 M14 hc14 => ?_)
    refine g_goto (tgt := 22) X dX10_fault_17 (by decide) ?_
    rw [hQ]
    refine g_iret X hr hlk dX10_fault_22 ?_
    first | exact ⟨fun _ => hc14, fun q => absurd (by assumption) q⟩ | exact ⟨fun q => absurd q (by assumption), fun _ => ⟨rfl, rfl⟩⟩
