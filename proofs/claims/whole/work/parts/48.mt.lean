set_option maxRecDepth 100000 in
set_option maxHeartbeats 4000000 in
theorem c_X10_digest (lL : Launch) (tT : TT) (dD : va_G) (al : Int → Nat) (M : Mem)  (hW : WV M) (hP : WPage M) (hD : WDone M) : CJ lL yX10_digest cX10_digest 2 8 186 tT dD al [.ref (al 114)] M (fun r M' => HM M M' ∧ r = k8 M) := by
  refine CJ.of (own := "RedSkiesModel") (ls0 := [some (.ref (al 114)), none]) (by decide +kernel) rfl (Nat.le_of_ble_eq_true rfl) rfl ?_
  intro pP eE sS mI aA bB mM cC X hr hlk
  obtain ⟨Q, hQ⟩ : ∃ Q : State → Prop, Q = MQ bB (QJ tT dD al (fun r M' => HM M M' ∧ r = k8 M)) aA sS 0 0 (fA al) := ⟨_, rfl⟩
  rw [← hQ]
  have wn := hW.n
  have wm := hW.mea
  have wl := hW.law
  have wp := hW.pig
  have wa := hW.lam
  have wg := hP.1
  have wd : 0 ≤ M 114 39 ∧ M 114 39 ≤ 30 := hD
  refine g_aload_n X dX10_digest_0 rfl rfl ?_
  refine g_ldc2 X (n := 421) wd_1274 (by decide +kernel) dX10_digest_1 ?_
  refine g_putl (kz := 54) X kd_114 fc9 (k := 54) (by decide) rfl wd_881 rfl rfl rfl dX10_digest_4 ?_
  refine g_iconst X dX10_digest_7 ?_
  refine g_istore_n_1 X dX10_digest_8 rfl rfl (fun v1_8 ev1_8 => ?_)
  subst v1_8
  have L_9 : ∀ (n : Nat) (i : Int) (M1 : Mem), (0 ≤ i) → (i ≤ M 114 20) → (HM M M1) → (M1 114 54 = itH (g1 M) 421 i.toNat) → (4 - i).toNat < n → Gd pP lL eE (rmN 8 186) sS mI aA bB mM cC 0 0 Q tT dD al (fA al) 9 [some (.ref (al 114)), some (.int (iN i))] [] M1 := by
    intro n
    induction n with
    | zero => intro i M1 hi hi2 hH hx hm; exact absurd hm (Nat.not_lt_zero _)
    | succ n ih =>
      intro i M1 hi hi2 hH hx hm
      have hWx := hH.WV hW
      have rb : M1 114 20 = M 114 20 := hH.fld (by omega)
      have ih_9 := ih
      clear ih
      refine g_iload_n X dX10_digest_9 rfl rfl ?_
      refine g_aload_n X dX10_digest_10 rfl rfl ?_
      refine g_geti (kz := 20) X kd_114 fc9 (k := 20) (by decide) rfl wd_847 rfl dX10_digest_11 ?_
      refine g_icmp_ge (tgt := 45) X dX10_digest_14 (by decide) ⟨by omega, by omega⟩ ⟨by omega, by omega⟩ (fun q14 => ?_) (fun q14 => ?_)
      · refine g_iconst X dX10_digest_45 ?_
        refine g_istore_n_1 X dX10_digest_46 rfl rfl (fun v1_46 ev1_46 => ?_)
        subst v1_46
        have L_47 : ∀ (n : Nat) (i : Int) (M2 : Mem), (0 ≤ i) → (i ≤ M 114 23) → (HM M M2) → (M2 114 54 = itH (spH M) (k1 M) i.toNat) → (16 - i).toNat < n → Gd pP lL eE (rmN 8 186) sS mI aA bB mM cC 0 0 Q tT dD al (fA al) 47 [some (.ref (al 114)), some (.int (iN i))] [] M2 := by
          intro n
          induction n with
          | zero => intro i M2 hi hi2 hH hx hm; exact absurd hm (Nat.not_lt_zero _)
          | succ n ih =>
            intro i M2 hi hi2 hH hx hm
            have hWx := hH.WV hW
            have rb : M2 114 23 = M 114 23 := hH.fld (by omega)
            have ih_47 := ih
            clear ih
            refine g_iload_n X dX10_digest_47 rfl rfl ?_
            refine g_aload_n X dX10_digest_48 rfl rfl ?_
            refine g_geti (kz := 23) X kd_114 fc9 (k := 23) (by decide) rfl wd_850 rfl dX10_digest_49 ?_
            refine g_icmp_ge (tgt := 66) X dX10_digest_52 (by decide) ⟨by omega, by omega⟩ ⟨by omega, by omega⟩ (fun q52 => ?_) (fun q52 => ?_)
            · refine g_iconst X dX10_digest_66 ?_
              refine g_istore_n_1 X dX10_digest_67 rfl rfl (fun v1_67 ev1_67 => ?_)
              subst v1_67
              have L_68 : ∀ (n : Nat) (i : Int) (M3 : Mem), (0 ≤ i) → (i ≤ M 114 26) → (HM M M3) → (M3 114 54 = itH (g3 M) (k2 M) i.toNat) → (6 - i).toNat < n → Gd pP lL eE (rmN 8 186) sS mI aA bB mM cC 0 0 Q tT dD al (fA al) 68 [some (.ref (al 114)), some (.int (iN i))] [] M3 := by
                intro n
                induction n with
                | zero => intro i M3 hi hi2 hH hx hm; exact absurd hm (Nat.not_lt_zero _)
                | succ n ih =>
                  intro i M3 hi hi2 hH hx hm
                  have hWx := hH.WV hW
                  have rb : M3 114 26 = M 114 26 := hH.fld (by omega)
                  have ih_68 := ih
                  clear ih
                  refine g_iload_n X dX10_digest_68 rfl rfl ?_
                  refine g_aload_n X dX10_digest_69 rfl rfl ?_
                  refine g_geti (kz := 26) X kd_114 fc9 (k := 26) (by decide) rfl wd_853 rfl dX10_digest_70 ?_
                  refine g_icmp_ge (tgt := 93) X dX10_digest_73 (by decide) ⟨by omega, by omega⟩ ⟨by omega, by omega⟩ (fun q73 => ?_) (fun q73 => ?_)
                  · refine g_iconst X dX10_digest_93 ?_
                    refine g_istore_n_1 X dX10_digest_94 rfl rfl (fun v1_94 ev1_94 => ?_)
                    subst v1_94
                    have L_95 : ∀ (n : Nat) (i : Int) (M4 : Mem), (0 ≤ i) → (i ≤ M 114 15) → (HM M M4) → (M4 114 54 = itH (smH M) (k3 M) i.toNat) → (4 - i).toNat < n → Gd pP lL eE (rmN 8 186) sS mI aA bB mM cC 0 0 Q tT dD al (fA al) 95 [some (.ref (al 114)), some (.int (iN i))] [] M4 := by
                      intro n
                      induction n with
                      | zero => intro i M4 hi hi2 hH hx hm; exact absurd hm (Nat.not_lt_zero _)
                      | succ n ih =>
                        intro i M4 hi hi2 hH hx hm
                        have hWx := hH.WV hW
                        have rb : M4 114 15 = M 114 15 := hH.fld (by omega)
                        have ih_95 := ih
                        clear ih
                        refine g_iload_n X dX10_digest_95 rfl rfl ?_
                        refine g_aload_n X dX10_digest_96 rfl rfl ?_
                        refine g_geti (kz := 15) X kd_114 fc9 (k := 15) (by decide) rfl wd_842 rfl dX10_digest_97 ?_
                        refine g_icmp_ge (tgt := 114) X dX10_digest_100 (by decide) ⟨by omega, by omega⟩ ⟨by omega, by omega⟩ (fun q100 => ?_) (fun q100 => ?_)
                        · refine g_iconst X dX10_digest_114 ?_
                          refine g_istore_n_1 X dX10_digest_115 rfl rfl (fun v1_115 ev1_115 => ?_)
                          subst v1_115
                          have L_116 : ∀ (n : Nat) (i : Int) (M5 : Mem), (0 ≤ i) → (i ≤ M 114 15) → (HM M M5) → (M5 114 54 = itH (g5 M) (k4 M) i.toNat) → (i = 0 ∨ 0 < M 114 17) → (4 - i).toNat < n → Gd pP lL eE (rmN 8 186) sS mI aA bB mM cC 0 0 Q tT dD al (fA al) 116 [some (.ref (al 114)), some (.int (iN i))] [] M5 := by
                            intro n
                            induction n with
                            | zero => intro i M5 hi hi2 hH hx hb hm; exact absurd hm (Nat.not_lt_zero _)
                            | succ n ih =>
                              intro i M5 hi hi2 hH hx hb hm
                              have hWx := hH.WV hW
                              have rb : M5 114 15 = M 114 15 := hH.fld (by omega)
                              have rc : M5 114 17 = M 114 17 := hH.fld (by omega)
                              have ih_116 := ih
                              clear ih
                              refine g_iload_n X dX10_digest_116 rfl rfl ?_
                              refine g_aload_n X dX10_digest_117 rfl rfl ?_
                              refine g_geti (kz := 15) X kd_114 fc9 (k := 15) (by decide) rfl wd_842 rfl dX10_digest_118 ?_
                              refine g_icmp_ge (tgt := 147) X dX10_digest_121 (by decide) ⟨by omega, by omega⟩ ⟨by omega, by omega⟩ (fun q121 => ?_) (fun q121 => ?_)
                              · have h5 : M5 114 54 = k5 M := by obtain rfl : i = M 114 15 := (by omega); rw [hx]; unfold k5; by_cases z : 0 < M 114 17; exact (if_pos z).symm; rw [if_neg z, show M 114 15 = 0 by omega]; rfl
                                refine g_iconst X dX10_digest_147 ?_
                                refine g_istore_n_1 X dX10_digest_148 rfl rfl (fun v1_148 ev1_148 => ?_)
                                subst v1_148
                                have L_149 : ∀ (n : Nat) (i : Int) (M6 : Mem), (0 ≤ i) → (i ≤ 401) → (HM M M6) → (M6 114 54 = itH (g6 M) (k5 M) i.toNat) → (401 - i).toNat < n → Gd pP lL eE (rmN 8 186) sS mI aA bB mM cC 0 0 Q tT dD al (fA al) 149 [some (.ref (al 114)), some (.int (iN i))] [] M6 := by
                                  intro n
                                  induction n with
                                  | zero => intro i M6 hi hi2 hH hx hm; exact absurd hm (Nat.not_lt_zero _)
                                  | succ n ih =>
                                    intro i M6 hi hi2 hH hx hm
                                    have hWx := hH.WV hW
                                    have ih_149 := ih
                                    clear ih
                                    refine g_iload_n X dX10_digest_149 rfl rfl ?_
                                    refine g_sipush X dX10_digest_150 (by decide +kernel) ?_
                                    refine g_icmp_ge (tgt := 200) X dX10_digest_153 (by decide) ⟨by omega, by omega⟩ (by decide) (fun q153 => ?_) (fun q153 => ?_)
                                    · refine g_iconst X dX10_digest_200 ?_
                                      refine g_istore_n_1 X dX10_digest_201 rfl rfl (fun v1_201 ev1_201 => ?_)
                                      subst v1_201
                                      have L_202 : ∀ (n : Nat) (i : Int) (M7 : Mem), (0 ≤ i) → (i ≤ M 114 1) → (HM M M7) → (M7 114 54 = itH (g7 M) (k6 M) i.toNat) → (40 - i).toNat < n → Gd pP lL eE (rmN 8 186) sS mI aA bB mM cC 0 0 Q tT dD al (fA al) 202 [some (.ref (al 114)), some (.int (iN i))] [] M7 := by
                                        intro n
                                        induction n with
                                        | zero => intro i M7 hi hi2 hH hx hm; exact absurd hm (Nat.not_lt_zero _)
                                        | succ n ih =>
                                          intro i M7 hi hi2 hH hx hm
                                          have hWx := hH.WV hW
                                          have rb : M7 114 1 = M 114 1 := hH.fld (by omega)
                                          have ih_202 := ih
                                          clear ih
                                          refine g_iload_n X dX10_digest_202 rfl rfl ?_
                                          refine g_aload_n X dX10_digest_203 rfl rfl ?_
                                          refine g_geti (kz := 1) X kd_114 fc9 (k := 1) (by decide) rfl wd_828 rfl dX10_digest_204 ?_
                                          refine g_icmp_ge (tgt := 227) X dX10_digest_207 (by decide) ⟨by omega, by omega⟩ ⟨by omega, by omega⟩ (fun q207 => ?_) (fun q207 => ?_)
                                          · refine g_iconst X dX10_digest_227 ?_
                                            refine g_istore_n_1 X dX10_digest_228 rfl rfl (fun v1_228 ev1_228 => ?_)
                                            subst v1_228
                                            have L_229 : ∀ (n : Nat) (i : Int) (M8 : Mem), (0 ≤ i) → (i ≤ 9) → (HM M M8) → (M8 114 54 = itH (g8 M) (k7 M) i.toNat) → (9 - i).toNat < n → Gd pP lL eE (rmN 8 186) sS mI aA bB mM cC 0 0 Q tT dD al (fA al) 229 [some (.ref (al 114)), some (.int (iN i))] [] M8 := by
                                              intro n
                                              induction n with
                                              | zero => intro i M8 hi hi2 hH hx hm; exact absurd hm (Nat.not_lt_zero _)
                                              | succ n ih =>
                                                intro i M8 hi hi2 hH hx hm
                                                have hWx := hH.WV hW
                                                have ih_229 := ih
                                                clear ih
                                                refine g_iload_n X dX10_digest_229 rfl rfl ?_
                                                refine g_bipush X dX10_digest_230 (by decide +kernel) ?_
                                                refine g_icmp_ge (tgt := 251) X dX10_digest_232 (by decide) ⟨by omega, by omega⟩ (by decide) (fun q232 => ?_) (fun q232 => ?_)
                                                · refine g_aload_n X dX10_digest_251 rfl rfl ?_
                                                  refine g_getl (kz := 54) X kd_114 fc9 (k := 54) (by decide) rfl wd_881 rfl dX10_digest_252 ?_
                                                  rw [hQ]
                                                  refine g_lret X hr hlk dX10_digest_255 ?_
                                                  obtain rfl : i = 9 := by omega
                                                  exact ⟨hH, hx⟩
                                                · refine g_aload_n X dX10_digest_235 rfl rfl ?_
                                                  refine g_aload_n X dX10_digest_236 rfl rfl ?_
                                                  refine g_iload_n X dX10_digest_237 rfl rfl ?_
                                                  refine g_callVI X (c_X10_countOf lL tT dD al _ _ ⟨by omega, by omega⟩) kd_114 fc9 lk_RX10_343 rfl rfl ⟨by decide, by decide⟩ rfl (Nat.le_of_ble_eq_true rfl) dX10_digest_238 (fun r238 M238 hc238 => ?_)
                                                  obtain ⟨hr238, hm238⟩ := hc238
                                                  subst r238
                                                  subst M238
                                                  have hcr : -102 ≤ cntS M i ∧ cntS M i ≤ 100 := by unfold cntS; (repeat' split) <;> omega
                                                  refine g_teq (b := cntS M i) (by rw [hH.e_cntS]) ?_
                                                  refine g_i2l X dX10_digest_241 ⟨by omega, by omega⟩ ?_
                                                  refine g_callVV X (c_X10_say lL tT dD al _ _ ) kd_114 fc9 lk_RX10_351 rfl rfl ⟨by decide, by decide⟩ rfl (Nat.le_of_ble_eq_true rfl) dX10_digest_242 (fun M242 hc242 => ?_)
                                                  obtain ⟨hH1, hx1⟩ := say_ok hH hx hc242
                                                  refine g_iinc_1 X dX10_digest_245 rfl (fun v1_245 ev1_245 => ?_)
                                                  subst v1_245
                                                  refine g_goto (tgt := 229) X dX10_digest_248 (by decide) ?_
                                                  exact g_sub (ih_229 _ _ (by omega) (by omega) (hH1) (by rw [itH_s _ _ hi]; exact hx1) (by omega)) ⟨rfl, rfl, trivial⟩
                                            exact g_sub (L_229 _ _ _ (by omega) (by omega) (hH) (by rw [itH_0]; obtain rfl : i = M 114 1 := (by omega); exact hx) (Nat.lt_succ_self _)) ⟨rfl, rfl, trivial⟩
                                          · refine g_aload_n X dX10_digest_210 rfl rfl ?_
                                            refine g_aload_n X dX10_digest_211 rfl rfl ?_
                                            refine g_getr (r := 115) X kd_114 fc9 (k := 0) (by decide) rfl wd_827 rfl (by decide) dX10_digest_212 ?_
                                            refine g_iload_n X dX10_digest_215 rfl rfl ?_
                                            refine g_iald X kd_115 (by omega) (by omega) dX10_digest_216 ?_
                                            have hv := hP.2 i hi (by omega)
                                            refine g_teq (b := M 115 i) (by rw [hH.row (o := 115) (by omega)]) ?_
                                            refine g_i2l X dX10_digest_217 ⟨by omega, by omega⟩ ?_
                                            refine g_callVV X (c_X10_say lL tT dD al _ _ ) kd_114 fc9 lk_RX10_351 rfl rfl ⟨by decide, by decide⟩ rfl (Nat.le_of_ble_eq_true rfl) dX10_digest_218 (fun M218 hc218 => ?_)
                                            obtain ⟨hH1, hx1⟩ := say_ok hH hx hc218
                                            refine g_iinc_1 X dX10_digest_221 rfl (fun v1_221 ev1_221 => ?_)
                                            subst v1_221
                                            refine g_goto (tgt := 202) X dX10_digest_224 (by decide) ?_
                                            exact g_sub (ih_202 _ _ (by omega) (by omega) (hH1) (by rw [itH_s _ _ hi]; exact hx1) (by omega)) ⟨rfl, rfl, trivial⟩
                                      exact g_sub (L_202 _ _ _ (by omega) (by omega) (hH) (by rw [itH_0]; obtain rfl : i = 401 := (by omega); exact hx) (Nat.lt_succ_self _)) ⟨rfl, rfl, trivial⟩
                                    · refine g_aload_n X dX10_digest_156 rfl rfl ?_
                                      refine g_getr (r := 134) X kd_114 fc9 (k := 41) (by decide) rfl wd_868 rfl (by decide) dX10_digest_157 ?_
                                      refine g_iload_n X dX10_digest_160 rfl rfl ?_
                                      refine g_iald X kd_134 (by omega) (by omega) dX10_digest_161 ?_
                                      have hic := ice_rng hW hi (by omega)
                                      refine g_teq (b := M 134 i) (by rw [hH.row (o := 134) (by omega)]) ?_
                                      refine g_iconst X dX10_digest_162 ?_
                                      refine g_icmp_eq (tgt := 194) X dX10_digest_163 (by decide) ⟨by omega, by omega⟩ (by decide) (fun q163 => ?_) (fun q163 => ?_)
                                      · refine g_iinc_1 X dX10_digest_194 rfl (fun v1_194 ev1_194 => ?_)
                                        subst v1_194
                                        refine g_goto (tgt := 149) X dX10_digest_197 (by decide) ?_
                                        exact g_sub (ih_149 _ _ (by omega) (by omega) (by first | exact hH3 | exact hH) (by rw [itH_s _ _ hi]; unfold g6; first | (rw [if_pos q163]; exact hx) | (rw [if_neg q163]; exact hx3)) (by omega)) ⟨rfl, rfl, trivial⟩
                                      · refine g_aload_n X dX10_digest_166 rfl rfl ?_
                                        refine g_iload_n X dX10_digest_167 rfl rfl ?_
                                        refine g_i2l X dX10_digest_168 ⟨by omega, by omega⟩ ?_
                                        refine g_callVV X (c_X10_say lL tT dD al _ _ ) kd_114 fc9 lk_RX10_351 rfl rfl ⟨by decide, by decide⟩ rfl (Nat.le_of_ble_eq_true rfl) dX10_digest_169 (fun M169 hc169 => ?_)
                                        obtain ⟨hH1, hx1⟩ := say_ok hH hx hc169
                                        refine g_aload_n X dX10_digest_172 rfl rfl ?_
                                        refine g_aload_n X dX10_digest_173 rfl rfl ?_
                                        refine g_getr (r := 134) X kd_114 fc9 (k := 41) (by decide) rfl wd_868 rfl (by decide) dX10_digest_174 ?_
                                        refine g_iload_n X dX10_digest_177 rfl rfl ?_
                                        refine g_iald X kd_134 (by omega) (by omega) dX10_digest_178 ?_
                                        refine g_teq (b := M 134 i) (by rw [hH1.row (o := 134) (by omega)]) ?_
                                        refine g_i2l X dX10_digest_179 hic.1 ?_
                                        refine g_callVV X (c_X10_say lL tT dD al _ _ ) kd_114 fc9 lk_RX10_351 rfl rfl ⟨by decide, by decide⟩ rfl (Nat.le_of_ble_eq_true rfl) dX10_digest_180 (fun M180 hc180 => ?_)
                                        obtain ⟨hH2, hx2⟩ := say_ok hH1 hx1 hc180
                                        refine g_aload_n X dX10_digest_183 rfl rfl ?_
                                        refine g_aload_n X dX10_digest_184 rfl rfl ?_
                                        refine g_getr (r := 135) X kd_114 fc9 (k := 42) (by decide) rfl wd_869 rfl (by decide) dX10_digest_185 ?_
                                        refine g_iload_n X dX10_digest_188 rfl rfl ?_
                                        refine g_iald X kd_135 (by omega) (by omega) dX10_digest_189 ?_
                                        refine g_teq (b := M 135 i) (by rw [hH2.row (o := 135) (by omega)]) ?_
                                        refine g_i2l X dX10_digest_190 hic.2 ?_
                                        refine g_callVV X (c_X10_say lL tT dD al _ _ ) kd_114 fc9 lk_RX10_351 rfl rfl ⟨by decide, by decide⟩ rfl (Nat.le_of_ble_eq_true rfl) dX10_digest_191 (fun M191 hc191 => ?_)
                                        obtain ⟨hH3, hx3⟩ := say_ok hH2 hx2 hc191
                                        refine g_iinc_1 X dX10_digest_194 rfl (fun v1_194 ev1_194 => ?_)
                                        subst v1_194
                                        refine g_goto (tgt := 149) X dX10_digest_197 (by decide) ?_
                                        exact g_sub (ih_149 _ _ (by omega) (by omega) (by first | exact hH3 | exact hH) (by rw [itH_s _ _ hi]; unfold g6; first | (rw [if_pos q163]; exact hx) | (rw [if_neg q163]; exact hx3)) (by omega)) ⟨rfl, rfl, trivial⟩
                                exact g_sub (L_149 _ _ _ (by omega) (by omega) (hH) (by rw [itH_0]; exact h5) (Nat.lt_succ_self _)) ⟨rfl, rfl, trivial⟩
                              · refine g_aload_n X dX10_digest_124 rfl rfl ?_
                                refine g_geti (kz := 17) X kd_114 fc9 (k := 17) (by decide) rfl wd_844 rfl dX10_digest_125 ?_
                                refine g_if_le (tgt := 147) X dX10_digest_128 (by decide) ⟨by omega, by omega⟩ (fun q128 => ?_) (fun q128 => ?_)
                                · have h5 : M5 114 54 = k5 M := by obtain rfl : i = 0 := (by omega); rw [hx]; unfold k5; rw [if_neg (by omega)]; rfl
                                  refine g_iconst X dX10_digest_147 ?_
                                  refine g_istore_n_1 X dX10_digest_148 rfl rfl (fun v1_148 ev1_148 => ?_)
                                  subst v1_148
                                  have L_149 : ∀ (n : Nat) (i : Int) (M6 : Mem), (0 ≤ i) → (i ≤ 401) → (HM M M6) → (M6 114 54 = itH (g6 M) (k5 M) i.toNat) → (401 - i).toNat < n → Gd pP lL eE (rmN 8 186) sS mI aA bB mM cC 0 0 Q tT dD al (fA al) 149 [some (.ref (al 114)), some (.int (iN i))] [] M6 := by
                                    intro n
                                    induction n with
                                    | zero => intro i M6 hi hi2 hH hx hm; exact absurd hm (Nat.not_lt_zero _)
                                    | succ n ih =>
                                      intro i M6 hi hi2 hH hx hm
                                      have hWx := hH.WV hW
                                      have ih_149 := ih
                                      clear ih
                                      refine g_iload_n X dX10_digest_149 rfl rfl ?_
                                      refine g_sipush X dX10_digest_150 (by decide +kernel) ?_
                                      refine g_icmp_ge (tgt := 200) X dX10_digest_153 (by decide) ⟨by omega, by omega⟩ (by decide) (fun q153 => ?_) (fun q153 => ?_)
                                      · refine g_iconst X dX10_digest_200 ?_
                                        refine g_istore_n_1 X dX10_digest_201 rfl rfl (fun v1_201 ev1_201 => ?_)
                                        subst v1_201
                                        have L_202 : ∀ (n : Nat) (i : Int) (M7 : Mem), (0 ≤ i) → (i ≤ M 114 1) → (HM M M7) → (M7 114 54 = itH (g7 M) (k6 M) i.toNat) → (40 - i).toNat < n → Gd pP lL eE (rmN 8 186) sS mI aA bB mM cC 0 0 Q tT dD al (fA al) 202 [some (.ref (al 114)), some (.int (iN i))] [] M7 := by
                                          intro n
                                          induction n with
                                          | zero => intro i M7 hi hi2 hH hx hm; exact absurd hm (Nat.not_lt_zero _)
                                          | succ n ih =>
                                            intro i M7 hi hi2 hH hx hm
                                            have hWx := hH.WV hW
                                            have rb : M7 114 1 = M 114 1 := hH.fld (by omega)
                                            have ih_202 := ih
                                            clear ih
                                            refine g_iload_n X dX10_digest_202 rfl rfl ?_
                                            refine g_aload_n X dX10_digest_203 rfl rfl ?_
                                            refine g_geti (kz := 1) X kd_114 fc9 (k := 1) (by decide) rfl wd_828 rfl dX10_digest_204 ?_
                                            refine g_icmp_ge (tgt := 227) X dX10_digest_207 (by decide) ⟨by omega, by omega⟩ ⟨by omega, by omega⟩ (fun q207 => ?_) (fun q207 => ?_)
                                            · refine g_iconst X dX10_digest_227 ?_
                                              refine g_istore_n_1 X dX10_digest_228 rfl rfl (fun v1_228 ev1_228 => ?_)
                                              subst v1_228
                                              have L_229 : ∀ (n : Nat) (i : Int) (M8 : Mem), (0 ≤ i) → (i ≤ 9) → (HM M M8) → (M8 114 54 = itH (g8 M) (k7 M) i.toNat) → (9 - i).toNat < n → Gd pP lL eE (rmN 8 186) sS mI aA bB mM cC 0 0 Q tT dD al (fA al) 229 [some (.ref (al 114)), some (.int (iN i))] [] M8 := by
                                                intro n
                                                induction n with
                                                | zero => intro i M8 hi hi2 hH hx hm; exact absurd hm (Nat.not_lt_zero _)
                                                | succ n ih =>
                                                  intro i M8 hi hi2 hH hx hm
                                                  have hWx := hH.WV hW
                                                  have ih_229 := ih
                                                  clear ih
                                                  refine g_iload_n X dX10_digest_229 rfl rfl ?_
                                                  refine g_bipush X dX10_digest_230 (by decide +kernel) ?_
                                                  refine g_icmp_ge (tgt := 251) X dX10_digest_232 (by decide) ⟨by omega, by omega⟩ (by decide) (fun q232 => ?_) (fun q232 => ?_)
                                                  · refine g_aload_n X dX10_digest_251 rfl rfl ?_
                                                    refine g_getl (kz := 54) X kd_114 fc9 (k := 54) (by decide) rfl wd_881 rfl dX10_digest_252 ?_
                                                    rw [hQ]
                                                    refine g_lret X hr hlk dX10_digest_255 ?_
                                                    obtain rfl : i = 9 := by omega
                                                    exact ⟨hH, hx⟩
                                                  · refine g_aload_n X dX10_digest_235 rfl rfl ?_
                                                    refine g_aload_n X dX10_digest_236 rfl rfl ?_
                                                    refine g_iload_n X dX10_digest_237 rfl rfl ?_
                                                    refine g_callVI X (c_X10_countOf lL tT dD al _ _ ⟨by omega, by omega⟩) kd_114 fc9 lk_RX10_343 rfl rfl ⟨by decide, by decide⟩ rfl (Nat.le_of_ble_eq_true rfl) dX10_digest_238 (fun r238 M238 hc238 => ?_)
                                                    obtain ⟨hr238, hm238⟩ := hc238
                                                    subst r238
                                                    subst M238
                                                    have hcr : -102 ≤ cntS M i ∧ cntS M i ≤ 100 := by unfold cntS; (repeat' split) <;> omega
                                                    refine g_teq (b := cntS M i) (by rw [hH.e_cntS]) ?_
                                                    refine g_i2l X dX10_digest_241 ⟨by omega, by omega⟩ ?_
                                                    refine g_callVV X (c_X10_say lL tT dD al _ _ ) kd_114 fc9 lk_RX10_351 rfl rfl ⟨by decide, by decide⟩ rfl (Nat.le_of_ble_eq_true rfl) dX10_digest_242 (fun M242 hc242 => ?_)
                                                    obtain ⟨hH1, hx1⟩ := say_ok hH hx hc242
                                                    refine g_iinc_1 X dX10_digest_245 rfl (fun v1_245 ev1_245 => ?_)
                                                    subst v1_245
                                                    refine g_goto (tgt := 229) X dX10_digest_248 (by decide) ?_
                                                    exact g_sub (ih_229 _ _ (by omega) (by omega) (hH1) (by rw [itH_s _ _ hi]; exact hx1) (by omega)) ⟨rfl, rfl, trivial⟩
                                              exact g_sub (L_229 _ _ _ (by omega) (by omega) (hH) (by rw [itH_0]; obtain rfl : i = M 114 1 := (by omega); exact hx) (Nat.lt_succ_self _)) ⟨rfl, rfl, trivial⟩
                                            · refine g_aload_n X dX10_digest_210 rfl rfl ?_
                                              refine g_aload_n X dX10_digest_211 rfl rfl ?_
                                              refine g_getr (r := 115) X kd_114 fc9 (k := 0) (by decide) rfl wd_827 rfl (by decide) dX10_digest_212 ?_
                                              refine g_iload_n X dX10_digest_215 rfl rfl ?_
                                              refine g_iald X kd_115 (by omega) (by omega) dX10_digest_216 ?_
                                              have hv := hP.2 i hi (by omega)
                                              refine g_teq (b := M 115 i) (by rw [hH.row (o := 115) (by omega)]) ?_
                                              refine g_i2l X dX10_digest_217 ⟨by omega, by omega⟩ ?_
                                              refine g_callVV X (c_X10_say lL tT dD al _ _ ) kd_114 fc9 lk_RX10_351 rfl rfl ⟨by decide, by decide⟩ rfl (Nat.le_of_ble_eq_true rfl) dX10_digest_218 (fun M218 hc218 => ?_)
                                              obtain ⟨hH1, hx1⟩ := say_ok hH hx hc218
                                              refine g_iinc_1 X dX10_digest_221 rfl (fun v1_221 ev1_221 => ?_)
                                              subst v1_221
                                              refine g_goto (tgt := 202) X dX10_digest_224 (by decide) ?_
                                              exact g_sub (ih_202 _ _ (by omega) (by omega) (hH1) (by rw [itH_s _ _ hi]; exact hx1) (by omega)) ⟨rfl, rfl, trivial⟩
                                        exact g_sub (L_202 _ _ _ (by omega) (by omega) (hH) (by rw [itH_0]; obtain rfl : i = 401 := (by omega); exact hx) (Nat.lt_succ_self _)) ⟨rfl, rfl, trivial⟩
                                      · refine g_aload_n X dX10_digest_156 rfl rfl ?_
                                        refine g_getr (r := 134) X kd_114 fc9 (k := 41) (by decide) rfl wd_868 rfl (by decide) dX10_digest_157 ?_
                                        refine g_iload_n X dX10_digest_160 rfl rfl ?_
                                        refine g_iald X kd_134 (by omega) (by omega) dX10_digest_161 ?_
                                        have hic := ice_rng hW hi (by omega)
                                        refine g_teq (b := M 134 i) (by rw [hH.row (o := 134) (by omega)]) ?_
                                        refine g_iconst X dX10_digest_162 ?_
                                        refine g_icmp_eq (tgt := 194) X dX10_digest_163 (by decide) ⟨by omega, by omega⟩ (by decide) (fun q163 => ?_) (fun q163 => ?_)
                                        · refine g_iinc_1 X dX10_digest_194 rfl (fun v1_194 ev1_194 => ?_)
                                          subst v1_194
                                          refine g_goto (tgt := 149) X dX10_digest_197 (by decide) ?_
                                          exact g_sub (ih_149 _ _ (by omega) (by omega) (by first | exact hH3 | exact hH) (by rw [itH_s _ _ hi]; unfold g6; first | (rw [if_pos q163]; exact hx) | (rw [if_neg q163]; exact hx3)) (by omega)) ⟨rfl, rfl, trivial⟩
                                        · refine g_aload_n X dX10_digest_166 rfl rfl ?_
                                          refine g_iload_n X dX10_digest_167 rfl rfl ?_
                                          refine g_i2l X dX10_digest_168 ⟨by omega, by omega⟩ ?_
                                          refine g_callVV X (c_X10_say lL tT dD al _ _ ) kd_114 fc9 lk_RX10_351 rfl rfl ⟨by decide, by decide⟩ rfl (Nat.le_of_ble_eq_true rfl) dX10_digest_169 (fun M169 hc169 => ?_)
                                          obtain ⟨hH1, hx1⟩ := say_ok hH hx hc169
                                          refine g_aload_n X dX10_digest_172 rfl rfl ?_
                                          refine g_aload_n X dX10_digest_173 rfl rfl ?_
                                          refine g_getr (r := 134) X kd_114 fc9 (k := 41) (by decide) rfl wd_868 rfl (by decide) dX10_digest_174 ?_
                                          refine g_iload_n X dX10_digest_177 rfl rfl ?_
                                          refine g_iald X kd_134 (by omega) (by omega) dX10_digest_178 ?_
                                          refine g_teq (b := M 134 i) (by rw [hH1.row (o := 134) (by omega)]) ?_
                                          refine g_i2l X dX10_digest_179 hic.1 ?_
                                          refine g_callVV X (c_X10_say lL tT dD al _ _ ) kd_114 fc9 lk_RX10_351 rfl rfl ⟨by decide, by decide⟩ rfl (Nat.le_of_ble_eq_true rfl) dX10_digest_180 (fun M180 hc180 => ?_)
                                          obtain ⟨hH2, hx2⟩ := say_ok hH1 hx1 hc180
                                          refine g_aload_n X dX10_digest_183 rfl rfl ?_
                                          refine g_aload_n X dX10_digest_184 rfl rfl ?_
                                          refine g_getr (r := 135) X kd_114 fc9 (k := 42) (by decide) rfl wd_869 rfl (by decide) dX10_digest_185 ?_
                                          refine g_iload_n X dX10_digest_188 rfl rfl ?_
                                          refine g_iald X kd_135 (by omega) (by omega) dX10_digest_189 ?_
                                          refine g_teq (b := M 135 i) (by rw [hH2.row (o := 135) (by omega)]) ?_
                                          refine g_i2l X dX10_digest_190 hic.2 ?_
                                          refine g_callVV X (c_X10_say lL tT dD al _ _ ) kd_114 fc9 lk_RX10_351 rfl rfl ⟨by decide, by decide⟩ rfl (Nat.le_of_ble_eq_true rfl) dX10_digest_191 (fun M191 hc191 => ?_)
                                          obtain ⟨hH3, hx3⟩ := say_ok hH2 hx2 hc191
                                          refine g_iinc_1 X dX10_digest_194 rfl (fun v1_194 ev1_194 => ?_)
                                          subst v1_194
                                          refine g_goto (tgt := 149) X dX10_digest_197 (by decide) ?_
                                          exact g_sub (ih_149 _ _ (by omega) (by omega) (by first | exact hH3 | exact hH) (by rw [itH_s _ _ hi]; unfold g6; first | (rw [if_pos q163]; exact hx) | (rw [if_neg q163]; exact hx3)) (by omega)) ⟨rfl, rfl, trivial⟩
                                  exact g_sub (L_149 _ _ _ (by omega) (by omega) (hH) (by rw [itH_0]; exact h5) (Nat.lt_succ_self _)) ⟨rfl, rfl, trivial⟩
                                · refine g_aload_n X dX10_digest_131 rfl rfl ?_
                                  refine g_aload_n X dX10_digest_132 rfl rfl ?_
                                  refine g_iload_n X dX10_digest_133 rfl rfl ?_
                                  refine g_callVI X (c_X10_wrongOf lL tT dD al _ _ hWx hi (by omega)) kd_114 fc9 lk_RX10_334 rfl rfl ⟨by decide, by decide⟩ rfl (Nat.le_of_ble_eq_true rfl) dX10_digest_134 (fun r134 M134 hc134 => ?_)
                                  obtain ⟨hr134, hc134⟩ := hc134
                                  subst r134
                                  have hwr := wrS_rng (M := M) i (n := (M 114 23).toNat) (by omega)
                                  refine g_teq (b := wrS M i (M 114 23).toNat) (by rw [hH.e_wrS, hH.fld (k := 23) (by omega)]) ?_
                                  refine g_i2l X dX10_digest_137 ⟨by omega, by omega⟩ ?_
                                  refine g_callVV X (c_X10_say lL tT dD al _ _ ) kd_114 fc9 lk_RX10_351 rfl rfl ⟨by decide, by decide⟩ rfl (Nat.le_of_ble_eq_true rfl) dX10_digest_138 (fun M138 hc138 => ?_)
                                  obtain ⟨hH1, hx1⟩ := say_ok (x := itH (g5 M) (k4 M) i.toNat) (hH.tr (HM.sm hc134)) (by rw [hc134.fld (k := 54) (by omega)]; exact hx) hc138
                                  refine g_iinc_1 X dX10_digest_141 rfl (fun v1_141 ev1_141 => ?_)
                                  subst v1_141
                                  refine g_goto (tgt := 116) X dX10_digest_144 (by decide) ?_
                                  exact g_sub (ih_116 _ _ (by omega) (by omega) (hH1) (by rw [itH_s _ _ hi]; exact hx1) (by omega) (by omega)) ⟨rfl, rfl, trivial⟩
                          exact g_sub (L_116 _ _ _ (by omega) (by omega) (hH) (by rw [itH_0]; obtain rfl : i = M 114 15 := (by omega); exact hx) (by omega) (Nat.lt_succ_self _)) ⟨rfl, rfl, trivial⟩
                        · refine g_aload_n X dX10_digest_103 rfl rfl ?_
                          refine g_iload_n X dX10_digest_104 rfl rfl ?_
                          refine g_callVV X (c_X10_sayMeasure lL tT dD al _ _ hWx hi (by omega)) kd_114 fc9 lk_RX10_361 rfl rfl ⟨by decide, by decide⟩ rfl (Nat.le_of_ble_eq_true rfl) dX10_digest_105 (fun M105 hc105 => ?_)
                          have hH1 := hH.tr hc105.1
                          have hx1 : M105 114 54 = smH M i (itH (smH M) (k3 M) i.toNat) := by rw [hc105.2, hH.e_smH, hx]
                          refine g_iinc_1 X dX10_digest_108 rfl (fun v1_108 ev1_108 => ?_)
                          subst v1_108
                          refine g_goto (tgt := 95) X dX10_digest_111 (by decide) ?_
                          exact g_sub (ih_95 _ _ (by omega) (by omega) (hH1) (by rw [itH_s _ _ hi]; exact hx1) (by omega)) ⟨rfl, rfl, trivial⟩
                    exact g_sub (L_95 _ _ _ (by omega) (by omega) (hH) (by rw [itH_0]; obtain rfl : i = M 114 26 := (by omega); exact hx) (Nat.lt_succ_self _)) ⟨rfl, rfl, trivial⟩
                  · refine g_aload_n X dX10_digest_76 rfl rfl ?_
                    refine g_aload_n X dX10_digest_77 rfl rfl ?_
                    refine g_getr (r := 126) X kd_114 fc9 (k := 27) (by decide) rfl wd_854 rfl (by decide) dX10_digest_78 ?_
                    refine g_iload_n X dX10_digest_81 rfl rfl ?_
                    refine g_iald X kd_126 (by omega) (by omega) dX10_digest_82 ?_
                    have hv := hW.mts hi (by omega)
                    refine g_teq (b := M 126 i) (by rw [hH.row (o := 126) (by omega)]) ?_
                    refine g_i2l X dX10_digest_83 ⟨by omega, by omega⟩ ?_
                    refine g_callVV X (c_X10_say lL tT dD al _ _ ) kd_114 fc9 lk_RX10_351 rfl rfl ⟨by decide, by decide⟩ rfl (Nat.le_of_ble_eq_true rfl) dX10_digest_84 (fun M84 hc84 => ?_)
                    obtain ⟨hH1, hx1⟩ := say_ok hH hx hc84
                    refine g_iinc_1 X dX10_digest_87 rfl (fun v1_87 ev1_87 => ?_)
                    subst v1_87
                    refine g_goto (tgt := 68) X dX10_digest_90 (by decide) ?_
                    exact g_sub (ih_68 _ _ (by omega) (by omega) (hH1) (by rw [itH_s _ _ hi]; exact hx1) (by omega)) ⟨rfl, rfl, trivial⟩
              exact g_sub (L_68 _ _ _ (by omega) (by omega) (hH) (by rw [itH_0]; obtain rfl : i = M 114 23 := (by omega); exact hx) (Nat.lt_succ_self _)) ⟨rfl, rfl, trivial⟩
            · refine g_aload_n X dX10_digest_55 rfl rfl ?_
              refine g_iload_n X dX10_digest_56 rfl rfl ?_
              refine g_callVV X (c_X10_sayPicture lL tT dD al _ _ hWx hi (by omega)) kd_114 fc9 lk_RX10_357 rfl rfl ⟨by decide, by decide⟩ rfl (Nat.le_of_ble_eq_true rfl) dX10_digest_57 (fun M57 hc57 => ?_)
              have hH1 : HM M M57 := by rw [hc57]; exact hH.tr (HM.of M2 _)
              have hx1 : M57 114 54 = spH M i (itH (spH M) (k1 M) i.toNat) := by rw [hc57, mu_same, hH.e_spH, hx]
              refine g_iinc_1 X dX10_digest_60 rfl (fun v1_60 ev1_60 => ?_)
              subst v1_60
              refine g_goto (tgt := 47) X dX10_digest_63 (by decide) ?_
              exact g_sub (ih_47 _ _ (by omega) (by omega) (hH1) (by rw [itH_s _ _ hi]; exact hx1) (by omega)) ⟨rfl, rfl, trivial⟩
        exact g_sub (L_47 _ _ _ (by omega) (by omega) (hH) (by rw [itH_0]; obtain rfl : i = M 114 20 := (by omega); exact hx) (Nat.lt_succ_self _)) ⟨rfl, rfl, trivial⟩
      · refine g_aload_n X dX10_digest_17 rfl rfl ?_
        refine g_aload_n X dX10_digest_18 rfl rfl ?_
        refine g_getr (r := 122) X kd_114 fc9 (k := 21) (by decide) rfl wd_848 rfl (by decide) dX10_digest_19 ?_
        refine g_iload_n X dX10_digest_22 rfl rfl ?_
        refine g_iald X kd_122 (by omega) (by omega) dX10_digest_23 ?_
        have hv := wp.2 i hi (by omega)
        refine g_teq (b := M 122 i) (by rw [hH.row (o := 122) (by omega)]) ?_
        refine g_i2l X dX10_digest_24 ⟨by omega, by omega⟩ ?_
        refine g_callVV X (c_X10_say lL tT dD al _ _ ) kd_114 fc9 lk_RX10_351 rfl rfl ⟨by decide, by decide⟩ rfl (Nat.le_of_ble_eq_true rfl) dX10_digest_25 (fun M25 hc25 => ?_)
        obtain ⟨hH1, hx1⟩ := say_ok hH hx hc25
        refine g_aload_n X dX10_digest_28 rfl rfl ?_
        refine g_aload_n X dX10_digest_29 rfl rfl ?_
        refine g_getr (r := 123) X kd_114 fc9 (k := 22) (by decide) rfl wd_849 rfl (by decide) dX10_digest_30 ?_
        refine g_iload_n X dX10_digest_33 rfl rfl ?_
        refine g_iald X kd_123 (by omega) (by omega) dX10_digest_34 ?_
        have hv2 := wp.2 i hi (by omega)
        refine g_teq (b := M 123 i) (by rw [hH1.row (o := 123) (by omega)]) ?_
        refine g_i2l X dX10_digest_35 ⟨by omega, by omega⟩ ?_
        refine g_callVV X (c_X10_say lL tT dD al _ _ ) kd_114 fc9 lk_RX10_351 rfl rfl ⟨by decide, by decide⟩ rfl (Nat.le_of_ble_eq_true rfl) dX10_digest_36 (fun M36 hc36 => ?_)
        obtain ⟨hH2, hx2⟩ := say_ok hH1 hx1 hc36
        refine g_iinc_1 X dX10_digest_39 rfl (fun v1_39 ev1_39 => ?_)
        subst v1_39
        refine g_goto (tgt := 9) X dX10_digest_42 (by decide) ?_
        exact g_sub (ih_9 _ _ (by omega) (by omega) (hH2) (by rw [itH_s _ _ hi]; exact hx2) (by omega)) ⟨rfl, rfl, trivial⟩
  exact g_sub (L_9 _ _ _ (by omega) (by omega) (HM.of M 421) (by rw [itH_0]; exact mu_same _ _ _ _) (Nat.lt_succ_self _)) ⟨rfl, rfl, trivial⟩
