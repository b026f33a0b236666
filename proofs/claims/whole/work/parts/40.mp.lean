set_option maxRecDepth 100000 in
set_option maxHeartbeats 4000000 in
theorem c_X10_reach (lL : Launch) (tT : TT) (dD : va_G) (al : Int → Nat) (M : Mem)  (hn : 0 ≤ M 114 4 ∧ M 114 4 ≤ 4) : CI lL yX10_reach cX10_reach 1 FieldType.int 0 0 tT dD al [.ref (al 114)] M (fun r M' => r = rchS (M 114 4) (M 114 3) ∧ M' = M) := by
  refine CI.of (own := "RedSkiesModel") (ls0 := [some (.ref (al 114))]) (by decide +kernel) rfl (Nat.le_of_ble_eq_true rfl) rfl ?_
  intro pP eE sS mI aA bB mM cC X hr hlk
  obtain ⟨Q, hQ⟩ : ∃ Q : State → Prop, Q = MQ bB (QI tT dD al (fun r M' => r = rchS (M 114 4) (M 114 3) ∧ M' = M)) aA sS 0 0 (fA al) := ⟨_, rfl⟩
  rw [← hQ]
  refine g_aload_n X dX10_reach_0 rfl rfl ?_
  refine g_geti (kz := 4) X kd_114 fc9 (k := 4) (by decide) rfl wd_831 rfl dX10_reach_1 ?_
  refine g_iconst X dX10_reach_4 ?_
  refine g_icmp_ne (tgt := 21) X dX10_reach_5 (by decide) ⟨by omega, by omega⟩ (by decide) (fun q5 => ?_) (fun q5 => ?_)
  · refine g_aload_n X dX10_reach_21 rfl rfl ?_
    refine g_geti (kz := 4) X kd_114 fc9 (k := 4) (by decide) rfl wd_831 rfl dX10_reach_22 ?_
    refine g_iconst X dX10_reach_25 ?_
    refine g_icmp_ne (tgt := 42) X dX10_reach_26 (by decide) ⟨by omega, by omega⟩ (by decide) (fun q26 => ?_) (fun q26 => ?_)
    · refine g_aload_n X dX10_reach_42 rfl rfl ?_
      refine g_geti (kz := 3) X kd_114 fc9 (k := 3) (by decide) rfl wd_830 rfl dX10_reach_43 ?_
      rw [hQ]
      refine g_iret X hr hlk dX10_reach_46 ?_
      clear X hr hlk hQ
      exact ⟨by unfold rchS; grind, rfl⟩
    · refine g_bipush X dX10_reach_29 (by decide +kernel) ?_
      refine g_aload_n X dX10_reach_31 rfl rfl ?_
      refine g_geti (kz := 3) X kd_114 fc9 (k := 3) (by decide) rfl wd_830 rfl dX10_reach_32 ?_
      refine g_imul X dX10_reach_35 ?_
      refine g_bipush X dX10_reach_36 (by decide +kernel) ?_
      refine g_iadd X dX10_reach_38 ?_
      refine g_goto (tgt := 46) X dX10_reach_39 (by decide) ?_
      rw [hQ]
      refine g_iret X hr hlk dX10_reach_46 ?_
      clear X hr hlk hQ
      exact ⟨by unfold rchS; grind, rfl⟩
  · refine g_bipush X dX10_reach_8 (by decide +kernel) ?_
    refine g_aload_n X dX10_reach_10 rfl rfl ?_
    refine g_geti (kz := 3) X kd_114 fc9 (k := 3) (by decide) rfl wd_830 rfl dX10_reach_11 ?_
    refine g_imul X dX10_reach_14 ?_
    refine g_bipush X dX10_reach_15 (by decide +kernel) ?_
    refine g_iadd X dX10_reach_17 ?_
    refine g_goto (tgt := 46) X dX10_reach_18 (by decide) ?_
    rw [hQ]
    refine g_iret X hr hlk dX10_reach_46 ?_
    clear X hr hlk hQ
    exact ⟨by unfold rchS; grind, rfl⟩
set_option maxRecDepth 100000 in
set_option maxHeartbeats 4000000 in
theorem c_X10_goLaw (lL : Launch) (tT : TT) (dD : va_G) (al : Int → Nat) (M : Mem) (c : Int) (hG : GW M) (hc : 1 ≤ c ∧ c ≤ 126) : CI lL yX10_goLaw cX10_goLaw 5 FieldType.boolean 2 45 tT dD al [.ref (al 114), .int (iN c)] M (fun r M' => r = b2i (lwOk M c) ∧ M' = lwM M c) := by
  refine CI.of (own := "RedSkiesModel") (ls0 := [some (.ref (al 114)), some (.int (iN c)), none, none, none]) (by decide +kernel) rfl (Nat.le_of_ble_eq_true rfl) rfl ?_
  intro pP eE sS mI aA bB mM cC X hr hlk
  obtain ⟨Q, hQ⟩ : ∃ Q : State → Prop, Q = MQ bB (QI tT dD al (fun r M' => r = b2i (lwOk M c) ∧ M' = lwM M c)) aA sS 0 0 (fA al) := ⟨_, rfl⟩
  rw [← hQ]
  have hlw := lwB_rng hG
  have hG0 := hG
  have n0 : M 114 2 = 0 → lwN M = 1 := fun q => by unfold lwN; rw [if_pos q]
  have n1 : ¬ M 114 2 = 0 → lwN M = M 114 4 + 1 := fun q => by unfold lwN; rw [if_neg q]
  obtain ⟨g1, g2, g3, g4, g5, g6⟩ := hG
  have J_132_1 : ∀  (pb : Int), (pb = lwB M) → (¬ (M 114 2 < 2 ∧ 48 ≤ c ∧ c ≤ 57)) → Gd pP lL eE (rmN 2 45) sS mI aA bB mM cC 0 0 Q tT dD al (fA al) 132 [some (.ref (al 114)), some (.int (iN c)), some (.int (iN pb)), none, none] [] M := by
    intro pb hj132_0 hj132_1
    refine g_aload_n X dX10_goLaw_132 rfl rfl ?_
    refine g_geti (kz := 2) X kd_114 fc9 (k := 2) (by decide) rfl wd_829 rfl dX10_goLaw_133 ?_
    refine g_iconst X dX10_goLaw_136 ?_
    refine g_icmp_ge (tgt := 256) X dX10_goLaw_137 (by decide) ⟨by omega, by omega⟩ (by decide) (fun q137 => ?_) (fun q137 => ?_)
    · refine g_aload_n X dX10_goLaw_256 rfl rfl ?_
      refine g_aload_n X dX10_goLaw_257 rfl rfl ?_
      refine g_geti (kz := 2) X kd_114 fc9 (k := 2) (by decide) rfl wd_829 rfl dX10_goLaw_258 ?_
      refine g_iconst X dX10_goLaw_261 ?_
      refine g_icmp_ne (tgt := 272) X dX10_goLaw_262 (by decide) ⟨by omega, by omega⟩ (by decide) (fun q262 => ?_) (fun q262 => ?_)
      · refine g_bipush X dX10_goLaw_272 (by decide +kernel) ?_
        refine g_aload_n X dX10_goLaw_274 rfl rfl ?_
        refine g_geti (kz := 3) X kd_114 fc9 (k := 3) (by decide) rfl wd_830 rfl dX10_goLaw_275 ?_
        refine g_imul X dX10_goLaw_278 ?_
        refine g_iload_n X dX10_goLaw_279 rfl rfl ?_
        refine g_iadd X dX10_goLaw_280 ?_
        refine g_bipush X dX10_goLaw_281 (by decide +kernel) ?_
        refine g_isub X dX10_goLaw_283 ?_
        refine g_puti (kz := 3) X kd_114 fc9 (k := 3) (by decide) rfl wd_830 rfl rfl rfl dX10_goLaw_284 ?_
        refine g_iload_n X dX10_goLaw_287 rfl rfl ?_
        refine g_callSI X (c_X10_isDigit lL tT dD al _ _ ⟨by omega, by omega⟩) lk_RX10_110 rfl rfl ⟨by decide, by decide⟩ rfl (Nat.le_of_ble_eq_true rfl) dX10_goLaw_288 (fun r288 M288 hc288 => ?_)
        obtain ⟨hr288, hm288⟩ := hc288
        subst r288
        subst M288
        refine g_if_eq (tgt := 306) X dX10_goLaw_291 (by decide) (b2i_i32 _) (fun q291 => ?_) (fun q291 => ?_)
        · have q291 := b2i_f q291
          refine g_iconst X dX10_goLaw_306 ?_
          refine g_istore_n_3 X dX10_goLaw_307 rfl rfl (fun v3_307 ev3_307 => ?_)
          subst v3_307
          refine g_aload_n X dX10_goLaw_308 rfl rfl ?_
          refine g_aload_n X dX10_goLaw_309 rfl rfl ?_
          refine g_geti (kz := 2) X kd_114 fc9 (k := 2) (by decide) rfl wd_829 rfl dX10_goLaw_310 ?_
          refine g_teq (b := (M 114 2)) (by first | (simp [mu]; done) | (simp only [mu]; repeat (first | rw [if_pos (⟨rfl, rfl⟩)] | rw [if_neg (by omega)]))) ?_
          refine g_iconst X dX10_goLaw_313 ?_
          refine g_icmp_ne (tgt := 327) X dX10_goLaw_314 (by decide) ⟨by omega, by omega⟩ (by decide) (fun q314 => ?_) (fun q314 => ?_)
          · refine g_iconst X dX10_goLaw_327 ?_
            refine g_puti (kz := 2) X kd_114 fc9 (k := 2) (by decide) rfl wd_829 rfl rfl rfl dX10_goLaw_328 ?_
            refine g_iload_n X dX10_goLaw_331 rfl rfl ?_
            rw [hQ]
            refine g_zret X hr hlk (by decide) dX10_goLaw_332 ?_
            first | (exfalso; omega) | exact ⟨by first | exact b2i_1 (by unfold lwOk; omega) | exact b2i_0 (by unfold lwOk; omega), by unfold lwM lwC; rw [if_neg (by omega), if_neg (by omega)]; first | rw [if_pos (by omega), if_pos (by omega)] | rw [if_pos (by omega), if_neg (by omega)] | rw [if_neg (by omega), if_neg (by omega)]⟩
          · refine g_iload_n X dX10_goLaw_317 rfl rfl ?_
            refine g_bipush X dX10_goLaw_318 (by decide +kernel) ?_
            refine g_icmp_eq (tgt := 327) X dX10_goLaw_320 (by decide) ⟨by omega, by omega⟩ (by decide) (fun q320 => ?_) (fun q320 => ?_)
            · refine g_iconst X dX10_goLaw_327 ?_
              refine g_puti (kz := 2) X kd_114 fc9 (k := 2) (by decide) rfl wd_829 rfl rfl rfl dX10_goLaw_328 ?_
              refine g_iload_n X dX10_goLaw_331 rfl rfl ?_
              rw [hQ]
              refine g_zret X hr hlk (by decide) dX10_goLaw_332 ?_
              first | (exfalso; omega) | exact ⟨by first | exact b2i_1 (by unfold lwOk; omega) | exact b2i_0 (by unfold lwOk; omega), by unfold lwM lwC; rw [if_neg (by omega), if_neg (by omega)]; first | rw [if_pos (by omega), if_pos (by omega)] | rw [if_pos (by omega), if_neg (by omega)] | rw [if_neg (by omega), if_neg (by omega)]⟩
            · refine g_iconst X dX10_goLaw_323 ?_
              refine g_goto (tgt := 328) X dX10_goLaw_324 (by decide) ?_
              refine g_puti (kz := 2) X kd_114 fc9 (k := 2) (by decide) rfl wd_829 rfl rfl rfl dX10_goLaw_328 ?_
              refine g_iload_n X dX10_goLaw_331 rfl rfl ?_
              rw [hQ]
              refine g_zret X hr hlk (by decide) dX10_goLaw_332 ?_
              first | (exfalso; omega) | exact ⟨by first | exact b2i_1 (by unfold lwOk; omega) | exact b2i_0 (by unfold lwOk; omega), by unfold lwM lwC; rw [if_neg (by omega), if_neg (by omega)]; first | rw [if_pos (by omega), if_pos (by omega)] | rw [if_pos (by omega), if_neg (by omega)] | rw [if_neg (by omega), if_neg (by omega)]⟩
        · have q291 := b2i_t q291
          refine g_aload_n X dX10_goLaw_294 rfl rfl ?_
          refine g_geti (kz := 2) X kd_114 fc9 (k := 2) (by decide) rfl wd_829 rfl dX10_goLaw_295 ?_
          refine g_teq (b := (M 114 2)) (by first | (simp [mu]; done) | (simp only [mu]; repeat (first | rw [if_pos (⟨rfl, rfl⟩)] | rw [if_neg (by omega)]))) ?_
          refine g_iconst X dX10_goLaw_298 ?_
          refine g_icmp_ge (tgt := 306) X dX10_goLaw_299 (by decide) ⟨by omega, by omega⟩ (by decide) (fun q299 => ?_) (fun q299 => ?_)
          · refine g_iconst X dX10_goLaw_306 ?_
            refine g_istore_n_3 X dX10_goLaw_307 rfl rfl (fun v3_307 ev3_307 => ?_)
            subst v3_307
            refine g_aload_n X dX10_goLaw_308 rfl rfl ?_
            refine g_aload_n X dX10_goLaw_309 rfl rfl ?_
            refine g_geti (kz := 2) X kd_114 fc9 (k := 2) (by decide) rfl wd_829 rfl dX10_goLaw_310 ?_
            refine g_teq (b := (M 114 2)) (by first | (simp [mu]; done) | (simp only [mu]; repeat (first | rw [if_pos (⟨rfl, rfl⟩)] | rw [if_neg (by omega)]))) ?_
            refine g_iconst X dX10_goLaw_313 ?_
            refine g_icmp_ne (tgt := 327) X dX10_goLaw_314 (by decide) ⟨by omega, by omega⟩ (by decide) (fun q314 => ?_) (fun q314 => ?_)
            · refine g_iconst X dX10_goLaw_327 ?_
              refine g_puti (kz := 2) X kd_114 fc9 (k := 2) (by decide) rfl wd_829 rfl rfl rfl dX10_goLaw_328 ?_
              refine g_iload_n X dX10_goLaw_331 rfl rfl ?_
              rw [hQ]
              refine g_zret X hr hlk (by decide) dX10_goLaw_332 ?_
              first | (exfalso; omega) | exact ⟨by first | exact b2i_1 (by unfold lwOk; omega) | exact b2i_0 (by unfold lwOk; omega), by unfold lwM lwC; rw [if_neg (by omega), if_neg (by omega)]; first | rw [if_pos (by omega), if_pos (by omega)] | rw [if_pos (by omega), if_neg (by omega)] | rw [if_neg (by omega), if_neg (by omega)]⟩
            · refine g_iload_n X dX10_goLaw_317 rfl rfl ?_
              refine g_bipush X dX10_goLaw_318 (by decide +kernel) ?_
              refine g_icmp_eq (tgt := 327) X dX10_goLaw_320 (by decide) ⟨by omega, by omega⟩ (by decide) (fun q320 => ?_) (fun q320 => ?_)
              · refine g_iconst X dX10_goLaw_327 ?_
                refine g_puti (kz := 2) X kd_114 fc9 (k := 2) (by decide) rfl wd_829 rfl rfl rfl dX10_goLaw_328 ?_
                refine g_iload_n X dX10_goLaw_331 rfl rfl ?_
                rw [hQ]
                refine g_zret X hr hlk (by decide) dX10_goLaw_332 ?_
                first | (exfalso; omega) | exact ⟨by first | exact b2i_1 (by unfold lwOk; omega) | exact b2i_0 (by unfold lwOk; omega), by unfold lwM lwC; rw [if_neg (by omega), if_neg (by omega)]; first | rw [if_pos (by omega), if_pos (by omega)] | rw [if_pos (by omega), if_neg (by omega)] | rw [if_neg (by omega), if_neg (by omega)]⟩
              · refine g_iconst X dX10_goLaw_323 ?_
                refine g_goto (tgt := 328) X dX10_goLaw_324 (by decide) ?_
                refine g_puti (kz := 2) X kd_114 fc9 (k := 2) (by decide) rfl wd_829 rfl rfl rfl dX10_goLaw_328 ?_
                refine g_iload_n X dX10_goLaw_331 rfl rfl ?_
                rw [hQ]
                refine g_zret X hr hlk (by decide) dX10_goLaw_332 ?_
                first | (exfalso; omega) | exact ⟨by first | exact b2i_1 (by unfold lwOk; omega) | exact b2i_0 (by unfold lwOk; omega), by unfold lwM lwC; rw [if_neg (by omega), if_neg (by omega)]; first | rw [if_pos (by omega), if_pos (by omega)] | rw [if_pos (by omega), if_neg (by omega)] | rw [if_neg (by omega), if_neg (by omega)]⟩
          · refine g_iconst X dX10_goLaw_302 ?_
            refine g_goto (tgt := 307) X dX10_goLaw_303 (by decide) ?_
            refine g_istore_n_3 X dX10_goLaw_307 rfl rfl (fun v3_307 ev3_307 => ?_)
            subst v3_307
            refine g_aload_n X dX10_goLaw_308 rfl rfl ?_
            refine g_aload_n X dX10_goLaw_309 rfl rfl ?_
            refine g_geti (kz := 2) X kd_114 fc9 (k := 2) (by decide) rfl wd_829 rfl dX10_goLaw_310 ?_
            refine g_teq (b := (M 114 2)) (by first | (simp [mu]; done) | (simp only [mu]; repeat (first | rw [if_pos (⟨rfl, rfl⟩)] | rw [if_neg (by omega)]))) ?_
            refine g_iconst X dX10_goLaw_313 ?_
            refine g_icmp_ne (tgt := 327) X dX10_goLaw_314 (by decide) ⟨by omega, by omega⟩ (by decide) (fun q314 => ?_) (fun q314 => ?_)
            · refine g_iconst X dX10_goLaw_327 ?_
              refine g_puti (kz := 2) X kd_114 fc9 (k := 2) (by decide) rfl wd_829 rfl rfl rfl dX10_goLaw_328 ?_
              refine g_iload_n X dX10_goLaw_331 rfl rfl ?_
              rw [hQ]
              refine g_zret X hr hlk (by decide) dX10_goLaw_332 ?_
              first | (exfalso; omega) | exact ⟨by first | exact b2i_1 (by unfold lwOk; omega) | exact b2i_0 (by unfold lwOk; omega), by unfold lwM lwC; rw [if_neg (by omega), if_neg (by omega)]; first | rw [if_pos (by omega), if_pos (by omega)] | rw [if_pos (by omega), if_neg (by omega)] | rw [if_neg (by omega), if_neg (by omega)]⟩
            · refine g_iload_n X dX10_goLaw_317 rfl rfl ?_
              refine g_bipush X dX10_goLaw_318 (by decide +kernel) ?_
              refine g_icmp_eq (tgt := 327) X dX10_goLaw_320 (by decide) ⟨by omega, by omega⟩ (by decide) (fun q320 => ?_) (fun q320 => ?_)
              · refine g_iconst X dX10_goLaw_327 ?_
                refine g_puti (kz := 2) X kd_114 fc9 (k := 2) (by decide) rfl wd_829 rfl rfl rfl dX10_goLaw_328 ?_
                refine g_iload_n X dX10_goLaw_331 rfl rfl ?_
                rw [hQ]
                refine g_zret X hr hlk (by decide) dX10_goLaw_332 ?_
                first | (exfalso; omega) | exact ⟨by first | exact b2i_1 (by unfold lwOk; omega) | exact b2i_0 (by unfold lwOk; omega), by unfold lwM lwC; rw [if_neg (by omega), if_neg (by omega)]; first | rw [if_pos (by omega), if_pos (by omega)] | rw [if_pos (by omega), if_neg (by omega)] | rw [if_neg (by omega), if_neg (by omega)]⟩
              · refine g_iconst X dX10_goLaw_323 ?_
                refine g_goto (tgt := 328) X dX10_goLaw_324 (by decide) ?_
                refine g_puti (kz := 2) X kd_114 fc9 (k := 2) (by decide) rfl wd_829 rfl rfl rfl dX10_goLaw_328 ?_
                refine g_iload_n X dX10_goLaw_331 rfl rfl ?_
                rw [hQ]
                refine g_zret X hr hlk (by decide) dX10_goLaw_332 ?_
                first | (exfalso; omega) | exact ⟨by first | exact b2i_1 (by unfold lwOk; omega) | exact b2i_0 (by unfold lwOk; omega), by unfold lwM lwC; rw [if_neg (by omega), if_neg (by omega)]; first | rw [if_pos (by omega), if_pos (by omega)] | rw [if_pos (by omega), if_neg (by omega)] | rw [if_neg (by omega), if_neg (by omega)]⟩
      · refine g_iload_n X dX10_goLaw_265 rfl rfl ?_
        refine g_bipush X dX10_goLaw_266 (by decide +kernel) ?_
        refine g_isub X dX10_goLaw_268 ?_
        refine g_goto (tgt := 284) X dX10_goLaw_269 (by decide) ?_
        refine g_puti (kz := 3) X kd_114 fc9 (k := 3) (by decide) rfl wd_830 rfl rfl rfl dX10_goLaw_284 ?_
        refine g_iload_n X dX10_goLaw_287 rfl rfl ?_
        refine g_callSI X (c_X10_isDigit lL tT dD al _ _ ⟨by omega, by omega⟩) lk_RX10_110 rfl rfl ⟨by decide, by decide⟩ rfl (Nat.le_of_ble_eq_true rfl) dX10_goLaw_288 (fun r288 M288 hc288 => ?_)
        obtain ⟨hr288, hm288⟩ := hc288
        subst r288
        subst M288
        refine g_if_eq (tgt := 306) X dX10_goLaw_291 (by decide) (b2i_i32 _) (fun q291 => ?_) (fun q291 => ?_)
        · have q291 := b2i_f q291
          refine g_iconst X dX10_goLaw_306 ?_
          refine g_istore_n_3 X dX10_goLaw_307 rfl rfl (fun v3_307 ev3_307 => ?_)
          subst v3_307
          refine g_aload_n X dX10_goLaw_308 rfl rfl ?_
          refine g_aload_n X dX10_goLaw_309 rfl rfl ?_
          refine g_geti (kz := 2) X kd_114 fc9 (k := 2) (by decide) rfl wd_829 rfl dX10_goLaw_310 ?_
          refine g_teq (b := (M 114 2)) (by first | (simp [mu]; done) | (simp only [mu]; repeat (first | rw [if_pos (⟨rfl, rfl⟩)] | rw [if_neg (by omega)]))) ?_
          refine g_iconst X dX10_goLaw_313 ?_
          refine g_icmp_ne (tgt := 327) X dX10_goLaw_314 (by decide) ⟨by omega, by omega⟩ (by decide) (fun q314 => ?_) (fun q314 => ?_)
          · refine g_iconst X dX10_goLaw_327 ?_
            refine g_puti (kz := 2) X kd_114 fc9 (k := 2) (by decide) rfl wd_829 rfl rfl rfl dX10_goLaw_328 ?_
            refine g_iload_n X dX10_goLaw_331 rfl rfl ?_
            rw [hQ]
            refine g_zret X hr hlk (by decide) dX10_goLaw_332 ?_
            first | (exfalso; omega) | exact ⟨by first | exact b2i_1 (by unfold lwOk; omega) | exact b2i_0 (by unfold lwOk; omega), by unfold lwM lwC; rw [if_neg (by omega), if_neg (by omega)]; first | rw [if_pos (by omega), if_pos (by omega)] | rw [if_pos (by omega), if_neg (by omega)] | rw [if_neg (by omega), if_neg (by omega)]⟩
          · refine g_iload_n X dX10_goLaw_317 rfl rfl ?_
            refine g_bipush X dX10_goLaw_318 (by decide +kernel) ?_
            refine g_icmp_eq (tgt := 327) X dX10_goLaw_320 (by decide) ⟨by omega, by omega⟩ (by decide) (fun q320 => ?_) (fun q320 => ?_)
            · refine g_iconst X dX10_goLaw_327 ?_
              refine g_puti (kz := 2) X kd_114 fc9 (k := 2) (by decide) rfl wd_829 rfl rfl rfl dX10_goLaw_328 ?_
              refine g_iload_n X dX10_goLaw_331 rfl rfl ?_
              rw [hQ]
              refine g_zret X hr hlk (by decide) dX10_goLaw_332 ?_
              first | (exfalso; omega) | exact ⟨by first | exact b2i_1 (by unfold lwOk; omega) | exact b2i_0 (by unfold lwOk; omega), by unfold lwM lwC; rw [if_neg (by omega), if_neg (by omega)]; first | rw [if_pos (by omega), if_pos (by omega)] | rw [if_pos (by omega), if_neg (by omega)] | rw [if_neg (by omega), if_neg (by omega)]⟩
            · refine g_iconst X dX10_goLaw_323 ?_
              refine g_goto (tgt := 328) X dX10_goLaw_324 (by decide) ?_
              refine g_puti (kz := 2) X kd_114 fc9 (k := 2) (by decide) rfl wd_829 rfl rfl rfl dX10_goLaw_328 ?_
              refine g_iload_n X dX10_goLaw_331 rfl rfl ?_
              rw [hQ]
              refine g_zret X hr hlk (by decide) dX10_goLaw_332 ?_
              first | (exfalso; omega) | exact ⟨by first | exact b2i_1 (by unfold lwOk; omega) | exact b2i_0 (by unfold lwOk; omega), by unfold lwM lwC; rw [if_neg (by omega), if_neg (by omega)]; first | rw [if_pos (by omega), if_pos (by omega)] | rw [if_pos (by omega), if_neg (by omega)] | rw [if_neg (by omega), if_neg (by omega)]⟩
        · have q291 := b2i_t q291
          refine g_aload_n X dX10_goLaw_294 rfl rfl ?_
          refine g_geti (kz := 2) X kd_114 fc9 (k := 2) (by decide) rfl wd_829 rfl dX10_goLaw_295 ?_
          refine g_teq (b := (M 114 2)) (by first | (simp [mu]; done) | (simp only [mu]; repeat (first | rw [if_pos (⟨rfl, rfl⟩)] | rw [if_neg (by omega)]))) ?_
          refine g_iconst X dX10_goLaw_298 ?_
          refine g_icmp_ge (tgt := 306) X dX10_goLaw_299 (by decide) ⟨by omega, by omega⟩ (by decide) (fun q299 => ?_) (fun q299 => ?_)
          · refine g_iconst X dX10_goLaw_306 ?_
            refine g_istore_n_3 X dX10_goLaw_307 rfl rfl (fun v3_307 ev3_307 => ?_)
            subst v3_307
            refine g_aload_n X dX10_goLaw_308 rfl rfl ?_
            refine g_aload_n X dX10_goLaw_309 rfl rfl ?_
            refine g_geti (kz := 2) X kd_114 fc9 (k := 2) (by decide) rfl wd_829 rfl dX10_goLaw_310 ?_
            refine g_teq (b := (M 114 2)) (by first | (simp [mu]; done) | (simp only [mu]; repeat (first | rw [if_pos (⟨rfl, rfl⟩)] | rw [if_neg (by omega)]))) ?_
            refine g_iconst X dX10_goLaw_313 ?_
            refine g_icmp_ne (tgt := 327) X dX10_goLaw_314 (by decide) ⟨by omega, by omega⟩ (by decide) (fun q314 => ?_) (fun q314 => ?_)
            · refine g_iconst X dX10_goLaw_327 ?_
              refine g_puti (kz := 2) X kd_114 fc9 (k := 2) (by decide) rfl wd_829 rfl rfl rfl dX10_goLaw_328 ?_
              refine g_iload_n X dX10_goLaw_331 rfl rfl ?_
              rw [hQ]
              refine g_zret X hr hlk (by decide) dX10_goLaw_332 ?_
              first | (exfalso; omega) | exact ⟨by first | exact b2i_1 (by unfold lwOk; omega) | exact b2i_0 (by unfold lwOk; omega), by unfold lwM lwC; rw [if_neg (by omega), if_neg (by omega)]; first | rw [if_pos (by omega), if_pos (by omega)] | rw [if_pos (by omega), if_neg (by omega)] | rw [if_neg (by omega), if_neg (by omega)]⟩
            · refine g_iload_n X dX10_goLaw_317 rfl rfl ?_
              refine g_bipush X dX10_goLaw_318 (by decide +kernel) ?_
              refine g_icmp_eq (tgt := 327) X dX10_goLaw_320 (by decide) ⟨by omega, by omega⟩ (by decide) (fun q320 => ?_) (fun q320 => ?_)
              · refine g_iconst X dX10_goLaw_327 ?_
                refine g_puti (kz := 2) X kd_114 fc9 (k := 2) (by decide) rfl wd_829 rfl rfl rfl dX10_goLaw_328 ?_
                refine g_iload_n X dX10_goLaw_331 rfl rfl ?_
                rw [hQ]
                refine g_zret X hr hlk (by decide) dX10_goLaw_332 ?_
                first | (exfalso; omega) | exact ⟨by first | exact b2i_1 (by unfold lwOk; omega) | exact b2i_0 (by unfold lwOk; omega), by unfold lwM lwC; rw [if_neg (by omega), if_neg (by omega)]; first | rw [if_pos (by omega), if_pos (by omega)] | rw [if_pos (by omega), if_neg (by omega)] | rw [if_neg (by omega), if_neg (by omega)]⟩
              · refine g_iconst X dX10_goLaw_323 ?_
                refine g_goto (tgt := 328) X dX10_goLaw_324 (by decide) ?_
                refine g_puti (kz := 2) X kd_114 fc9 (k := 2) (by decide) rfl wd_829 rfl rfl rfl dX10_goLaw_328 ?_
                refine g_iload_n X dX10_goLaw_331 rfl rfl ?_
                rw [hQ]
                refine g_zret X hr hlk (by decide) dX10_goLaw_332 ?_
                first | (exfalso; omega) | exact ⟨by first | exact b2i_1 (by unfold lwOk; omega) | exact b2i_0 (by unfold lwOk; omega), by unfold lwM lwC; rw [if_neg (by omega), if_neg (by omega)]; first | rw [if_pos (by omega), if_pos (by omega)] | rw [if_pos (by omega), if_neg (by omega)] | rw [if_neg (by omega), if_neg (by omega)]⟩
          · refine g_iconst X dX10_goLaw_302 ?_
            refine g_goto (tgt := 307) X dX10_goLaw_303 (by decide) ?_
            refine g_istore_n_3 X dX10_goLaw_307 rfl rfl (fun v3_307 ev3_307 => ?_)
            subst v3_307
            refine g_aload_n X dX10_goLaw_308 rfl rfl ?_
            refine g_aload_n X dX10_goLaw_309 rfl rfl ?_
            refine g_geti (kz := 2) X kd_114 fc9 (k := 2) (by decide) rfl wd_829 rfl dX10_goLaw_310 ?_
            refine g_teq (b := (M 114 2)) (by first | (simp [mu]; done) | (simp only [mu]; repeat (first | rw [if_pos (⟨rfl, rfl⟩)] | rw [if_neg (by omega)]))) ?_
            refine g_iconst X dX10_goLaw_313 ?_
            refine g_icmp_ne (tgt := 327) X dX10_goLaw_314 (by decide) ⟨by omega, by omega⟩ (by decide) (fun q314 => ?_) (fun q314 => ?_)
            · refine g_iconst X dX10_goLaw_327 ?_
              refine g_puti (kz := 2) X kd_114 fc9 (k := 2) (by decide) rfl wd_829 rfl rfl rfl dX10_goLaw_328 ?_
              refine g_iload_n X dX10_goLaw_331 rfl rfl ?_
              rw [hQ]
              refine g_zret X hr hlk (by decide) dX10_goLaw_332 ?_
              first | (exfalso; omega) | exact ⟨by first | exact b2i_1 (by unfold lwOk; omega) | exact b2i_0 (by unfold lwOk; omega), by unfold lwM lwC; rw [if_neg (by omega), if_neg (by omega)]; first | rw [if_pos (by omega), if_pos (by omega)] | rw [if_pos (by omega), if_neg (by omega)] | rw [if_neg (by omega), if_neg (by omega)]⟩
            · refine g_iload_n X dX10_goLaw_317 rfl rfl ?_
              refine g_bipush X dX10_goLaw_318 (by decide +kernel) ?_
              refine g_icmp_eq (tgt := 327) X dX10_goLaw_320 (by decide) ⟨by omega, by omega⟩ (by decide) (fun q320 => ?_) (fun q320 => ?_)
              · refine g_iconst X dX10_goLaw_327 ?_
                refine g_puti (kz := 2) X kd_114 fc9 (k := 2) (by decide) rfl wd_829 rfl rfl rfl dX10_goLaw_328 ?_
                refine g_iload_n X dX10_goLaw_331 rfl rfl ?_
                rw [hQ]
                refine g_zret X hr hlk (by decide) dX10_goLaw_332 ?_
                first | (exfalso; omega) | exact ⟨by first | exact b2i_1 (by unfold lwOk; omega) | exact b2i_0 (by unfold lwOk; omega), by unfold lwM lwC; rw [if_neg (by omega), if_neg (by omega)]; first | rw [if_pos (by omega), if_pos (by omega)] | rw [if_pos (by omega), if_neg (by omega)] | rw [if_neg (by omega), if_neg (by omega)]⟩
              · refine g_iconst X dX10_goLaw_323 ?_
                refine g_goto (tgt := 328) X dX10_goLaw_324 (by decide) ?_
                refine g_puti (kz := 2) X kd_114 fc9 (k := 2) (by decide) rfl wd_829 rfl rfl rfl dX10_goLaw_328 ?_
                refine g_iload_n X dX10_goLaw_331 rfl rfl ?_
                rw [hQ]
                refine g_zret X hr hlk (by decide) dX10_goLaw_332 ?_
                first | (exfalso; omega) | exact ⟨by first | exact b2i_1 (by unfold lwOk; omega) | exact b2i_0 (by unfold lwOk; omega), by unfold lwM lwC; rw [if_neg (by omega), if_neg (by omega)]; first | rw [if_pos (by omega), if_pos (by omega)] | rw [if_pos (by omega), if_neg (by omega)] | rw [if_neg (by omega), if_neg (by omega)]⟩
    · refine g_aload_n X dX10_goLaw_140 rfl rfl ?_
      refine g_geti (kz := 2) X kd_114 fc9 (k := 2) (by decide) rfl wd_829 rfl dX10_goLaw_141 ?_
      refine g_iconst X dX10_goLaw_144 ?_
      refine g_icmp_ne (tgt := 160) X dX10_goLaw_145 (by decide) ⟨by omega, by omega⟩ (by decide) (fun q145 => ?_) (fun q145 => ?_)
      · refine g_iconst X dX10_goLaw_160 ?_
        refine g_istore_n_3 X dX10_goLaw_161 rfl rfl (fun v3_161 ev3_161 => ?_)
        subst v3_161
        refine g_iload_n X dX10_goLaw_162 rfl rfl ?_
        refine g_bipush X dX10_goLaw_163 (by decide +kernel) ?_
        refine g_icmp_ne (tgt := 190) X dX10_goLaw_165 (by decide) ⟨by omega, by omega⟩ (by decide) (fun q165 => ?_) (fun q165 => ?_)
        · refine g_iconst X dX10_goLaw_190 ?_
          refine g_istore_4 X dX10_goLaw_191 rfl (fun v4_191 ev4_191 => ?_)
          subst v4_191
          refine g_iload_n X dX10_goLaw_193 rfl rfl ?_
          refine g_if_eq (tgt := 220) X dX10_goLaw_194 (by decide) (by decide) (fun _ => ?_) (fun q => absurd q (by decide))
          refine g_aload_n X dX10_goLaw_220 rfl rfl ?_
          refine g_iload_n X dX10_goLaw_221 rfl rfl ?_
          refine g_bipush X dX10_goLaw_222 (by decide +kernel) ?_
          refine g_icmp_ne (tgt := 231) X dX10_goLaw_224 (by decide) ⟨by omega, by omega⟩ (by decide) (fun q224 => ?_) (fun q224 => ?_)
          · refine g_iconst X dX10_goLaw_231 ?_
            refine g_puti (kz := 2) X kd_114 fc9 (k := 2) (by decide) rfl wd_829 rfl rfl rfl dX10_goLaw_232 ?_
            refine g_iload_n X dX10_goLaw_235 rfl rfl ?_
            refine g_if_eq (tgt := 254) X dX10_goLaw_236 (by decide) (by decide) (fun _ => ?_) (fun q => absurd q (by decide))
            refine g_iconst X dX10_goLaw_254 ?_
            rw [hQ]
            refine g_zret X hr hlk (by decide) dX10_goLaw_255 ?_
            have hwi := fun (q : M 114 2 = 1) => wr_id (a := M 114 3) ⟨by have := g3 q; omega, by have := g3 q; omega⟩
            first | (exfalso; omega) | exact ⟨by first | exact b2i_1 (by unfold lwOk okB; omega) | exact b2i_0 (by unfold lwOk okB; omega), by unfold lwM lwBM; rw [if_neg (by omega), if_pos (by omega)]; first | rw [if_pos (by omega), if_pos (by omega)] | rw [if_pos (by omega), if_neg (by omega)] | rw [if_neg (by omega), if_pos (by omega)] | rw [if_neg (by omega), if_neg (by omega)]⟩
          · refine g_iconst X dX10_goLaw_227 ?_
            refine g_goto (tgt := 232) X dX10_goLaw_228 (by decide) ?_
            refine g_puti (kz := 2) X kd_114 fc9 (k := 2) (by decide) rfl wd_829 rfl rfl rfl dX10_goLaw_232 ?_
            refine g_iload_n X dX10_goLaw_235 rfl rfl ?_
            refine g_if_eq (tgt := 254) X dX10_goLaw_236 (by decide) (by decide) (fun _ => ?_) (fun q => absurd q (by decide))
            refine g_iconst X dX10_goLaw_254 ?_
            rw [hQ]
            refine g_zret X hr hlk (by decide) dX10_goLaw_255 ?_
            have hwi := fun (q : M 114 2 = 1) => wr_id (a := M 114 3) ⟨by have := g3 q; omega, by have := g3 q; omega⟩
            first | (exfalso; omega) | exact ⟨by first | exact b2i_1 (by unfold lwOk okB; omega) | exact b2i_0 (by unfold lwOk okB; omega), by unfold lwM lwBM; rw [if_neg (by omega), if_pos (by omega)]; first | rw [if_pos (by omega), if_pos (by omega)] | rw [if_pos (by omega), if_neg (by omega)] | rw [if_neg (by omega), if_pos (by omega)] | rw [if_neg (by omega), if_neg (by omega)]⟩
        · refine g_aload_n X dX10_goLaw_168 rfl rfl ?_
          refine g_geti (kz := 7) X kd_114 fc9 (k := 7) (by decide) rfl wd_834 rfl dX10_goLaw_169 ?_
          refine g_iconst X dX10_goLaw_172 ?_
          refine g_icmp_ge (tgt := 190) X dX10_goLaw_173 (by decide) ⟨by omega, by omega⟩ (by decide) (fun q173 => ?_) (fun q173 => ?_)
          · refine g_iconst X dX10_goLaw_190 ?_
            refine g_istore_4 X dX10_goLaw_191 rfl (fun v4_191 ev4_191 => ?_)
            subst v4_191
            refine g_iload_n X dX10_goLaw_193 rfl rfl ?_
            refine g_if_eq (tgt := 220) X dX10_goLaw_194 (by decide) (by decide) (fun _ => ?_) (fun q => absurd q (by decide))
            refine g_aload_n X dX10_goLaw_220 rfl rfl ?_
            refine g_iload_n X dX10_goLaw_221 rfl rfl ?_
            refine g_bipush X dX10_goLaw_222 (by decide +kernel) ?_
            refine g_icmp_ne (tgt := 231) X dX10_goLaw_224 (by decide) ⟨by omega, by omega⟩ (by decide) (fun q224 => ?_) (fun q224 => ?_)
            · refine g_iconst X dX10_goLaw_231 ?_
              refine g_puti (kz := 2) X kd_114 fc9 (k := 2) (by decide) rfl wd_829 rfl rfl rfl dX10_goLaw_232 ?_
              refine g_iload_n X dX10_goLaw_235 rfl rfl ?_
              refine g_if_eq (tgt := 254) X dX10_goLaw_236 (by decide) (by decide) (fun _ => ?_) (fun q => absurd q (by decide))
              refine g_iconst X dX10_goLaw_254 ?_
              rw [hQ]
              refine g_zret X hr hlk (by decide) dX10_goLaw_255 ?_
              have hwi := fun (q : M 114 2 = 1) => wr_id (a := M 114 3) ⟨by have := g3 q; omega, by have := g3 q; omega⟩
              first | (exfalso; omega) | exact ⟨by first | exact b2i_1 (by unfold lwOk okB; omega) | exact b2i_0 (by unfold lwOk okB; omega), by unfold lwM lwBM; rw [if_neg (by omega), if_pos (by omega)]; first | rw [if_pos (by omega), if_pos (by omega)] | rw [if_pos (by omega), if_neg (by omega)] | rw [if_neg (by omega), if_pos (by omega)] | rw [if_neg (by omega), if_neg (by omega)]⟩
            · refine g_iconst X dX10_goLaw_227 ?_
              refine g_goto (tgt := 232) X dX10_goLaw_228 (by decide) ?_
              refine g_puti (kz := 2) X kd_114 fc9 (k := 2) (by decide) rfl wd_829 rfl rfl rfl dX10_goLaw_232 ?_
              refine g_iload_n X dX10_goLaw_235 rfl rfl ?_
              refine g_if_eq (tgt := 254) X dX10_goLaw_236 (by decide) (by decide) (fun _ => ?_) (fun q => absurd q (by decide))
              refine g_iconst X dX10_goLaw_254 ?_
              rw [hQ]
              refine g_zret X hr hlk (by decide) dX10_goLaw_255 ?_
              have hwi := fun (q : M 114 2 = 1) => wr_id (a := M 114 3) ⟨by have := g3 q; omega, by have := g3 q; omega⟩
              first | (exfalso; omega) | exact ⟨by first | exact b2i_1 (by unfold lwOk okB; omega) | exact b2i_0 (by unfold lwOk okB; omega), by unfold lwM lwBM; rw [if_neg (by omega), if_pos (by omega)]; first | rw [if_pos (by omega), if_pos (by omega)] | rw [if_pos (by omega), if_neg (by omega)] | rw [if_neg (by omega), if_pos (by omega)] | rw [if_neg (by omega), if_neg (by omega)]⟩
          · refine g_aload_n X dX10_goLaw_176 rfl rfl ?_
            refine g_geti (kz := 3) X kd_114 fc9 (k := 3) (by decide) rfl wd_830 rfl dX10_goLaw_177 ?_
            have hwr := wr_rng (M 114 3)
            refine g_teqN (b := wr (M 114 3)) (by exact wr_N _) ?_
            refine g_sipush X dX10_goLaw_180 (by decide +kernel) ?_
            refine g_icmp_ge (tgt := 190) X dX10_goLaw_183 (by decide) ⟨by omega, by omega⟩ (by decide) (fun q183 => ?_) (fun q183 => ?_)
            · refine g_iconst X dX10_goLaw_190 ?_
              refine g_istore_4 X dX10_goLaw_191 rfl (fun v4_191 ev4_191 => ?_)
              subst v4_191
              refine g_iload_n X dX10_goLaw_193 rfl rfl ?_
              refine g_if_eq (tgt := 220) X dX10_goLaw_194 (by decide) (by decide) (fun _ => ?_) (fun q => absurd q (by decide))
              refine g_aload_n X dX10_goLaw_220 rfl rfl ?_
              refine g_iload_n X dX10_goLaw_221 rfl rfl ?_
              refine g_bipush X dX10_goLaw_222 (by decide +kernel) ?_
              refine g_icmp_ne (tgt := 231) X dX10_goLaw_224 (by decide) ⟨by omega, by omega⟩ (by decide) (fun q224 => ?_) (fun q224 => ?_)
              · refine g_iconst X dX10_goLaw_231 ?_
                refine g_puti (kz := 2) X kd_114 fc9 (k := 2) (by decide) rfl wd_829 rfl rfl rfl dX10_goLaw_232 ?_
                refine g_iload_n X dX10_goLaw_235 rfl rfl ?_
                refine g_if_eq (tgt := 254) X dX10_goLaw_236 (by decide) (by decide) (fun _ => ?_) (fun q => absurd q (by decide))
                refine g_iconst X dX10_goLaw_254 ?_
                rw [hQ]
                refine g_zret X hr hlk (by decide) dX10_goLaw_255 ?_
                have hwi := fun (q : M 114 2 = 1) => wr_id (a := M 114 3) ⟨by have := g3 q; omega, by have := g3 q; omega⟩
                first | (exfalso; omega) | exact ⟨by first | exact b2i_1 (by unfold lwOk okB; omega) | exact b2i_0 (by unfold lwOk okB; omega), by unfold lwM lwBM; rw [if_neg (by omega), if_pos (by omega)]; first | rw [if_pos (by omega), if_pos (by omega)] | rw [if_pos (by omega), if_neg (by omega)] | rw [if_neg (by omega), if_pos (by omega)] | rw [if_neg (by omega), if_neg (by omega)]⟩
              · refine g_iconst X dX10_goLaw_227 ?_
                refine g_goto (tgt := 232) X dX10_goLaw_228 (by decide) ?_
                refine g_puti (kz := 2) X kd_114 fc9 (k := 2) (by decide) rfl wd_829 rfl rfl rfl dX10_goLaw_232 ?_
                refine g_iload_n X dX10_goLaw_235 rfl rfl ?_
                refine g_if_eq (tgt := 254) X dX10_goLaw_236 (by decide) (by decide) (fun _ => ?_) (fun q => absurd q (by decide))
                refine g_iconst X dX10_goLaw_254 ?_
                rw [hQ]
                refine g_zret X hr hlk (by decide) dX10_goLaw_255 ?_
                have hwi := fun (q : M 114 2 = 1) => wr_id (a := M 114 3) ⟨by have := g3 q; omega, by have := g3 q; omega⟩
                first | (exfalso; omega) | exact ⟨by first | exact b2i_1 (by unfold lwOk okB; omega) | exact b2i_0 (by unfold lwOk okB; omega), by unfold lwM lwBM; rw [if_neg (by omega), if_pos (by omega)]; first | rw [if_pos (by omega), if_pos (by omega)] | rw [if_pos (by omega), if_neg (by omega)] | rw [if_neg (by omega), if_pos (by omega)] | rw [if_neg (by omega), if_neg (by omega)]⟩
            · refine g_iconst X dX10_goLaw_186 ?_
              refine g_goto (tgt := 191) X dX10_goLaw_187 (by decide) ?_
              refine g_istore_4 X dX10_goLaw_191 rfl (fun v4_191 ev4_191 => ?_)
              subst v4_191
              refine g_iload_n X dX10_goLaw_193 rfl rfl ?_
              refine g_if_eq (tgt := 220) X dX10_goLaw_194 (by decide) (by decide) (fun _ => ?_) (fun q => absurd q (by decide))
              refine g_aload_n X dX10_goLaw_220 rfl rfl ?_
              refine g_iload_n X dX10_goLaw_221 rfl rfl ?_
              refine g_bipush X dX10_goLaw_222 (by decide +kernel) ?_
              refine g_icmp_ne (tgt := 231) X dX10_goLaw_224 (by decide) ⟨by omega, by omega⟩ (by decide) (fun q224 => ?_) (fun q224 => ?_)
              · refine g_iconst X dX10_goLaw_231 ?_
                refine g_puti (kz := 2) X kd_114 fc9 (k := 2) (by decide) rfl wd_829 rfl rfl rfl dX10_goLaw_232 ?_
                refine g_iload_n X dX10_goLaw_235 rfl rfl ?_
                refine g_if_eq (tgt := 254) X dX10_goLaw_236 (by decide) (by decide) (fun _ => ?_) (fun q => absurd q (by decide))
                refine g_iconst X dX10_goLaw_254 ?_
                rw [hQ]
                refine g_zret X hr hlk (by decide) dX10_goLaw_255 ?_
                have hwi := fun (q : M 114 2 = 1) => wr_id (a := M 114 3) ⟨by have := g3 q; omega, by have := g3 q; omega⟩
                first | (exfalso; omega) | exact ⟨by first | exact b2i_1 (by unfold lwOk okB; omega) | exact b2i_0 (by unfold lwOk okB; omega), by unfold lwM lwBM; rw [if_neg (by omega), if_pos (by omega)]; first | rw [if_pos (by omega), if_pos (by omega)] | rw [if_pos (by omega), if_neg (by omega)] | rw [if_neg (by omega), if_pos (by omega)] | rw [if_neg (by omega), if_neg (by omega)]⟩
              · refine g_iconst X dX10_goLaw_227 ?_
                refine g_goto (tgt := 232) X dX10_goLaw_228 (by decide) ?_
                refine g_puti (kz := 2) X kd_114 fc9 (k := 2) (by decide) rfl wd_829 rfl rfl rfl dX10_goLaw_232 ?_
                refine g_iload_n X dX10_goLaw_235 rfl rfl ?_
                refine g_if_eq (tgt := 254) X dX10_goLaw_236 (by decide) (by decide) (fun _ => ?_) (fun q => absurd q (by decide))
                refine g_iconst X dX10_goLaw_254 ?_
                rw [hQ]
                refine g_zret X hr hlk (by decide) dX10_goLaw_255 ?_
                have hwi := fun (q : M 114 2 = 1) => wr_id (a := M 114 3) ⟨by have := g3 q; omega, by have := g3 q; omega⟩
                first | (exfalso; omega) | exact ⟨by first | exact b2i_1 (by unfold lwOk okB; omega) | exact b2i_0 (by unfold lwOk okB; omega), by unfold lwM lwBM; rw [if_neg (by omega), if_pos (by omega)]; first | rw [if_pos (by omega), if_pos (by omega)] | rw [if_pos (by omega), if_neg (by omega)] | rw [if_neg (by omega), if_pos (by omega)] | rw [if_neg (by omega), if_neg (by omega)]⟩
      · have gs := g3 (by omega)
        refine g_aload_n X dX10_goLaw_148 rfl rfl ?_
        refine g_geti (kz := 3) X kd_114 fc9 (k := 3) (by decide) rfl wd_830 rfl dX10_goLaw_149 ?_
        refine g_iload_n X dX10_goLaw_152 rfl rfl ?_
        refine g_icmp_le (tgt := 160) X dX10_goLaw_153 (by decide) ⟨by omega, by omega⟩ ⟨by omega, by omega⟩ (fun q153 => ?_) (fun q153 => ?_)
        · refine g_iconst X dX10_goLaw_160 ?_
          refine g_istore_n_3 X dX10_goLaw_161 rfl rfl (fun v3_161 ev3_161 => ?_)
          subst v3_161
          refine g_iload_n X dX10_goLaw_162 rfl rfl ?_
          refine g_bipush X dX10_goLaw_163 (by decide +kernel) ?_
          refine g_icmp_ne (tgt := 190) X dX10_goLaw_165 (by decide) ⟨by omega, by omega⟩ (by decide) (fun q165 => ?_) (fun q165 => ?_)
          · refine g_iconst X dX10_goLaw_190 ?_
            refine g_istore_4 X dX10_goLaw_191 rfl (fun v4_191 ev4_191 => ?_)
            subst v4_191
            refine g_iload_n X dX10_goLaw_193 rfl rfl ?_
            refine g_if_eq (tgt := 220) X dX10_goLaw_194 (by decide) (by decide) (fun _ => ?_) (fun q => absurd q (by decide))
            refine g_aload_n X dX10_goLaw_220 rfl rfl ?_
            refine g_iload_n X dX10_goLaw_221 rfl rfl ?_
            refine g_bipush X dX10_goLaw_222 (by decide +kernel) ?_
            refine g_icmp_ne (tgt := 231) X dX10_goLaw_224 (by decide) ⟨by omega, by omega⟩ (by decide) (fun q224 => ?_) (fun q224 => ?_)
            · refine g_iconst X dX10_goLaw_231 ?_
              refine g_puti (kz := 2) X kd_114 fc9 (k := 2) (by decide) rfl wd_829 rfl rfl rfl dX10_goLaw_232 ?_
              refine g_iload_n X dX10_goLaw_235 rfl rfl ?_
              refine g_if_eq (tgt := 254) X dX10_goLaw_236 (by decide) (by decide) (fun _ => ?_) (fun q => absurd q (by decide))
              refine g_iconst X dX10_goLaw_254 ?_
              rw [hQ]
              refine g_zret X hr hlk (by decide) dX10_goLaw_255 ?_
              have hwi := fun (q : M 114 2 = 1) => wr_id (a := M 114 3) ⟨by have := g3 q; omega, by have := g3 q; omega⟩
              first | (exfalso; omega) | exact ⟨by first | exact b2i_1 (by unfold lwOk okB; omega) | exact b2i_0 (by unfold lwOk okB; omega), by unfold lwM lwBM; rw [if_neg (by omega), if_pos (by omega)]; first | rw [if_pos (by omega), if_pos (by omega)] | rw [if_pos (by omega), if_neg (by omega)] | rw [if_neg (by omega), if_pos (by omega)] | rw [if_neg (by omega), if_neg (by omega)]⟩
            · refine g_iconst X dX10_goLaw_227 ?_
              refine g_goto (tgt := 232) X dX10_goLaw_228 (by decide) ?_
              refine g_puti (kz := 2) X kd_114 fc9 (k := 2) (by decide) rfl wd_829 rfl rfl rfl dX10_goLaw_232 ?_
              refine g_iload_n X dX10_goLaw_235 rfl rfl ?_
              refine g_if_eq (tgt := 254) X dX10_goLaw_236 (by decide) (by decide) (fun _ => ?_) (fun q => absurd q (by decide))
              refine g_iconst X dX10_goLaw_254 ?_
              rw [hQ]
              refine g_zret X hr hlk (by decide) dX10_goLaw_255 ?_
              have hwi := fun (q : M 114 2 = 1) => wr_id (a := M 114 3) ⟨by have := g3 q; omega, by have := g3 q; omega⟩
              first | (exfalso; omega) | exact ⟨by first | exact b2i_1 (by unfold lwOk okB; omega) | exact b2i_0 (by unfold lwOk okB; omega), by unfold lwM lwBM; rw [if_neg (by omega), if_pos (by omega)]; first | rw [if_pos (by omega), if_pos (by omega)] | rw [if_pos (by omega), if_neg (by omega)] | rw [if_neg (by omega), if_pos (by omega)] | rw [if_neg (by omega), if_neg (by omega)]⟩
          · refine g_aload_n X dX10_goLaw_168 rfl rfl ?_
            refine g_geti (kz := 7) X kd_114 fc9 (k := 7) (by decide) rfl wd_834 rfl dX10_goLaw_169 ?_
            refine g_iconst X dX10_goLaw_172 ?_
            refine g_icmp_ge (tgt := 190) X dX10_goLaw_173 (by decide) ⟨by omega, by omega⟩ (by decide) (fun q173 => ?_) (fun q173 => ?_)
            · refine g_iconst X dX10_goLaw_190 ?_
              refine g_istore_4 X dX10_goLaw_191 rfl (fun v4_191 ev4_191 => ?_)
              subst v4_191
              refine g_iload_n X dX10_goLaw_193 rfl rfl ?_
              refine g_if_eq (tgt := 220) X dX10_goLaw_194 (by decide) (by decide) (fun _ => ?_) (fun q => absurd q (by decide))
              refine g_aload_n X dX10_goLaw_220 rfl rfl ?_
              refine g_iload_n X dX10_goLaw_221 rfl rfl ?_
              refine g_bipush X dX10_goLaw_222 (by decide +kernel) ?_
              refine g_icmp_ne (tgt := 231) X dX10_goLaw_224 (by decide) ⟨by omega, by omega⟩ (by decide) (fun q224 => ?_) (fun q224 => ?_)
              · refine g_iconst X dX10_goLaw_231 ?_
                refine g_puti (kz := 2) X kd_114 fc9 (k := 2) (by decide) rfl wd_829 rfl rfl rfl dX10_goLaw_232 ?_
                refine g_iload_n X dX10_goLaw_235 rfl rfl ?_
                refine g_if_eq (tgt := 254) X dX10_goLaw_236 (by decide) (by decide) (fun _ => ?_) (fun q => absurd q (by decide))
                refine g_iconst X dX10_goLaw_254 ?_
                rw [hQ]
                refine g_zret X hr hlk (by decide) dX10_goLaw_255 ?_
                have hwi := fun (q : M 114 2 = 1) => wr_id (a := M 114 3) ⟨by have := g3 q; omega, by have := g3 q; omega⟩
                first | (exfalso; omega) | exact ⟨by first | exact b2i_1 (by unfold lwOk okB; omega) | exact b2i_0 (by unfold lwOk okB; omega), by unfold lwM lwBM; rw [if_neg (by omega), if_pos (by omega)]; first | rw [if_pos (by omega), if_pos (by omega)] | rw [if_pos (by omega), if_neg (by omega)] | rw [if_neg (by omega), if_pos (by omega)] | rw [if_neg (by omega), if_neg (by omega)]⟩
              · refine g_iconst X dX10_goLaw_227 ?_
                refine g_goto (tgt := 232) X dX10_goLaw_228 (by decide) ?_
                refine g_puti (kz := 2) X kd_114 fc9 (k := 2) (by decide) rfl wd_829 rfl rfl rfl dX10_goLaw_232 ?_
                refine g_iload_n X dX10_goLaw_235 rfl rfl ?_
                refine g_if_eq (tgt := 254) X dX10_goLaw_236 (by decide) (by decide) (fun _ => ?_) (fun q => absurd q (by decide))
                refine g_iconst X dX10_goLaw_254 ?_
                rw [hQ]
                refine g_zret X hr hlk (by decide) dX10_goLaw_255 ?_
                have hwi := fun (q : M 114 2 = 1) => wr_id (a := M 114 3) ⟨by have := g3 q; omega, by have := g3 q; omega⟩
                first | (exfalso; omega) | exact ⟨by first | exact b2i_1 (by unfold lwOk okB; omega) | exact b2i_0 (by unfold lwOk okB; omega), by unfold lwM lwBM; rw [if_neg (by omega), if_pos (by omega)]; first | rw [if_pos (by omega), if_pos (by omega)] | rw [if_pos (by omega), if_neg (by omega)] | rw [if_neg (by omega), if_pos (by omega)] | rw [if_neg (by omega), if_neg (by omega)]⟩
            · refine g_aload_n X dX10_goLaw_176 rfl rfl ?_
              refine g_geti (kz := 3) X kd_114 fc9 (k := 3) (by decide) rfl wd_830 rfl dX10_goLaw_177 ?_
              have hwr := wr_rng (M 114 3)
              refine g_teqN (b := wr (M 114 3)) (by exact wr_N _) ?_
              refine g_sipush X dX10_goLaw_180 (by decide +kernel) ?_
              refine g_icmp_ge (tgt := 190) X dX10_goLaw_183 (by decide) ⟨by omega, by omega⟩ (by decide) (fun q183 => ?_) (fun q183 => ?_)
              · refine g_iconst X dX10_goLaw_190 ?_
                refine g_istore_4 X dX10_goLaw_191 rfl (fun v4_191 ev4_191 => ?_)
                subst v4_191
                refine g_iload_n X dX10_goLaw_193 rfl rfl ?_
                refine g_if_eq (tgt := 220) X dX10_goLaw_194 (by decide) (by decide) (fun _ => ?_) (fun q => absurd q (by decide))
                refine g_aload_n X dX10_goLaw_220 rfl rfl ?_
                refine g_iload_n X dX10_goLaw_221 rfl rfl ?_
                refine g_bipush X dX10_goLaw_222 (by decide +kernel) ?_
                refine g_icmp_ne (tgt := 231) X dX10_goLaw_224 (by decide) ⟨by omega, by omega⟩ (by decide) (fun q224 => ?_) (fun q224 => ?_)
                · refine g_iconst X dX10_goLaw_231 ?_
                  refine g_puti (kz := 2) X kd_114 fc9 (k := 2) (by decide) rfl wd_829 rfl rfl rfl dX10_goLaw_232 ?_
                  refine g_iload_n X dX10_goLaw_235 rfl rfl ?_
                  refine g_if_eq (tgt := 254) X dX10_goLaw_236 (by decide) (by decide) (fun _ => ?_) (fun q => absurd q (by decide))
                  refine g_iconst X dX10_goLaw_254 ?_
                  rw [hQ]
                  refine g_zret X hr hlk (by decide) dX10_goLaw_255 ?_
                  have hwi := fun (q : M 114 2 = 1) => wr_id (a := M 114 3) ⟨by have := g3 q; omega, by have := g3 q; omega⟩
                  first | (exfalso; omega) | exact ⟨by first | exact b2i_1 (by unfold lwOk okB; omega) | exact b2i_0 (by unfold lwOk okB; omega), by unfold lwM lwBM; rw [if_neg (by omega), if_pos (by omega)]; first | rw [if_pos (by omega), if_pos (by omega)] | rw [if_pos (by omega), if_neg (by omega)] | rw [if_neg (by omega), if_pos (by omega)] | rw [if_neg (by omega), if_neg (by omega)]⟩
                · refine g_iconst X dX10_goLaw_227 ?_
                  refine g_goto (tgt := 232) X dX10_goLaw_228 (by decide) ?_
                  refine g_puti (kz := 2) X kd_114 fc9 (k := 2) (by decide) rfl wd_829 rfl rfl rfl dX10_goLaw_232 ?_
                  refine g_iload_n X dX10_goLaw_235 rfl rfl ?_
                  refine g_if_eq (tgt := 254) X dX10_goLaw_236 (by decide) (by decide) (fun _ => ?_) (fun q => absurd q (by decide))
                  refine g_iconst X dX10_goLaw_254 ?_
                  rw [hQ]
                  refine g_zret X hr hlk (by decide) dX10_goLaw_255 ?_
                  have hwi := fun (q : M 114 2 = 1) => wr_id (a := M 114 3) ⟨by have := g3 q; omega, by have := g3 q; omega⟩
                  first | (exfalso; omega) | exact ⟨by first | exact b2i_1 (by unfold lwOk okB; omega) | exact b2i_0 (by unfold lwOk okB; omega), by unfold lwM lwBM; rw [if_neg (by omega), if_pos (by omega)]; first | rw [if_pos (by omega), if_pos (by omega)] | rw [if_pos (by omega), if_neg (by omega)] | rw [if_neg (by omega), if_pos (by omega)] | rw [if_neg (by omega), if_neg (by omega)]⟩
              · refine g_iconst X dX10_goLaw_186 ?_
                refine g_goto (tgt := 191) X dX10_goLaw_187 (by decide) ?_
                refine g_istore_4 X dX10_goLaw_191 rfl (fun v4_191 ev4_191 => ?_)
                subst v4_191
                refine g_iload_n X dX10_goLaw_193 rfl rfl ?_
                refine g_if_eq (tgt := 220) X dX10_goLaw_194 (by decide) (by decide) (fun _ => ?_) (fun q => absurd q (by decide))
                refine g_aload_n X dX10_goLaw_220 rfl rfl ?_
                refine g_iload_n X dX10_goLaw_221 rfl rfl ?_
                refine g_bipush X dX10_goLaw_222 (by decide +kernel) ?_
                refine g_icmp_ne (tgt := 231) X dX10_goLaw_224 (by decide) ⟨by omega, by omega⟩ (by decide) (fun q224 => ?_) (fun q224 => ?_)
                · refine g_iconst X dX10_goLaw_231 ?_
                  refine g_puti (kz := 2) X kd_114 fc9 (k := 2) (by decide) rfl wd_829 rfl rfl rfl dX10_goLaw_232 ?_
                  refine g_iload_n X dX10_goLaw_235 rfl rfl ?_
                  refine g_if_eq (tgt := 254) X dX10_goLaw_236 (by decide) (by decide) (fun _ => ?_) (fun q => absurd q (by decide))
                  refine g_iconst X dX10_goLaw_254 ?_
                  rw [hQ]
                  refine g_zret X hr hlk (by decide) dX10_goLaw_255 ?_
                  have hwi := fun (q : M 114 2 = 1) => wr_id (a := M 114 3) ⟨by have := g3 q; omega, by have := g3 q; omega⟩
                  first | (exfalso; omega) | exact ⟨by first | exact b2i_1 (by unfold lwOk okB; omega) | exact b2i_0 (by unfold lwOk okB; omega), by unfold lwM lwBM; rw [if_neg (by omega), if_pos (by omega)]; first | rw [if_pos (by omega), if_pos (by omega)] | rw [if_pos (by omega), if_neg (by omega)] | rw [if_neg (by omega), if_pos (by omega)] | rw [if_neg (by omega), if_neg (by omega)]⟩
                · refine g_iconst X dX10_goLaw_227 ?_
                  refine g_goto (tgt := 232) X dX10_goLaw_228 (by decide) ?_
                  refine g_puti (kz := 2) X kd_114 fc9 (k := 2) (by decide) rfl wd_829 rfl rfl rfl dX10_goLaw_232 ?_
                  refine g_iload_n X dX10_goLaw_235 rfl rfl ?_
                  refine g_if_eq (tgt := 254) X dX10_goLaw_236 (by decide) (by decide) (fun _ => ?_) (fun q => absurd q (by decide))
                  refine g_iconst X dX10_goLaw_254 ?_
                  rw [hQ]
                  refine g_zret X hr hlk (by decide) dX10_goLaw_255 ?_
                  have hwi := fun (q : M 114 2 = 1) => wr_id (a := M 114 3) ⟨by have := g3 q; omega, by have := g3 q; omega⟩
                  first | (exfalso; omega) | exact ⟨by first | exact b2i_1 (by unfold lwOk okB; omega) | exact b2i_0 (by unfold lwOk okB; omega), by unfold lwM lwBM; rw [if_neg (by omega), if_pos (by omega)]; first | rw [if_pos (by omega), if_pos (by omega)] | rw [if_pos (by omega), if_neg (by omega)] | rw [if_neg (by omega), if_pos (by omega)] | rw [if_neg (by omega), if_neg (by omega)]⟩
        · refine g_iconst X dX10_goLaw_156 ?_
          refine g_goto (tgt := 161) X dX10_goLaw_157 (by decide) ?_
          refine g_istore_n_3 X dX10_goLaw_161 rfl rfl (fun v3_161 ev3_161 => ?_)
          subst v3_161
          refine g_iload_n X dX10_goLaw_162 rfl rfl ?_
          refine g_bipush X dX10_goLaw_163 (by decide +kernel) ?_
          refine g_icmp_ne (tgt := 190) X dX10_goLaw_165 (by decide) ⟨by omega, by omega⟩ (by decide) (fun q165 => ?_) (fun q165 => ?_)
          · refine g_iconst X dX10_goLaw_190 ?_
            refine g_istore_4 X dX10_goLaw_191 rfl (fun v4_191 ev4_191 => ?_)
            subst v4_191
            refine g_iload_n X dX10_goLaw_193 rfl rfl ?_
            refine g_if_eq (tgt := 220) X dX10_goLaw_194 (by decide) (by decide) (fun q => absurd q (by decide)) (fun _ => ?_)
            refine g_aload_n X dX10_goLaw_197 rfl rfl ?_
            refine g_getr (r := 118) X kd_114 fc9 (k := 12) (by decide) rfl wd_839 rfl (by decide) dX10_goLaw_198 ?_
            refine g_aload_n X dX10_goLaw_201 rfl rfl ?_
            refine g_geti (kz := 7) X kd_114 fc9 (k := 7) (by decide) rfl wd_834 rfl dX10_goLaw_202 ?_
            refine g_aload_n X dX10_goLaw_205 rfl rfl ?_
            refine g_geti (kz := 3) X kd_114 fc9 (k := 3) (by decide) rfl wd_830 rfl dX10_goLaw_206 ?_
            refine g_iast X kd_118 (by omega) (by omega) dX10_goLaw_209 ?_
            refine g_aload_n X dX10_goLaw_210 rfl rfl ?_
            refine g_dup X dX10_goLaw_211 rfl ?_
            refine g_geti (kz := 7) X kd_114 fc9 (k := 7) (by decide) rfl wd_834 rfl dX10_goLaw_212 ?_
            refine g_teq (b := (M 114 7)) (by first | (simp [mu]; done) | (simp only [mu]; repeat (first | rw [if_pos (⟨rfl, rfl⟩)] | rw [if_neg (by omega)]))) ?_
            refine g_iconst X dX10_goLaw_215 ?_
            refine g_iadd X dX10_goLaw_216 ?_
            refine g_puti (kz := 7) X kd_114 fc9 (k := 7) (by decide) rfl wd_834 rfl rfl rfl dX10_goLaw_217 ?_
            refine g_aload_n X dX10_goLaw_220 rfl rfl ?_
            refine g_iload_n X dX10_goLaw_221 rfl rfl ?_
            refine g_bipush X dX10_goLaw_222 (by decide +kernel) ?_
            refine g_icmp_ne (tgt := 231) X dX10_goLaw_224 (by decide) ⟨by omega, by omega⟩ (by decide) (fun q224 => ?_) (fun q224 => ?_)
            · refine g_iconst X dX10_goLaw_231 ?_
              refine g_puti (kz := 2) X kd_114 fc9 (k := 2) (by decide) rfl wd_829 rfl rfl rfl dX10_goLaw_232 ?_
              refine g_iload_n X dX10_goLaw_235 rfl rfl ?_
              refine g_if_eq (tgt := 254) X dX10_goLaw_236 (by decide) (by decide) (fun q => absurd q (by decide)) (fun _ => ?_)
              refine g_iload X dX10_goLaw_239 rfl ?_
              refine g_if_ne (tgt := 250) X dX10_goLaw_241 (by decide) (by decide) (fun q => absurd q (by decide)) (fun _ => ?_)
              refine g_iload_n X dX10_goLaw_244 rfl rfl ?_
              refine g_bipush X dX10_goLaw_245 (by decide +kernel) ?_
              refine g_icmp_ne (tgt := 254) X dX10_goLaw_247 (by decide) ⟨by omega, by omega⟩ (by decide) (fun q247 => ?_) (fun q247 => ?_)
              · refine g_iconst X dX10_goLaw_254 ?_
                rw [hQ]
                refine g_zret X hr hlk (by decide) dX10_goLaw_255 ?_
                have hwi := fun (q : M 114 2 = 1) => wr_id (a := M 114 3) ⟨by have := g3 q; omega, by have := g3 q; omega⟩
                first | (exfalso; omega) | exact ⟨by first | exact b2i_1 (by unfold lwOk okB; omega) | exact b2i_0 (by unfold lwOk okB; omega), by unfold lwM lwBM; rw [if_neg (by omega), if_pos (by omega)]; first | rw [if_pos (by omega), if_pos (by omega)] | rw [if_pos (by omega), if_neg (by omega)] | rw [if_neg (by omega), if_pos (by omega)] | rw [if_neg (by omega), if_neg (by omega)]⟩
              · refine g_iconst X dX10_goLaw_250 ?_
                refine g_goto (tgt := 255) X dX10_goLaw_251 (by decide) ?_
                rw [hQ]
                refine g_zret X hr hlk (by decide) dX10_goLaw_255 ?_
                have hwi := fun (q : M 114 2 = 1) => wr_id (a := M 114 3) ⟨by have := g3 q; omega, by have := g3 q; omega⟩
                first | (exfalso; omega) | exact ⟨by first | exact b2i_1 (by unfold lwOk okB; omega) | exact b2i_0 (by unfold lwOk okB; omega), by unfold lwM lwBM; rw [if_neg (by omega), if_pos (by omega)]; first | rw [if_pos (by omega), if_pos (by omega)] | rw [if_pos (by omega), if_neg (by omega)] | rw [if_neg (by omega), if_pos (by omega)] | rw [if_neg (by omega), if_neg (by omega)]⟩
            · refine g_iconst X dX10_goLaw_227 ?_
              refine g_goto (tgt := 232) X dX10_goLaw_228 (by decide) ?_
              refine g_puti (kz := 2) X kd_114 fc9 (k := 2) (by decide) rfl wd_829 rfl rfl rfl dX10_goLaw_232 ?_
              refine g_iload_n X dX10_goLaw_235 rfl rfl ?_
              refine g_if_eq (tgt := 254) X dX10_goLaw_236 (by decide) (by decide) (fun q => absurd q (by decide)) (fun _ => ?_)
              refine g_iload X dX10_goLaw_239 rfl ?_
              refine g_if_ne (tgt := 250) X dX10_goLaw_241 (by decide) (by decide) (fun q => absurd q (by decide)) (fun _ => ?_)
              refine g_iload_n X dX10_goLaw_244 rfl rfl ?_
              refine g_bipush X dX10_goLaw_245 (by decide +kernel) ?_
              refine g_icmp_ne (tgt := 254) X dX10_goLaw_247 (by decide) ⟨by omega, by omega⟩ (by decide) (fun q247 => ?_) (fun q247 => ?_)
              · refine g_iconst X dX10_goLaw_254 ?_
                rw [hQ]
                refine g_zret X hr hlk (by decide) dX10_goLaw_255 ?_
                have hwi := fun (q : M 114 2 = 1) => wr_id (a := M 114 3) ⟨by have := g3 q; omega, by have := g3 q; omega⟩
                first | (exfalso; omega) | exact ⟨by first | exact b2i_1 (by unfold lwOk okB; omega) | exact b2i_0 (by unfold lwOk okB; omega), by unfold lwM lwBM; rw [if_neg (by omega), if_pos (by omega)]; first | rw [if_pos (by omega), if_pos (by omega)] | rw [if_pos (by omega), if_neg (by omega)] | rw [if_neg (by omega), if_pos (by omega)] | rw [if_neg (by omega), if_neg (by omega)]⟩
              · refine g_iconst X dX10_goLaw_250 ?_
                refine g_goto (tgt := 255) X dX10_goLaw_251 (by decide) ?_
                rw [hQ]
                refine g_zret X hr hlk (by decide) dX10_goLaw_255 ?_
                have hwi := fun (q : M 114 2 = 1) => wr_id (a := M 114 3) ⟨by have := g3 q; omega, by have := g3 q; omega⟩
                first | (exfalso; omega) | exact ⟨by first | exact b2i_1 (by unfold lwOk okB; omega) | exact b2i_0 (by unfold lwOk okB; omega), by unfold lwM lwBM; rw [if_neg (by omega), if_pos (by omega)]; first | rw [if_pos (by omega), if_pos (by omega)] | rw [if_pos (by omega), if_neg (by omega)] | rw [if_neg (by omega), if_pos (by omega)] | rw [if_neg (by omega), if_neg (by omega)]⟩
          · refine g_aload_n X dX10_goLaw_168 rfl rfl ?_
            refine g_geti (kz := 7) X kd_114 fc9 (k := 7) (by decide) rfl wd_834 rfl dX10_goLaw_169 ?_
            refine g_iconst X dX10_goLaw_172 ?_
            refine g_icmp_ge (tgt := 190) X dX10_goLaw_173 (by decide) ⟨by omega, by omega⟩ (by decide) (fun q173 => ?_) (fun q173 => ?_)
            · refine g_iconst X dX10_goLaw_190 ?_
              refine g_istore_4 X dX10_goLaw_191 rfl (fun v4_191 ev4_191 => ?_)
              subst v4_191
              refine g_iload_n X dX10_goLaw_193 rfl rfl ?_
              refine g_if_eq (tgt := 220) X dX10_goLaw_194 (by decide) (by decide) (fun q => absurd q (by decide)) (fun _ => ?_)
              refine g_aload_n X dX10_goLaw_197 rfl rfl ?_
              refine g_getr (r := 118) X kd_114 fc9 (k := 12) (by decide) rfl wd_839 rfl (by decide) dX10_goLaw_198 ?_
              refine g_aload_n X dX10_goLaw_201 rfl rfl ?_
              refine g_geti (kz := 7) X kd_114 fc9 (k := 7) (by decide) rfl wd_834 rfl dX10_goLaw_202 ?_
              refine g_aload_n X dX10_goLaw_205 rfl rfl ?_
              refine g_geti (kz := 3) X kd_114 fc9 (k := 3) (by decide) rfl wd_830 rfl dX10_goLaw_206 ?_
              refine g_iast X kd_118 (by omega) (by omega) dX10_goLaw_209 ?_
              refine g_aload_n X dX10_goLaw_210 rfl rfl ?_
              refine g_dup X dX10_goLaw_211 rfl ?_
              refine g_geti (kz := 7) X kd_114 fc9 (k := 7) (by decide) rfl wd_834 rfl dX10_goLaw_212 ?_
              refine g_teq (b := (M 114 7)) (by first | (simp [mu]; done) | (simp only [mu]; repeat (first | rw [if_pos (⟨rfl, rfl⟩)] | rw [if_neg (by omega)]))) ?_
              refine g_iconst X dX10_goLaw_215 ?_
              refine g_iadd X dX10_goLaw_216 ?_
              refine g_puti (kz := 7) X kd_114 fc9 (k := 7) (by decide) rfl wd_834 rfl rfl rfl dX10_goLaw_217 ?_
              refine g_aload_n X dX10_goLaw_220 rfl rfl ?_
              refine g_iload_n X dX10_goLaw_221 rfl rfl ?_
              refine g_bipush X dX10_goLaw_222 (by decide +kernel) ?_
              refine g_icmp_ne (tgt := 231) X dX10_goLaw_224 (by decide) ⟨by omega, by omega⟩ (by decide) (fun q224 => ?_) (fun q224 => ?_)
              · refine g_iconst X dX10_goLaw_231 ?_
                refine g_puti (kz := 2) X kd_114 fc9 (k := 2) (by decide) rfl wd_829 rfl rfl rfl dX10_goLaw_232 ?_
                refine g_iload_n X dX10_goLaw_235 rfl rfl ?_
                refine g_if_eq (tgt := 254) X dX10_goLaw_236 (by decide) (by decide) (fun q => absurd q (by decide)) (fun _ => ?_)
                refine g_iload X dX10_goLaw_239 rfl ?_
                refine g_if_ne (tgt := 250) X dX10_goLaw_241 (by decide) (by decide) (fun q => absurd q (by decide)) (fun _ => ?_)
                refine g_iload_n X dX10_goLaw_244 rfl rfl ?_
                refine g_bipush X dX10_goLaw_245 (by decide +kernel) ?_
                refine g_icmp_ne (tgt := 254) X dX10_goLaw_247 (by decide) ⟨by omega, by omega⟩ (by decide) (fun q247 => ?_) (fun q247 => ?_)
                · refine g_iconst X dX10_goLaw_254 ?_
                  rw [hQ]
                  refine g_zret X hr hlk (by decide) dX10_goLaw_255 ?_
                  have hwi := fun (q : M 114 2 = 1) => wr_id (a := M 114 3) ⟨by have := g3 q; omega, by have := g3 q; omega⟩
                  first | (exfalso; omega) | exact ⟨by first | exact b2i_1 (by unfold lwOk okB; omega) | exact b2i_0 (by unfold lwOk okB; omega), by unfold lwM lwBM; rw [if_neg (by omega), if_pos (by omega)]; first | rw [if_pos (by omega), if_pos (by omega)] | rw [if_pos (by omega), if_neg (by omega)] | rw [if_neg (by omega), if_pos (by omega)] | rw [if_neg (by omega), if_neg (by omega)]⟩
                · refine g_iconst X dX10_goLaw_250 ?_
                  refine g_goto (tgt := 255) X dX10_goLaw_251 (by decide) ?_
                  rw [hQ]
                  refine g_zret X hr hlk (by decide) dX10_goLaw_255 ?_
                  have hwi := fun (q : M 114 2 = 1) => wr_id (a := M 114 3) ⟨by have := g3 q; omega, by have := g3 q; omega⟩
                  first | (exfalso; omega) | exact ⟨by first | exact b2i_1 (by unfold lwOk okB; omega) | exact b2i_0 (by unfold lwOk okB; omega), by unfold lwM lwBM; rw [if_neg (by omega), if_pos (by omega)]; first | rw [if_pos (by omega), if_pos (by omega)] | rw [if_pos (by omega), if_neg (by omega)] | rw [if_neg (by omega), if_pos (by omega)] | rw [if_neg (by omega), if_neg (by omega)]⟩
              · refine g_iconst X dX10_goLaw_227 ?_
                refine g_goto (tgt := 232) X dX10_goLaw_228 (by decide) ?_
                refine g_puti (kz := 2) X kd_114 fc9 (k := 2) (by decide) rfl wd_829 rfl rfl rfl dX10_goLaw_232 ?_
                refine g_iload_n X dX10_goLaw_235 rfl rfl ?_
                refine g_if_eq (tgt := 254) X dX10_goLaw_236 (by decide) (by decide) (fun q => absurd q (by decide)) (fun _ => ?_)
                refine g_iload X dX10_goLaw_239 rfl ?_
                refine g_if_ne (tgt := 250) X dX10_goLaw_241 (by decide) (by decide) (fun q => absurd q (by decide)) (fun _ => ?_)
                refine g_iload_n X dX10_goLaw_244 rfl rfl ?_
                refine g_bipush X dX10_goLaw_245 (by decide +kernel) ?_
                refine g_icmp_ne (tgt := 254) X dX10_goLaw_247 (by decide) ⟨by omega, by omega⟩ (by decide) (fun q247 => ?_) (fun q247 => ?_)
                · refine g_iconst X dX10_goLaw_254 ?_
                  rw [hQ]
                  refine g_zret X hr hlk (by decide) dX10_goLaw_255 ?_
                  have hwi := fun (q : M 114 2 = 1) => wr_id (a := M 114 3) ⟨by have := g3 q; omega, by have := g3 q; omega⟩
                  first | (exfalso; omega) | exact ⟨by first | exact b2i_1 (by unfold lwOk okB; omega) | exact b2i_0 (by unfold lwOk okB; omega), by unfold lwM lwBM; rw [if_neg (by omega), if_pos (by omega)]; first | rw [if_pos (by omega), if_pos (by omega)] | rw [if_pos (by omega), if_neg (by omega)] | rw [if_neg (by omega), if_pos (by omega)] | rw [if_neg (by omega), if_neg (by omega)]⟩
                · refine g_iconst X dX10_goLaw_250 ?_
                  refine g_goto (tgt := 255) X dX10_goLaw_251 (by decide) ?_
                  rw [hQ]
                  refine g_zret X hr hlk (by decide) dX10_goLaw_255 ?_
                  have hwi := fun (q : M 114 2 = 1) => wr_id (a := M 114 3) ⟨by have := g3 q; omega, by have := g3 q; omega⟩
                  first | (exfalso; omega) | exact ⟨by first | exact b2i_1 (by unfold lwOk okB; omega) | exact b2i_0 (by unfold lwOk okB; omega), by unfold lwM lwBM; rw [if_neg (by omega), if_pos (by omega)]; first | rw [if_pos (by omega), if_pos (by omega)] | rw [if_pos (by omega), if_neg (by omega)] | rw [if_neg (by omega), if_pos (by omega)] | rw [if_neg (by omega), if_neg (by omega)]⟩
            · refine g_aload_n X dX10_goLaw_176 rfl rfl ?_
              refine g_geti (kz := 3) X kd_114 fc9 (k := 3) (by decide) rfl wd_830 rfl dX10_goLaw_177 ?_
              have hwr := wr_rng (M 114 3)
              refine g_teqN (b := wr (M 114 3)) (by exact wr_N _) ?_
              refine g_sipush X dX10_goLaw_180 (by decide +kernel) ?_
              refine g_icmp_ge (tgt := 190) X dX10_goLaw_183 (by decide) ⟨by omega, by omega⟩ (by decide) (fun q183 => ?_) (fun q183 => ?_)
              · refine g_iconst X dX10_goLaw_190 ?_
                refine g_istore_4 X dX10_goLaw_191 rfl (fun v4_191 ev4_191 => ?_)
                subst v4_191
                refine g_iload_n X dX10_goLaw_193 rfl rfl ?_
                refine g_if_eq (tgt := 220) X dX10_goLaw_194 (by decide) (by decide) (fun q => absurd q (by decide)) (fun _ => ?_)
                refine g_aload_n X dX10_goLaw_197 rfl rfl ?_
                refine g_getr (r := 118) X kd_114 fc9 (k := 12) (by decide) rfl wd_839 rfl (by decide) dX10_goLaw_198 ?_
                refine g_aload_n X dX10_goLaw_201 rfl rfl ?_
                refine g_geti (kz := 7) X kd_114 fc9 (k := 7) (by decide) rfl wd_834 rfl dX10_goLaw_202 ?_
                refine g_aload_n X dX10_goLaw_205 rfl rfl ?_
                refine g_geti (kz := 3) X kd_114 fc9 (k := 3) (by decide) rfl wd_830 rfl dX10_goLaw_206 ?_
                refine g_iast X kd_118 (by omega) (by omega) dX10_goLaw_209 ?_
                refine g_aload_n X dX10_goLaw_210 rfl rfl ?_
                refine g_dup X dX10_goLaw_211 rfl ?_
                refine g_geti (kz := 7) X kd_114 fc9 (k := 7) (by decide) rfl wd_834 rfl dX10_goLaw_212 ?_
                refine g_teq (b := (M 114 7)) (by first | (simp [mu]; done) | (simp only [mu]; repeat (first | rw [if_pos (⟨rfl, rfl⟩)] | rw [if_neg (by omega)]))) ?_
                refine g_iconst X dX10_goLaw_215 ?_
                refine g_iadd X dX10_goLaw_216 ?_
                refine g_puti (kz := 7) X kd_114 fc9 (k := 7) (by decide) rfl wd_834 rfl rfl rfl dX10_goLaw_217 ?_
                refine g_aload_n X dX10_goLaw_220 rfl rfl ?_
                refine g_iload_n X dX10_goLaw_221 rfl rfl ?_
                refine g_bipush X dX10_goLaw_222 (by decide +kernel) ?_
                refine g_icmp_ne (tgt := 231) X dX10_goLaw_224 (by decide) ⟨by omega, by omega⟩ (by decide) (fun q224 => ?_) (fun q224 => ?_)
                · refine g_iconst X dX10_goLaw_231 ?_
                  refine g_puti (kz := 2) X kd_114 fc9 (k := 2) (by decide) rfl wd_829 rfl rfl rfl dX10_goLaw_232 ?_
                  refine g_iload_n X dX10_goLaw_235 rfl rfl ?_
                  refine g_if_eq (tgt := 254) X dX10_goLaw_236 (by decide) (by decide) (fun q => absurd q (by decide)) (fun _ => ?_)
                  refine g_iload X dX10_goLaw_239 rfl ?_
                  refine g_if_ne (tgt := 250) X dX10_goLaw_241 (by decide) (by decide) (fun q => absurd q (by decide)) (fun _ => ?_)
                  refine g_iload_n X dX10_goLaw_244 rfl rfl ?_
                  refine g_bipush X dX10_goLaw_245 (by decide +kernel) ?_
                  refine g_icmp_ne (tgt := 254) X dX10_goLaw_247 (by decide) ⟨by omega, by omega⟩ (by decide) (fun q247 => ?_) (fun q247 => ?_)
                  · refine g_iconst X dX10_goLaw_254 ?_
                    rw [hQ]
                    refine g_zret X hr hlk (by decide) dX10_goLaw_255 ?_
                    have hwi := fun (q : M 114 2 = 1) => wr_id (a := M 114 3) ⟨by have := g3 q; omega, by have := g3 q; omega⟩
                    first | (exfalso; omega) | exact ⟨by first | exact b2i_1 (by unfold lwOk okB; omega) | exact b2i_0 (by unfold lwOk okB; omega), by unfold lwM lwBM; rw [if_neg (by omega), if_pos (by omega)]; first | rw [if_pos (by omega), if_pos (by omega)] | rw [if_pos (by omega), if_neg (by omega)] | rw [if_neg (by omega), if_pos (by omega)] | rw [if_neg (by omega), if_neg (by omega)]⟩
                  · refine g_iconst X dX10_goLaw_250 ?_
                    refine g_goto (tgt := 255) X dX10_goLaw_251 (by decide) ?_
                    rw [hQ]
                    refine g_zret X hr hlk (by decide) dX10_goLaw_255 ?_
                    have hwi := fun (q : M 114 2 = 1) => wr_id (a := M 114 3) ⟨by have := g3 q; omega, by have := g3 q; omega⟩
                    first | (exfalso; omega) | exact ⟨by first | exact b2i_1 (by unfold lwOk okB; omega) | exact b2i_0 (by unfold lwOk okB; omega), by unfold lwM lwBM; rw [if_neg (by omega), if_pos (by omega)]; first | rw [if_pos (by omega), if_pos (by omega)] | rw [if_pos (by omega), if_neg (by omega)] | rw [if_neg (by omega), if_pos (by omega)] | rw [if_neg (by omega), if_neg (by omega)]⟩
                · refine g_iconst X dX10_goLaw_227 ?_
                  refine g_goto (tgt := 232) X dX10_goLaw_228 (by decide) ?_
                  refine g_puti (kz := 2) X kd_114 fc9 (k := 2) (by decide) rfl wd_829 rfl rfl rfl dX10_goLaw_232 ?_
                  refine g_iload_n X dX10_goLaw_235 rfl rfl ?_
                  refine g_if_eq (tgt := 254) X dX10_goLaw_236 (by decide) (by decide) (fun q => absurd q (by decide)) (fun _ => ?_)
                  refine g_iload X dX10_goLaw_239 rfl ?_
                  refine g_if_ne (tgt := 250) X dX10_goLaw_241 (by decide) (by decide) (fun q => absurd q (by decide)) (fun _ => ?_)
                  refine g_iload_n X dX10_goLaw_244 rfl rfl ?_
                  refine g_bipush X dX10_goLaw_245 (by decide +kernel) ?_
                  refine g_icmp_ne (tgt := 254) X dX10_goLaw_247 (by decide) ⟨by omega, by omega⟩ (by decide) (fun q247 => ?_) (fun q247 => ?_)
                  · refine g_iconst X dX10_goLaw_254 ?_
                    rw [hQ]
                    refine g_zret X hr hlk (by decide) dX10_goLaw_255 ?_
                    have hwi := fun (q : M 114 2 = 1) => wr_id (a := M 114 3) ⟨by have := g3 q; omega, by have := g3 q; omega⟩
                    first | (exfalso; omega) | exact ⟨by first | exact b2i_1 (by unfold lwOk okB; omega) | exact b2i_0 (by unfold lwOk okB; omega), by unfold lwM lwBM; rw [if_neg (by omega), if_pos (by omega)]; first | rw [if_pos (by omega), if_pos (by omega)] | rw [if_pos (by omega), if_neg (by omega)] | rw [if_neg (by omega), if_pos (by omega)] | rw [if_neg (by omega), if_neg (by omega)]⟩
                  · refine g_iconst X dX10_goLaw_250 ?_
                    refine g_goto (tgt := 255) X dX10_goLaw_251 (by decide) ?_
                    rw [hQ]
                    refine g_zret X hr hlk (by decide) dX10_goLaw_255 ?_
                    have hwi := fun (q : M 114 2 = 1) => wr_id (a := M 114 3) ⟨by have := g3 q; omega, by have := g3 q; omega⟩
                    first | (exfalso; omega) | exact ⟨by first | exact b2i_1 (by unfold lwOk okB; omega) | exact b2i_0 (by unfold lwOk okB; omega), by unfold lwM lwBM; rw [if_neg (by omega), if_pos (by omega)]; first | rw [if_pos (by omega), if_pos (by omega)] | rw [if_pos (by omega), if_neg (by omega)] | rw [if_neg (by omega), if_pos (by omega)] | rw [if_neg (by omega), if_neg (by omega)]⟩
              · refine g_iconst X dX10_goLaw_186 ?_
                refine g_goto (tgt := 191) X dX10_goLaw_187 (by decide) ?_
                refine g_istore_4 X dX10_goLaw_191 rfl (fun v4_191 ev4_191 => ?_)
                subst v4_191
                refine g_iload_n X dX10_goLaw_193 rfl rfl ?_
                refine g_if_eq (tgt := 220) X dX10_goLaw_194 (by decide) (by decide) (fun q => absurd q (by decide)) (fun _ => ?_)
                refine g_aload_n X dX10_goLaw_197 rfl rfl ?_
                refine g_getr (r := 118) X kd_114 fc9 (k := 12) (by decide) rfl wd_839 rfl (by decide) dX10_goLaw_198 ?_
                refine g_aload_n X dX10_goLaw_201 rfl rfl ?_
                refine g_geti (kz := 7) X kd_114 fc9 (k := 7) (by decide) rfl wd_834 rfl dX10_goLaw_202 ?_
                refine g_aload_n X dX10_goLaw_205 rfl rfl ?_
                refine g_geti (kz := 3) X kd_114 fc9 (k := 3) (by decide) rfl wd_830 rfl dX10_goLaw_206 ?_
                refine g_iast X kd_118 (by omega) (by omega) dX10_goLaw_209 ?_
                refine g_aload_n X dX10_goLaw_210 rfl rfl ?_
                refine g_dup X dX10_goLaw_211 rfl ?_
                refine g_geti (kz := 7) X kd_114 fc9 (k := 7) (by decide) rfl wd_834 rfl dX10_goLaw_212 ?_
                refine g_teq (b := (M 114 7)) (by first | (simp [mu]; done) | (simp only [mu]; repeat (first | rw [if_pos (⟨rfl, rfl⟩)] | rw [if_neg (by omega)]))) ?_
                refine g_iconst X dX10_goLaw_215 ?_
                refine g_iadd X dX10_goLaw_216 ?_
                refine g_puti (kz := 7) X kd_114 fc9 (k := 7) (by decide) rfl wd_834 rfl rfl rfl dX10_goLaw_217 ?_
                refine g_aload_n X dX10_goLaw_220 rfl rfl ?_
                refine g_iload_n X dX10_goLaw_221 rfl rfl ?_
                refine g_bipush X dX10_goLaw_222 (by decide +kernel) ?_
                refine g_icmp_ne (tgt := 231) X dX10_goLaw_224 (by decide) ⟨by omega, by omega⟩ (by decide) (fun q224 => ?_) (fun q224 => ?_)
                · refine g_iconst X dX10_goLaw_231 ?_
                  refine g_puti (kz := 2) X kd_114 fc9 (k := 2) (by decide) rfl wd_829 rfl rfl rfl dX10_goLaw_232 ?_
                  refine g_iload_n X dX10_goLaw_235 rfl rfl ?_
                  refine g_if_eq (tgt := 254) X dX10_goLaw_236 (by decide) (by decide) (fun q => absurd q (by decide)) (fun _ => ?_)
                  refine g_iload X dX10_goLaw_239 rfl ?_
                  refine g_if_ne (tgt := 250) X dX10_goLaw_241 (by decide) (by decide) (fun _ => ?_) (fun q => absurd q (by decide))
                  refine g_iconst X dX10_goLaw_250 ?_
                  refine g_goto (tgt := 255) X dX10_goLaw_251 (by decide) ?_
                  rw [hQ]
                  refine g_zret X hr hlk (by decide) dX10_goLaw_255 ?_
                  have hwi := fun (q : M 114 2 = 1) => wr_id (a := M 114 3) ⟨by have := g3 q; omega, by have := g3 q; omega⟩
                  first | (exfalso; omega) | exact ⟨by first | exact b2i_1 (by unfold lwOk okB; omega) | exact b2i_0 (by unfold lwOk okB; omega), by unfold lwM lwBM; rw [if_neg (by omega), if_pos (by omega)]; first | rw [if_pos (by omega), if_pos (by omega)] | rw [if_pos (by omega), if_neg (by omega)] | rw [if_neg (by omega), if_pos (by omega)] | rw [if_neg (by omega), if_neg (by omega)]⟩
                · refine g_iconst X dX10_goLaw_227 ?_
                  refine g_goto (tgt := 232) X dX10_goLaw_228 (by decide) ?_
                  refine g_puti (kz := 2) X kd_114 fc9 (k := 2) (by decide) rfl wd_829 rfl rfl rfl dX10_goLaw_232 ?_
                  refine g_iload_n X dX10_goLaw_235 rfl rfl ?_
                  refine g_if_eq (tgt := 254) X dX10_goLaw_236 (by decide) (by decide) (fun q => absurd q (by decide)) (fun _ => ?_)
                  refine g_iload X dX10_goLaw_239 rfl ?_
                  refine g_if_ne (tgt := 250) X dX10_goLaw_241 (by decide) (by decide) (fun _ => ?_) (fun q => absurd q (by decide))
                  refine g_iconst X dX10_goLaw_250 ?_
                  refine g_goto (tgt := 255) X dX10_goLaw_251 (by decide) ?_
                  rw [hQ]
                  refine g_zret X hr hlk (by decide) dX10_goLaw_255 ?_
                  have hwi := fun (q : M 114 2 = 1) => wr_id (a := M 114 3) ⟨by have := g3 q; omega, by have := g3 q; omega⟩
                  first | (exfalso; omega) | exact ⟨by first | exact b2i_1 (by unfold lwOk okB; omega) | exact b2i_0 (by unfold lwOk okB; omega), by unfold lwM lwBM; rw [if_neg (by omega), if_pos (by omega)]; first | rw [if_pos (by omega), if_pos (by omega)] | rw [if_pos (by omega), if_neg (by omega)] | rw [if_neg (by omega), if_pos (by omega)] | rw [if_neg (by omega), if_neg (by omega)]⟩
  have J_23_586 : ∀  (pb : Int), (pb = lwB M) → Gd pP lL eE (rmN 2 45) sS mI aA bB mM cC 0 0 Q tT dD al (fA al) 23 [some (.ref (al 114)), some (.int (iN c)), some (.int (iN pb)), none, none] [] M := by
    intro pb hj23_0
    refine g_aload_n X dX10_goLaw_23 rfl rfl ?_
    refine g_geti (kz := 2) X kd_114 fc9 (k := 2) (by decide) rfl wd_829 rfl dX10_goLaw_24 ?_
    refine g_iconst X dX10_goLaw_27 ?_
    refine g_icmp_ge (tgt := 132) X dX10_goLaw_28 (by decide) ⟨by omega, by omega⟩ (by decide) (fun q28 => ?_) (fun q28 => ?_)
    · exact g_sub (J_132_1 _ (by omega) (by omega)) (by simp only [lsub, and_self, and_true, true_and])
    · refine g_iload_n X dX10_goLaw_31 rfl rfl ?_
      refine g_callSI X (c_X10_isDigit lL tT dD al _ _ ⟨by omega, by omega⟩) lk_RX10_110 rfl rfl ⟨by decide, by decide⟩ rfl (Nat.le_of_ble_eq_true rfl) dX10_goLaw_32 (fun r32 M32 hc32 => ?_)
      obtain ⟨hr32, hm32⟩ := hc32
      subst r32
      subst M32
      refine g_if_eq (tgt := 132) X dX10_goLaw_35 (by decide) (b2i_i32 _) (fun q35 => ?_) (fun q35 => ?_)
      · have q35 := b2i_f q35
        exact g_sub (J_132_1 _ (by omega) (by omega)) (by simp only [lsub, and_self, and_true, true_and])
      · have q35 := b2i_t q35
        refine g_aload_n X dX10_goLaw_38 rfl rfl ?_
        refine g_aload_n X dX10_goLaw_39 rfl rfl ?_
        refine g_geti (kz := 2) X kd_114 fc9 (k := 2) (by decide) rfl wd_829 rfl dX10_goLaw_40 ?_
        refine g_if_ne (tgt := 50) X dX10_goLaw_43 (by decide) ⟨by omega, by omega⟩ (fun q43 => ?_) (fun q43 => ?_)
        · have gs := g3 (by omega)
          refine g_aload_n X dX10_goLaw_50 rfl rfl ?_
          refine g_geti (kz := 4) X kd_114 fc9 (k := 4) (by decide) rfl wd_831 rfl dX10_goLaw_51 ?_
          refine g_iconst X dX10_goLaw_54 ?_
          refine g_iadd X dX10_goLaw_55 ?_
          refine g_puti (kz := 4) X kd_114 fc9 (k := 4) (by decide) rfl wd_831 rfl rfl rfl dX10_goLaw_56 ?_
          refine g_aload_n X dX10_goLaw_59 rfl rfl ?_
          refine g_aload_n X dX10_goLaw_60 rfl rfl ?_
          refine g_geti (kz := 2) X kd_114 fc9 (k := 2) (by decide) rfl wd_829 rfl dX10_goLaw_61 ?_
          refine g_teq (b := (M 114 2)) (by first | (simp [mu]; done) | (simp only [mu]; repeat (first | rw [if_pos (⟨rfl, rfl⟩)] | rw [if_neg (by omega)]))) ?_
          refine g_if_ne (tgt := 74) X dX10_goLaw_64 (by decide) ⟨by omega, by omega⟩ (fun q64 => ?_) (fun q64 => ?_)
          · refine g_bipush X dX10_goLaw_74 (by decide +kernel) ?_
            refine g_aload_n X dX10_goLaw_76 rfl rfl ?_
            refine g_geti (kz := 3) X kd_114 fc9 (k := 3) (by decide) rfl wd_830 rfl dX10_goLaw_77 ?_
            refine g_teq (b := (M 114 3)) (by first | (simp [mu]; done) | (simp only [mu]; repeat (first | rw [if_pos (⟨rfl, rfl⟩)] | rw [if_neg (by omega)]))) ?_
            refine g_imul X dX10_goLaw_80 ?_
            refine g_iload_n X dX10_goLaw_81 rfl rfl ?_
            refine g_iadd X dX10_goLaw_82 ?_
            refine g_bipush X dX10_goLaw_83 (by decide +kernel) ?_
            refine g_isub X dX10_goLaw_85 ?_
            refine g_puti (kz := 3) X kd_114 fc9 (k := 3) (by decide) rfl wd_830 rfl rfl rfl dX10_goLaw_86 ?_
            refine g_aload_n X dX10_goLaw_89 rfl rfl ?_
            refine g_geti (kz := 2) X kd_114 fc9 (k := 2) (by decide) rfl wd_829 rfl dX10_goLaw_90 ?_
            refine g_teq (b := (M 114 2)) (by first | (simp [mu]; done) | (simp only [mu]; repeat (first | rw [if_pos (⟨rfl, rfl⟩)] | rw [if_neg (by omega)]))) ?_
            refine g_iconst X dX10_goLaw_93 ?_
            refine g_icmp_eq (tgt := 103) X dX10_goLaw_94 (by decide) ⟨by omega, by omega⟩ (by decide) (fun q94 => ?_) (fun q94 => ?_)
            · refine g_aload_n X dX10_goLaw_103 rfl rfl ?_
              refine g_geti (kz := 4) X kd_114 fc9 (k := 4) (by decide) rfl wd_831 rfl dX10_goLaw_104 ?_
              refine g_teq (b := ((M 114 4) + 1)) (by first | (simp [mu]; done) | (simp only [mu]; repeat (first | rw [if_pos (⟨rfl, rfl⟩)] | rw [if_neg (by omega)]))) ?_
              refine g_iconst X dX10_goLaw_107 ?_
              refine g_icmp_ge (tgt := 123) X dX10_goLaw_108 (by decide) ⟨by omega, by omega⟩ (by decide) (fun q108 => ?_) (fun q108 => ?_)
              · refine g_iconst X dX10_goLaw_123 ?_
                refine g_istore_n_3 X dX10_goLaw_124 rfl rfl (fun v3_124 ev3_124 => ?_)
                subst v3_124
                refine g_aload_n X dX10_goLaw_125 rfl rfl ?_
                refine g_iconst X dX10_goLaw_126 ?_
                refine g_puti (kz := 2) X kd_114 fc9 (k := 2) (by decide) rfl wd_829 rfl rfl rfl dX10_goLaw_127 ?_
                refine g_iload_n X dX10_goLaw_130 rfl rfl ?_
                rw [hQ]
                refine g_zret X hr hlk (by decide) dX10_goLaw_131 ?_
                first | (exfalso; omega) | exact ⟨by first | exact b2i_1 (by unfold lwOk okA; omega) | exact b2i_0 (by unfold lwOk okA; omega), by unfold lwM lwA lwN lwV; rw [if_pos (by omega)]; first | rw [if_pos (by omega), if_pos (by omega)] | rw [if_neg (by omega), if_neg (by omega)]⟩
              · refine g_aload_n X dX10_goLaw_111 rfl rfl ?_
                refine g_callVI X (c_X10_reach lL tT dD al _  (by simp [mu]; try omega)) kd_114 fc9 lk_RX10_141 rfl rfl ⟨by decide, by decide⟩ rfl (Nat.le_of_ble_eq_true rfl) dX10_goLaw_112 (fun r112 M112 hc112 => ?_)
                rw [show (mu (mu M 114 4 ((M 114 4) + 1)) 114 3 (((10 * (M 114 3)) + c) - 48)) 114 3 = (((10 * (M 114 3)) + c) - 48) from by first | (simp [mu]; done) | (simp only [mu]; repeat (first | rw [if_pos (⟨rfl, rfl⟩)] | rw [if_neg (by omega)]))] at hc112
                rw [show (mu (mu M 114 4 ((M 114 4) + 1)) 114 3 (((10 * (M 114 3)) + c) - 48)) 114 4 = ((M 114 4) + 1) from by first | (simp [mu]; done) | (simp only [mu]; repeat (first | rw [if_pos (⟨rfl, rfl⟩)] | rw [if_neg (by omega)]))] at hc112
                obtain ⟨hr112, hm112⟩ := hc112
                subst r112
                subst M112
                have hrr := rch_rng hG0 (c := c) (by omega) (by omega) (by omega)
                refine g_teq (b := rchS (lwN M) (lwV M c)) (by unfold lwN lwV; first | (exfalso; omega) | rw [if_pos (by omega), if_pos (by omega)] | rw [if_neg (by omega), if_neg (by omega)]) ?_
                refine g_iload_n X dX10_goLaw_115 rfl rfl ?_
                refine g_icmp_le (tgt := 123) X dX10_goLaw_116 (by decide) ⟨by omega, by omega⟩ ⟨by omega, by omega⟩ (fun q116 => ?_) (fun q116 => ?_)
                · refine g_iconst X dX10_goLaw_123 ?_
                  refine g_istore_n_3 X dX10_goLaw_124 rfl rfl (fun v3_124 ev3_124 => ?_)
                  subst v3_124
                  refine g_aload_n X dX10_goLaw_125 rfl rfl ?_
                  refine g_iconst X dX10_goLaw_126 ?_
                  refine g_puti (kz := 2) X kd_114 fc9 (k := 2) (by decide) rfl wd_829 rfl rfl rfl dX10_goLaw_127 ?_
                  refine g_iload_n X dX10_goLaw_130 rfl rfl ?_
                  rw [hQ]
                  refine g_zret X hr hlk (by decide) dX10_goLaw_131 ?_
                  first | (exfalso; omega) | exact ⟨by first | exact b2i_1 (by unfold lwOk okA; omega) | exact b2i_0 (by unfold lwOk okA; omega), by unfold lwM lwA lwN lwV; rw [if_pos (by omega)]; first | rw [if_pos (by omega), if_pos (by omega)] | rw [if_neg (by omega), if_neg (by omega)]⟩
                · refine g_iconst X dX10_goLaw_119 ?_
                  refine g_goto (tgt := 124) X dX10_goLaw_120 (by decide) ?_
                  refine g_istore_n_3 X dX10_goLaw_124 rfl rfl (fun v3_124 ev3_124 => ?_)
                  subst v3_124
                  refine g_aload_n X dX10_goLaw_125 rfl rfl ?_
                  refine g_iconst X dX10_goLaw_126 ?_
                  refine g_puti (kz := 2) X kd_114 fc9 (k := 2) (by decide) rfl wd_829 rfl rfl rfl dX10_goLaw_127 ?_
                  refine g_iload_n X dX10_goLaw_130 rfl rfl ?_
                  rw [hQ]
                  refine g_zret X hr hlk (by decide) dX10_goLaw_131 ?_
                  first | (exfalso; omega) | exact ⟨by first | exact b2i_1 (by unfold lwOk okA; omega) | exact b2i_0 (by unfold lwOk okA; omega), by unfold lwM lwA lwN lwV; rw [if_pos (by omega)]; first | rw [if_pos (by omega), if_pos (by omega)] | rw [if_neg (by omega), if_neg (by omega)]⟩
            · refine g_iload_n X dX10_goLaw_97 rfl rfl ?_
              refine g_bipush X dX10_goLaw_98 (by decide +kernel) ?_
              refine g_icmp_eq (tgt := 123) X dX10_goLaw_100 (by decide) ⟨by omega, by omega⟩ (by decide) (fun q100 => ?_) (fun q100 => ?_)
              · refine g_iconst X dX10_goLaw_123 ?_
                refine g_istore_n_3 X dX10_goLaw_124 rfl rfl (fun v3_124 ev3_124 => ?_)
                subst v3_124
                refine g_aload_n X dX10_goLaw_125 rfl rfl ?_
                refine g_iconst X dX10_goLaw_126 ?_
                refine g_puti (kz := 2) X kd_114 fc9 (k := 2) (by decide) rfl wd_829 rfl rfl rfl dX10_goLaw_127 ?_
                refine g_iload_n X dX10_goLaw_130 rfl rfl ?_
                rw [hQ]
                refine g_zret X hr hlk (by decide) dX10_goLaw_131 ?_
                first | (exfalso; omega) | exact ⟨by first | exact b2i_1 (by unfold lwOk okA; omega) | exact b2i_0 (by unfold lwOk okA; omega), by unfold lwM lwA lwN lwV; rw [if_pos (by omega)]; first | rw [if_pos (by omega), if_pos (by omega)] | rw [if_neg (by omega), if_neg (by omega)]⟩
              · refine g_aload_n X dX10_goLaw_103 rfl rfl ?_
                refine g_geti (kz := 4) X kd_114 fc9 (k := 4) (by decide) rfl wd_831 rfl dX10_goLaw_104 ?_
                refine g_teq (b := ((M 114 4) + 1)) (by first | (simp [mu]; done) | (simp only [mu]; repeat (first | rw [if_pos (⟨rfl, rfl⟩)] | rw [if_neg (by omega)]))) ?_
                refine g_iconst X dX10_goLaw_107 ?_
                refine g_icmp_ge (tgt := 123) X dX10_goLaw_108 (by decide) ⟨by omega, by omega⟩ (by decide) (fun q108 => ?_) (fun q108 => ?_)
                · refine g_iconst X dX10_goLaw_123 ?_
                  refine g_istore_n_3 X dX10_goLaw_124 rfl rfl (fun v3_124 ev3_124 => ?_)
                  subst v3_124
                  refine g_aload_n X dX10_goLaw_125 rfl rfl ?_
                  refine g_iconst X dX10_goLaw_126 ?_
                  refine g_puti (kz := 2) X kd_114 fc9 (k := 2) (by decide) rfl wd_829 rfl rfl rfl dX10_goLaw_127 ?_
                  refine g_iload_n X dX10_goLaw_130 rfl rfl ?_
                  rw [hQ]
                  refine g_zret X hr hlk (by decide) dX10_goLaw_131 ?_
                  first | (exfalso; omega) | exact ⟨by first | exact b2i_1 (by unfold lwOk okA; omega) | exact b2i_0 (by unfold lwOk okA; omega), by unfold lwM lwA lwN lwV; rw [if_pos (by omega)]; first | rw [if_pos (by omega), if_pos (by omega)] | rw [if_neg (by omega), if_neg (by omega)]⟩
                · refine g_aload_n X dX10_goLaw_111 rfl rfl ?_
                  refine g_callVI X (c_X10_reach lL tT dD al _  (by simp [mu]; try omega)) kd_114 fc9 lk_RX10_141 rfl rfl ⟨by decide, by decide⟩ rfl (Nat.le_of_ble_eq_true rfl) dX10_goLaw_112 (fun r112 M112 hc112 => ?_)
                  rw [show (mu (mu M 114 4 ((M 114 4) + 1)) 114 3 (((10 * (M 114 3)) + c) - 48)) 114 3 = (((10 * (M 114 3)) + c) - 48) from by first | (simp [mu]; done) | (simp only [mu]; repeat (first | rw [if_pos (⟨rfl, rfl⟩)] | rw [if_neg (by omega)]))] at hc112
                  rw [show (mu (mu M 114 4 ((M 114 4) + 1)) 114 3 (((10 * (M 114 3)) + c) - 48)) 114 4 = ((M 114 4) + 1) from by first | (simp [mu]; done) | (simp only [mu]; repeat (first | rw [if_pos (⟨rfl, rfl⟩)] | rw [if_neg (by omega)]))] at hc112
                  obtain ⟨hr112, hm112⟩ := hc112
                  subst r112
                  subst M112
                  have hrr := rch_rng hG0 (c := c) (by omega) (by omega) (by omega)
                  refine g_teq (b := rchS (lwN M) (lwV M c)) (by unfold lwN lwV; first | (exfalso; omega) | rw [if_pos (by omega), if_pos (by omega)] | rw [if_neg (by omega), if_neg (by omega)]) ?_
                  refine g_iload_n X dX10_goLaw_115 rfl rfl ?_
                  refine g_icmp_le (tgt := 123) X dX10_goLaw_116 (by decide) ⟨by omega, by omega⟩ ⟨by omega, by omega⟩ (fun q116 => ?_) (fun q116 => ?_)
                  · refine g_iconst X dX10_goLaw_123 ?_
                    refine g_istore_n_3 X dX10_goLaw_124 rfl rfl (fun v3_124 ev3_124 => ?_)
                    subst v3_124
                    refine g_aload_n X dX10_goLaw_125 rfl rfl ?_
                    refine g_iconst X dX10_goLaw_126 ?_
                    refine g_puti (kz := 2) X kd_114 fc9 (k := 2) (by decide) rfl wd_829 rfl rfl rfl dX10_goLaw_127 ?_
                    refine g_iload_n X dX10_goLaw_130 rfl rfl ?_
                    rw [hQ]
                    refine g_zret X hr hlk (by decide) dX10_goLaw_131 ?_
                    first | (exfalso; omega) | exact ⟨by first | exact b2i_1 (by unfold lwOk okA; omega) | exact b2i_0 (by unfold lwOk okA; omega), by unfold lwM lwA lwN lwV; rw [if_pos (by omega)]; first | rw [if_pos (by omega), if_pos (by omega)] | rw [if_neg (by omega), if_neg (by omega)]⟩
                  · refine g_iconst X dX10_goLaw_119 ?_
                    refine g_goto (tgt := 124) X dX10_goLaw_120 (by decide) ?_
                    refine g_istore_n_3 X dX10_goLaw_124 rfl rfl (fun v3_124 ev3_124 => ?_)
                    subst v3_124
                    refine g_aload_n X dX10_goLaw_125 rfl rfl ?_
                    refine g_iconst X dX10_goLaw_126 ?_
                    refine g_puti (kz := 2) X kd_114 fc9 (k := 2) (by decide) rfl wd_829 rfl rfl rfl dX10_goLaw_127 ?_
                    refine g_iload_n X dX10_goLaw_130 rfl rfl ?_
                    rw [hQ]
                    refine g_zret X hr hlk (by decide) dX10_goLaw_131 ?_
                    first | (exfalso; omega) | exact ⟨by first | exact b2i_1 (by unfold lwOk okA; omega) | exact b2i_0 (by unfold lwOk okA; omega), by unfold lwM lwA lwN lwV; rw [if_pos (by omega)]; first | rw [if_pos (by omega), if_pos (by omega)] | rw [if_neg (by omega), if_neg (by omega)]⟩
          · refine g_iload_n X dX10_goLaw_67 rfl rfl ?_
            refine g_bipush X dX10_goLaw_68 (by decide +kernel) ?_
            refine g_isub X dX10_goLaw_70 ?_
            refine g_goto (tgt := 86) X dX10_goLaw_71 (by decide) ?_
            refine g_puti (kz := 3) X kd_114 fc9 (k := 3) (by decide) rfl wd_830 rfl rfl rfl dX10_goLaw_86 ?_
            refine g_aload_n X dX10_goLaw_89 rfl rfl ?_
            refine g_geti (kz := 2) X kd_114 fc9 (k := 2) (by decide) rfl wd_829 rfl dX10_goLaw_90 ?_
            refine g_teq (b := (M 114 2)) (by first | (simp [mu]; done) | (simp only [mu]; repeat (first | rw [if_pos (⟨rfl, rfl⟩)] | rw [if_neg (by omega)]))) ?_
            refine g_iconst X dX10_goLaw_93 ?_
            refine g_icmp_eq (tgt := 103) X dX10_goLaw_94 (by decide) ⟨by omega, by omega⟩ (by decide) (fun q94 => ?_) (fun q94 => ?_)
            · refine g_aload_n X dX10_goLaw_103 rfl rfl ?_
              refine g_geti (kz := 4) X kd_114 fc9 (k := 4) (by decide) rfl wd_831 rfl dX10_goLaw_104 ?_
              refine g_teq (b := ((M 114 4) + 1)) (by first | (simp [mu]; done) | (simp only [mu]; repeat (first | rw [if_pos (⟨rfl, rfl⟩)] | rw [if_neg (by omega)]))) ?_
              refine g_iconst X dX10_goLaw_107 ?_
              refine g_icmp_ge (tgt := 123) X dX10_goLaw_108 (by decide) ⟨by omega, by omega⟩ (by decide) (fun q108 => ?_) (fun q108 => ?_)
              · refine g_iconst X dX10_goLaw_123 ?_
                refine g_istore_n_3 X dX10_goLaw_124 rfl rfl (fun v3_124 ev3_124 => ?_)
                subst v3_124
                refine g_aload_n X dX10_goLaw_125 rfl rfl ?_
                refine g_iconst X dX10_goLaw_126 ?_
                refine g_puti (kz := 2) X kd_114 fc9 (k := 2) (by decide) rfl wd_829 rfl rfl rfl dX10_goLaw_127 ?_
                refine g_iload_n X dX10_goLaw_130 rfl rfl ?_
                rw [hQ]
                refine g_zret X hr hlk (by decide) dX10_goLaw_131 ?_
                first | (exfalso; omega) | exact ⟨by first | exact b2i_1 (by unfold lwOk okA; omega) | exact b2i_0 (by unfold lwOk okA; omega), by unfold lwM lwA lwN lwV; rw [if_pos (by omega)]; first | rw [if_pos (by omega), if_pos (by omega)] | rw [if_neg (by omega), if_neg (by omega)]⟩
              · refine g_aload_n X dX10_goLaw_111 rfl rfl ?_
                refine g_callVI X (c_X10_reach lL tT dD al _  (by simp [mu]; try omega)) kd_114 fc9 lk_RX10_141 rfl rfl ⟨by decide, by decide⟩ rfl (Nat.le_of_ble_eq_true rfl) dX10_goLaw_112 (fun r112 M112 hc112 => ?_)
                rw [show (mu (mu M 114 4 ((M 114 4) + 1)) 114 3 (c - 48)) 114 3 = (c - 48) from by first | (simp [mu]; done) | (simp only [mu]; repeat (first | rw [if_pos (⟨rfl, rfl⟩)] | rw [if_neg (by omega)]))] at hc112
                rw [show (mu (mu M 114 4 ((M 114 4) + 1)) 114 3 (c - 48)) 114 4 = ((M 114 4) + 1) from by first | (simp [mu]; done) | (simp only [mu]; repeat (first | rw [if_pos (⟨rfl, rfl⟩)] | rw [if_neg (by omega)]))] at hc112
                obtain ⟨hr112, hm112⟩ := hc112
                subst r112
                subst M112
                have hrr := rch_rng hG0 (c := c) (by omega) (by omega) (by omega)
                refine g_teq (b := rchS (lwN M) (lwV M c)) (by unfold lwN lwV; first | (exfalso; omega) | rw [if_pos (by omega), if_pos (by omega)] | rw [if_neg (by omega), if_neg (by omega)]) ?_
                refine g_iload_n X dX10_goLaw_115 rfl rfl ?_
                refine g_icmp_le (tgt := 123) X dX10_goLaw_116 (by decide) ⟨by omega, by omega⟩ ⟨by omega, by omega⟩ (fun q116 => ?_) (fun q116 => ?_)
                · refine g_iconst X dX10_goLaw_123 ?_
                  refine g_istore_n_3 X dX10_goLaw_124 rfl rfl (fun v3_124 ev3_124 => ?_)
                  subst v3_124
                  refine g_aload_n X dX10_goLaw_125 rfl rfl ?_
                  refine g_iconst X dX10_goLaw_126 ?_
                  refine g_puti (kz := 2) X kd_114 fc9 (k := 2) (by decide) rfl wd_829 rfl rfl rfl dX10_goLaw_127 ?_
                  refine g_iload_n X dX10_goLaw_130 rfl rfl ?_
                  rw [hQ]
                  refine g_zret X hr hlk (by decide) dX10_goLaw_131 ?_
                  first | (exfalso; omega) | exact ⟨by first | exact b2i_1 (by unfold lwOk okA; omega) | exact b2i_0 (by unfold lwOk okA; omega), by unfold lwM lwA lwN lwV; rw [if_pos (by omega)]; first | rw [if_pos (by omega), if_pos (by omega)] | rw [if_neg (by omega), if_neg (by omega)]⟩
                · refine g_iconst X dX10_goLaw_119 ?_
                  refine g_goto (tgt := 124) X dX10_goLaw_120 (by decide) ?_
                  refine g_istore_n_3 X dX10_goLaw_124 rfl rfl (fun v3_124 ev3_124 => ?_)
                  subst v3_124
                  refine g_aload_n X dX10_goLaw_125 rfl rfl ?_
                  refine g_iconst X dX10_goLaw_126 ?_
                  refine g_puti (kz := 2) X kd_114 fc9 (k := 2) (by decide) rfl wd_829 rfl rfl rfl dX10_goLaw_127 ?_
                  refine g_iload_n X dX10_goLaw_130 rfl rfl ?_
                  rw [hQ]
                  refine g_zret X hr hlk (by decide) dX10_goLaw_131 ?_
                  first | (exfalso; omega) | exact ⟨by first | exact b2i_1 (by unfold lwOk okA; omega) | exact b2i_0 (by unfold lwOk okA; omega), by unfold lwM lwA lwN lwV; rw [if_pos (by omega)]; first | rw [if_pos (by omega), if_pos (by omega)] | rw [if_neg (by omega), if_neg (by omega)]⟩
            · refine g_iload_n X dX10_goLaw_97 rfl rfl ?_
              refine g_bipush X dX10_goLaw_98 (by decide +kernel) ?_
              refine g_icmp_eq (tgt := 123) X dX10_goLaw_100 (by decide) ⟨by omega, by omega⟩ (by decide) (fun q100 => ?_) (fun q100 => ?_)
              · refine g_iconst X dX10_goLaw_123 ?_
                refine g_istore_n_3 X dX10_goLaw_124 rfl rfl (fun v3_124 ev3_124 => ?_)
                subst v3_124
                refine g_aload_n X dX10_goLaw_125 rfl rfl ?_
                refine g_iconst X dX10_goLaw_126 ?_
                refine g_puti (kz := 2) X kd_114 fc9 (k := 2) (by decide) rfl wd_829 rfl rfl rfl dX10_goLaw_127 ?_
                refine g_iload_n X dX10_goLaw_130 rfl rfl ?_
                rw [hQ]
                refine g_zret X hr hlk (by decide) dX10_goLaw_131 ?_
                first | (exfalso; omega) | exact ⟨by first | exact b2i_1 (by unfold lwOk okA; omega) | exact b2i_0 (by unfold lwOk okA; omega), by unfold lwM lwA lwN lwV; rw [if_pos (by omega)]; first | rw [if_pos (by omega), if_pos (by omega)] | rw [if_neg (by omega), if_neg (by omega)]⟩
              · refine g_aload_n X dX10_goLaw_103 rfl rfl ?_
                refine g_geti (kz := 4) X kd_114 fc9 (k := 4) (by decide) rfl wd_831 rfl dX10_goLaw_104 ?_
                refine g_teq (b := ((M 114 4) + 1)) (by first | (simp [mu]; done) | (simp only [mu]; repeat (first | rw [if_pos (⟨rfl, rfl⟩)] | rw [if_neg (by omega)]))) ?_
                refine g_iconst X dX10_goLaw_107 ?_
                refine g_icmp_ge (tgt := 123) X dX10_goLaw_108 (by decide) ⟨by omega, by omega⟩ (by decide) (fun q108 => ?_) (fun q108 => ?_)
                · refine g_iconst X dX10_goLaw_123 ?_
                  refine g_istore_n_3 X dX10_goLaw_124 rfl rfl (fun v3_124 ev3_124 => ?_)
                  subst v3_124
                  refine g_aload_n X dX10_goLaw_125 rfl rfl ?_
                  refine g_iconst X dX10_goLaw_126 ?_
                  refine g_puti (kz := 2) X kd_114 fc9 (k := 2) (by decide) rfl wd_829 rfl rfl rfl dX10_goLaw_127 ?_
                  refine g_iload_n X dX10_goLaw_130 rfl rfl ?_
                  rw [hQ]
                  refine g_zret X hr hlk (by decide) dX10_goLaw_131 ?_
                  first | (exfalso; omega) | exact ⟨by first | exact b2i_1 (by unfold lwOk okA; omega) | exact b2i_0 (by unfold lwOk okA; omega), by unfold lwM lwA lwN lwV; rw [if_pos (by omega)]; first | rw [if_pos (by omega), if_pos (by omega)] | rw [if_neg (by omega), if_neg (by omega)]⟩
                · refine g_aload_n X dX10_goLaw_111 rfl rfl ?_
                  refine g_callVI X (c_X10_reach lL tT dD al _  (by simp [mu]; try omega)) kd_114 fc9 lk_RX10_141 rfl rfl ⟨by decide, by decide⟩ rfl (Nat.le_of_ble_eq_true rfl) dX10_goLaw_112 (fun r112 M112 hc112 => ?_)
                  rw [show (mu (mu M 114 4 ((M 114 4) + 1)) 114 3 (c - 48)) 114 3 = (c - 48) from by first | (simp [mu]; done) | (simp only [mu]; repeat (first | rw [if_pos (⟨rfl, rfl⟩)] | rw [if_neg (by omega)]))] at hc112
                  rw [show (mu (mu M 114 4 ((M 114 4) + 1)) 114 3 (c - 48)) 114 4 = ((M 114 4) + 1) from by first | (simp [mu]; done) | (simp only [mu]; repeat (first | rw [if_pos (⟨rfl, rfl⟩)] | rw [if_neg (by omega)]))] at hc112
                  obtain ⟨hr112, hm112⟩ := hc112
                  subst r112
                  subst M112
                  have hrr := rch_rng hG0 (c := c) (by omega) (by omega) (by omega)
                  refine g_teq (b := rchS (lwN M) (lwV M c)) (by unfold lwN lwV; first | (exfalso; omega) | rw [if_pos (by omega), if_pos (by omega)] | rw [if_neg (by omega), if_neg (by omega)]) ?_
                  refine g_iload_n X dX10_goLaw_115 rfl rfl ?_
                  refine g_icmp_le (tgt := 123) X dX10_goLaw_116 (by decide) ⟨by omega, by omega⟩ ⟨by omega, by omega⟩ (fun q116 => ?_) (fun q116 => ?_)
                  · refine g_iconst X dX10_goLaw_123 ?_
                    refine g_istore_n_3 X dX10_goLaw_124 rfl rfl (fun v3_124 ev3_124 => ?_)
                    subst v3_124
                    refine g_aload_n X dX10_goLaw_125 rfl rfl ?_
                    refine g_iconst X dX10_goLaw_126 ?_
                    refine g_puti (kz := 2) X kd_114 fc9 (k := 2) (by decide) rfl wd_829 rfl rfl rfl dX10_goLaw_127 ?_
                    refine g_iload_n X dX10_goLaw_130 rfl rfl ?_
                    rw [hQ]
                    refine g_zret X hr hlk (by decide) dX10_goLaw_131 ?_
                    first | (exfalso; omega) | exact ⟨by first | exact b2i_1 (by unfold lwOk okA; omega) | exact b2i_0 (by unfold lwOk okA; omega), by unfold lwM lwA lwN lwV; rw [if_pos (by omega)]; first | rw [if_pos (by omega), if_pos (by omega)] | rw [if_neg (by omega), if_neg (by omega)]⟩
                  · refine g_iconst X dX10_goLaw_119 ?_
                    refine g_goto (tgt := 124) X dX10_goLaw_120 (by decide) ?_
                    refine g_istore_n_3 X dX10_goLaw_124 rfl rfl (fun v3_124 ev3_124 => ?_)
                    subst v3_124
                    refine g_aload_n X dX10_goLaw_125 rfl rfl ?_
                    refine g_iconst X dX10_goLaw_126 ?_
                    refine g_puti (kz := 2) X kd_114 fc9 (k := 2) (by decide) rfl wd_829 rfl rfl rfl dX10_goLaw_127 ?_
                    refine g_iload_n X dX10_goLaw_130 rfl rfl ?_
                    rw [hQ]
                    refine g_zret X hr hlk (by decide) dX10_goLaw_131 ?_
                    first | (exfalso; omega) | exact ⟨by first | exact b2i_1 (by unfold lwOk okA; omega) | exact b2i_0 (by unfold lwOk okA; omega), by unfold lwM lwA lwN lwV; rw [if_pos (by omega)]; first | rw [if_pos (by omega), if_pos (by omega)] | rw [if_neg (by omega), if_neg (by omega)]⟩
        · refine g_iconst X dX10_goLaw_46 ?_
          refine g_goto (tgt := 56) X dX10_goLaw_47 (by decide) ?_
          refine g_puti (kz := 4) X kd_114 fc9 (k := 4) (by decide) rfl wd_831 rfl rfl rfl dX10_goLaw_56 ?_
          refine g_aload_n X dX10_goLaw_59 rfl rfl ?_
          refine g_aload_n X dX10_goLaw_60 rfl rfl ?_
          refine g_geti (kz := 2) X kd_114 fc9 (k := 2) (by decide) rfl wd_829 rfl dX10_goLaw_61 ?_
          refine g_teq (b := (M 114 2)) (by first | (simp [mu]; done) | (simp only [mu]; repeat (first | rw [if_pos (⟨rfl, rfl⟩)] | rw [if_neg (by omega)]))) ?_
          refine g_if_ne (tgt := 74) X dX10_goLaw_64 (by decide) ⟨by omega, by omega⟩ (fun q64 => ?_) (fun q64 => ?_)
          · refine g_bipush X dX10_goLaw_74 (by decide +kernel) ?_
            refine g_aload_n X dX10_goLaw_76 rfl rfl ?_
            refine g_geti (kz := 3) X kd_114 fc9 (k := 3) (by decide) rfl wd_830 rfl dX10_goLaw_77 ?_
            refine g_teq (b := (M 114 3)) (by first | (simp [mu]; done) | (simp only [mu]; repeat (first | rw [if_pos (⟨rfl, rfl⟩)] | rw [if_neg (by omega)]))) ?_
            refine g_imul X dX10_goLaw_80 ?_
            refine g_iload_n X dX10_goLaw_81 rfl rfl ?_
            refine g_iadd X dX10_goLaw_82 ?_
            refine g_bipush X dX10_goLaw_83 (by decide +kernel) ?_
            refine g_isub X dX10_goLaw_85 ?_
            refine g_puti (kz := 3) X kd_114 fc9 (k := 3) (by decide) rfl wd_830 rfl rfl rfl dX10_goLaw_86 ?_
            refine g_aload_n X dX10_goLaw_89 rfl rfl ?_
            refine g_geti (kz := 2) X kd_114 fc9 (k := 2) (by decide) rfl wd_829 rfl dX10_goLaw_90 ?_
            refine g_teq (b := (M 114 2)) (by first | (simp [mu]; done) | (simp only [mu]; repeat (first | rw [if_pos (⟨rfl, rfl⟩)] | rw [if_neg (by omega)]))) ?_
            refine g_iconst X dX10_goLaw_93 ?_
            refine g_icmp_eq (tgt := 103) X dX10_goLaw_94 (by decide) ⟨by omega, by omega⟩ (by decide) (fun q94 => ?_) (fun q94 => ?_)
            · refine g_aload_n X dX10_goLaw_103 rfl rfl ?_
              refine g_geti (kz := 4) X kd_114 fc9 (k := 4) (by decide) rfl wd_831 rfl dX10_goLaw_104 ?_
              refine g_teq (b := 1) (by first | (simp [mu]; done) | (simp only [mu]; repeat (first | rw [if_pos (⟨rfl, rfl⟩)] | rw [if_neg (by omega)]))) ?_
              refine g_iconst X dX10_goLaw_107 ?_
              refine g_icmp_ge (tgt := 123) X dX10_goLaw_108 (by decide) ⟨by omega, by omega⟩ (by decide) (fun q108 => ?_) (fun q108 => ?_)
              · refine g_iconst X dX10_goLaw_123 ?_
                refine g_istore_n_3 X dX10_goLaw_124 rfl rfl (fun v3_124 ev3_124 => ?_)
                subst v3_124
                refine g_aload_n X dX10_goLaw_125 rfl rfl ?_
                refine g_iconst X dX10_goLaw_126 ?_
                refine g_puti (kz := 2) X kd_114 fc9 (k := 2) (by decide) rfl wd_829 rfl rfl rfl dX10_goLaw_127 ?_
                refine g_iload_n X dX10_goLaw_130 rfl rfl ?_
                rw [hQ]
                refine g_zret X hr hlk (by decide) dX10_goLaw_131 ?_
                first | (exfalso; omega) | exact ⟨by first | exact b2i_1 (by unfold lwOk okA; omega) | exact b2i_0 (by unfold lwOk okA; omega), by unfold lwM lwA lwN lwV; rw [if_pos (by omega)]; first | rw [if_pos (by omega), if_pos (by omega)] | rw [if_neg (by omega), if_neg (by omega)]⟩
              · refine g_aload_n X dX10_goLaw_111 rfl rfl ?_
                refine g_callVI X (c_X10_reach lL tT dD al _  (by simp [mu]; try omega)) kd_114 fc9 lk_RX10_141 rfl rfl ⟨by decide, by decide⟩ rfl (Nat.le_of_ble_eq_true rfl) dX10_goLaw_112 (fun r112 M112 hc112 => ?_)
                rw [show (mu (mu M 114 4 1) 114 3 (((10 * (M 114 3)) + c) - 48)) 114 3 = (((10 * (M 114 3)) + c) - 48) from by first | (simp [mu]; done) | (simp only [mu]; repeat (first | rw [if_pos (⟨rfl, rfl⟩)] | rw [if_neg (by omega)]))] at hc112
                rw [show (mu (mu M 114 4 1) 114 3 (((10 * (M 114 3)) + c) - 48)) 114 4 = 1 from by first | (simp [mu]; done) | (simp only [mu]; repeat (first | rw [if_pos (⟨rfl, rfl⟩)] | rw [if_neg (by omega)]))] at hc112
                obtain ⟨hr112, hm112⟩ := hc112
                subst r112
                subst M112
                have hrr := rch_rng hG0 (c := c) (by omega) (by omega) (by omega)
                refine g_teq (b := rchS (lwN M) (lwV M c)) (by unfold lwN lwV; first | (exfalso; omega) | rw [if_pos (by omega), if_pos (by omega)] | rw [if_neg (by omega), if_neg (by omega)]) ?_
                refine g_iload_n X dX10_goLaw_115 rfl rfl ?_
                refine g_icmp_le (tgt := 123) X dX10_goLaw_116 (by decide) ⟨by omega, by omega⟩ ⟨by omega, by omega⟩ (fun q116 => ?_) (fun q116 => ?_)
                · refine g_iconst X dX10_goLaw_123 ?_
                  refine g_istore_n_3 X dX10_goLaw_124 rfl rfl (fun v3_124 ev3_124 => ?_)
                  subst v3_124
                  refine g_aload_n X dX10_goLaw_125 rfl rfl ?_
                  refine g_iconst X dX10_goLaw_126 ?_
                  refine g_puti (kz := 2) X kd_114 fc9 (k := 2) (by decide) rfl wd_829 rfl rfl rfl dX10_goLaw_127 ?_
                  refine g_iload_n X dX10_goLaw_130 rfl rfl ?_
                  rw [hQ]
                  refine g_zret X hr hlk (by decide) dX10_goLaw_131 ?_
                  first | (exfalso; omega) | exact ⟨by first | exact b2i_1 (by unfold lwOk okA; omega) | exact b2i_0 (by unfold lwOk okA; omega), by unfold lwM lwA lwN lwV; rw [if_pos (by omega)]; first | rw [if_pos (by omega), if_pos (by omega)] | rw [if_neg (by omega), if_neg (by omega)]⟩
                · refine g_iconst X dX10_goLaw_119 ?_
                  refine g_goto (tgt := 124) X dX10_goLaw_120 (by decide) ?_
                  refine g_istore_n_3 X dX10_goLaw_124 rfl rfl (fun v3_124 ev3_124 => ?_)
                  subst v3_124
                  refine g_aload_n X dX10_goLaw_125 rfl rfl ?_
                  refine g_iconst X dX10_goLaw_126 ?_
                  refine g_puti (kz := 2) X kd_114 fc9 (k := 2) (by decide) rfl wd_829 rfl rfl rfl dX10_goLaw_127 ?_
                  refine g_iload_n X dX10_goLaw_130 rfl rfl ?_
                  rw [hQ]
                  refine g_zret X hr hlk (by decide) dX10_goLaw_131 ?_
                  first | (exfalso; omega) | exact ⟨by first | exact b2i_1 (by unfold lwOk okA; omega) | exact b2i_0 (by unfold lwOk okA; omega), by unfold lwM lwA lwN lwV; rw [if_pos (by omega)]; first | rw [if_pos (by omega), if_pos (by omega)] | rw [if_neg (by omega), if_neg (by omega)]⟩
            · refine g_iload_n X dX10_goLaw_97 rfl rfl ?_
              refine g_bipush X dX10_goLaw_98 (by decide +kernel) ?_
              refine g_icmp_eq (tgt := 123) X dX10_goLaw_100 (by decide) ⟨by omega, by omega⟩ (by decide) (fun q100 => ?_) (fun q100 => ?_)
              · refine g_iconst X dX10_goLaw_123 ?_
                refine g_istore_n_3 X dX10_goLaw_124 rfl rfl (fun v3_124 ev3_124 => ?_)
                subst v3_124
                refine g_aload_n X dX10_goLaw_125 rfl rfl ?_
                refine g_iconst X dX10_goLaw_126 ?_
                refine g_puti (kz := 2) X kd_114 fc9 (k := 2) (by decide) rfl wd_829 rfl rfl rfl dX10_goLaw_127 ?_
                refine g_iload_n X dX10_goLaw_130 rfl rfl ?_
                rw [hQ]
                refine g_zret X hr hlk (by decide) dX10_goLaw_131 ?_
                first | (exfalso; omega) | exact ⟨by first | exact b2i_1 (by unfold lwOk okA; omega) | exact b2i_0 (by unfold lwOk okA; omega), by unfold lwM lwA lwN lwV; rw [if_pos (by omega)]; first | rw [if_pos (by omega), if_pos (by omega)] | rw [if_neg (by omega), if_neg (by omega)]⟩
              · refine g_aload_n X dX10_goLaw_103 rfl rfl ?_
                refine g_geti (kz := 4) X kd_114 fc9 (k := 4) (by decide) rfl wd_831 rfl dX10_goLaw_104 ?_
                refine g_teq (b := 1) (by first | (simp [mu]; done) | (simp only [mu]; repeat (first | rw [if_pos (⟨rfl, rfl⟩)] | rw [if_neg (by omega)]))) ?_
                refine g_iconst X dX10_goLaw_107 ?_
                refine g_icmp_ge (tgt := 123) X dX10_goLaw_108 (by decide) ⟨by omega, by omega⟩ (by decide) (fun q108 => ?_) (fun q108 => ?_)
                · refine g_iconst X dX10_goLaw_123 ?_
                  refine g_istore_n_3 X dX10_goLaw_124 rfl rfl (fun v3_124 ev3_124 => ?_)
                  subst v3_124
                  refine g_aload_n X dX10_goLaw_125 rfl rfl ?_
                  refine g_iconst X dX10_goLaw_126 ?_
                  refine g_puti (kz := 2) X kd_114 fc9 (k := 2) (by decide) rfl wd_829 rfl rfl rfl dX10_goLaw_127 ?_
                  refine g_iload_n X dX10_goLaw_130 rfl rfl ?_
                  rw [hQ]
                  refine g_zret X hr hlk (by decide) dX10_goLaw_131 ?_
                  first | (exfalso; omega) | exact ⟨by first | exact b2i_1 (by unfold lwOk okA; omega) | exact b2i_0 (by unfold lwOk okA; omega), by unfold lwM lwA lwN lwV; rw [if_pos (by omega)]; first | rw [if_pos (by omega), if_pos (by omega)] | rw [if_neg (by omega), if_neg (by omega)]⟩
                · refine g_aload_n X dX10_goLaw_111 rfl rfl ?_
                  refine g_callVI X (c_X10_reach lL tT dD al _  (by simp [mu]; try omega)) kd_114 fc9 lk_RX10_141 rfl rfl ⟨by decide, by decide⟩ rfl (Nat.le_of_ble_eq_true rfl) dX10_goLaw_112 (fun r112 M112 hc112 => ?_)
                  rw [show (mu (mu M 114 4 1) 114 3 (((10 * (M 114 3)) + c) - 48)) 114 3 = (((10 * (M 114 3)) + c) - 48) from by first | (simp [mu]; done) | (simp only [mu]; repeat (first | rw [if_pos (⟨rfl, rfl⟩)] | rw [if_neg (by omega)]))] at hc112
                  rw [show (mu (mu M 114 4 1) 114 3 (((10 * (M 114 3)) + c) - 48)) 114 4 = 1 from by first | (simp [mu]; done) | (simp only [mu]; repeat (first | rw [if_pos (⟨rfl, rfl⟩)] | rw [if_neg (by omega)]))] at hc112
                  obtain ⟨hr112, hm112⟩ := hc112
                  subst r112
                  subst M112
                  have hrr := rch_rng hG0 (c := c) (by omega) (by omega) (by omega)
                  refine g_teq (b := rchS (lwN M) (lwV M c)) (by unfold lwN lwV; first | (exfalso; omega) | rw [if_pos (by omega), if_pos (by omega)] | rw [if_neg (by omega), if_neg (by omega)]) ?_
                  refine g_iload_n X dX10_goLaw_115 rfl rfl ?_
                  refine g_icmp_le (tgt := 123) X dX10_goLaw_116 (by decide) ⟨by omega, by omega⟩ ⟨by omega, by omega⟩ (fun q116 => ?_) (fun q116 => ?_)
                  · refine g_iconst X dX10_goLaw_123 ?_
                    refine g_istore_n_3 X dX10_goLaw_124 rfl rfl (fun v3_124 ev3_124 => ?_)
                    subst v3_124
                    refine g_aload_n X dX10_goLaw_125 rfl rfl ?_
                    refine g_iconst X dX10_goLaw_126 ?_
                    refine g_puti (kz := 2) X kd_114 fc9 (k := 2) (by decide) rfl wd_829 rfl rfl rfl dX10_goLaw_127 ?_
                    refine g_iload_n X dX10_goLaw_130 rfl rfl ?_
                    rw [hQ]
                    refine g_zret X hr hlk (by decide) dX10_goLaw_131 ?_
                    first | (exfalso; omega) | exact ⟨by first | exact b2i_1 (by unfold lwOk okA; omega) | exact b2i_0 (by unfold lwOk okA; omega), by unfold lwM lwA lwN lwV; rw [if_pos (by omega)]; first | rw [if_pos (by omega), if_pos (by omega)] | rw [if_neg (by omega), if_neg (by omega)]⟩
                  · refine g_iconst X dX10_goLaw_119 ?_
                    refine g_goto (tgt := 124) X dX10_goLaw_120 (by decide) ?_
                    refine g_istore_n_3 X dX10_goLaw_124 rfl rfl (fun v3_124 ev3_124 => ?_)
                    subst v3_124
                    refine g_aload_n X dX10_goLaw_125 rfl rfl ?_
                    refine g_iconst X dX10_goLaw_126 ?_
                    refine g_puti (kz := 2) X kd_114 fc9 (k := 2) (by decide) rfl wd_829 rfl rfl rfl dX10_goLaw_127 ?_
                    refine g_iload_n X dX10_goLaw_130 rfl rfl ?_
                    rw [hQ]
                    refine g_zret X hr hlk (by decide) dX10_goLaw_131 ?_
                    first | (exfalso; omega) | exact ⟨by first | exact b2i_1 (by unfold lwOk okA; omega) | exact b2i_0 (by unfold lwOk okA; omega), by unfold lwM lwA lwN lwV; rw [if_pos (by omega)]; first | rw [if_pos (by omega), if_pos (by omega)] | rw [if_neg (by omega), if_neg (by omega)]⟩
          · refine g_iload_n X dX10_goLaw_67 rfl rfl ?_
            refine g_bipush X dX10_goLaw_68 (by decide +kernel) ?_
            refine g_isub X dX10_goLaw_70 ?_
            refine g_goto (tgt := 86) X dX10_goLaw_71 (by decide) ?_
            refine g_puti (kz := 3) X kd_114 fc9 (k := 3) (by decide) rfl wd_830 rfl rfl rfl dX10_goLaw_86 ?_
            refine g_aload_n X dX10_goLaw_89 rfl rfl ?_
            refine g_geti (kz := 2) X kd_114 fc9 (k := 2) (by decide) rfl wd_829 rfl dX10_goLaw_90 ?_
            refine g_teq (b := (M 114 2)) (by first | (simp [mu]; done) | (simp only [mu]; repeat (first | rw [if_pos (⟨rfl, rfl⟩)] | rw [if_neg (by omega)]))) ?_
            refine g_iconst X dX10_goLaw_93 ?_
            refine g_icmp_eq (tgt := 103) X dX10_goLaw_94 (by decide) ⟨by omega, by omega⟩ (by decide) (fun q94 => ?_) (fun q94 => ?_)
            · refine g_aload_n X dX10_goLaw_103 rfl rfl ?_
              refine g_geti (kz := 4) X kd_114 fc9 (k := 4) (by decide) rfl wd_831 rfl dX10_goLaw_104 ?_
              refine g_teq (b := 1) (by first | (simp [mu]; done) | (simp only [mu]; repeat (first | rw [if_pos (⟨rfl, rfl⟩)] | rw [if_neg (by omega)]))) ?_
              refine g_iconst X dX10_goLaw_107 ?_
              refine g_icmp_ge (tgt := 123) X dX10_goLaw_108 (by decide) ⟨by omega, by omega⟩ (by decide) (fun q108 => ?_) (fun q108 => ?_)
              · refine g_iconst X dX10_goLaw_123 ?_
                refine g_istore_n_3 X dX10_goLaw_124 rfl rfl (fun v3_124 ev3_124 => ?_)
                subst v3_124
                refine g_aload_n X dX10_goLaw_125 rfl rfl ?_
                refine g_iconst X dX10_goLaw_126 ?_
                refine g_puti (kz := 2) X kd_114 fc9 (k := 2) (by decide) rfl wd_829 rfl rfl rfl dX10_goLaw_127 ?_
                refine g_iload_n X dX10_goLaw_130 rfl rfl ?_
                rw [hQ]
                refine g_zret X hr hlk (by decide) dX10_goLaw_131 ?_
                first | (exfalso; omega) | exact ⟨by first | exact b2i_1 (by unfold lwOk okA; omega) | exact b2i_0 (by unfold lwOk okA; omega), by unfold lwM lwA lwN lwV; rw [if_pos (by omega)]; first | rw [if_pos (by omega), if_pos (by omega)] | rw [if_neg (by omega), if_neg (by omega)]⟩
              · refine g_aload_n X dX10_goLaw_111 rfl rfl ?_
                refine g_callVI X (c_X10_reach lL tT dD al _  (by simp [mu]; try omega)) kd_114 fc9 lk_RX10_141 rfl rfl ⟨by decide, by decide⟩ rfl (Nat.le_of_ble_eq_true rfl) dX10_goLaw_112 (fun r112 M112 hc112 => ?_)
                rw [show (mu (mu M 114 4 1) 114 3 (c - 48)) 114 3 = (c - 48) from by first | (simp [mu]; done) | (simp only [mu]; repeat (first | rw [if_pos (⟨rfl, rfl⟩)] | rw [if_neg (by omega)]))] at hc112
                rw [show (mu (mu M 114 4 1) 114 3 (c - 48)) 114 4 = 1 from by first | (simp [mu]; done) | (simp only [mu]; repeat (first | rw [if_pos (⟨rfl, rfl⟩)] | rw [if_neg (by omega)]))] at hc112
                obtain ⟨hr112, hm112⟩ := hc112
                subst r112
                subst M112
                have hrr := rch_rng hG0 (c := c) (by omega) (by omega) (by omega)
                refine g_teq (b := rchS (lwN M) (lwV M c)) (by unfold lwN lwV; first | (exfalso; omega) | rw [if_pos (by omega), if_pos (by omega)] | rw [if_neg (by omega), if_neg (by omega)]) ?_
                refine g_iload_n X dX10_goLaw_115 rfl rfl ?_
                refine g_icmp_le (tgt := 123) X dX10_goLaw_116 (by decide) ⟨by omega, by omega⟩ ⟨by omega, by omega⟩ (fun q116 => ?_) (fun q116 => ?_)
                · refine g_iconst X dX10_goLaw_123 ?_
                  refine g_istore_n_3 X dX10_goLaw_124 rfl rfl (fun v3_124 ev3_124 => ?_)
                  subst v3_124
                  refine g_aload_n X dX10_goLaw_125 rfl rfl ?_
                  refine g_iconst X dX10_goLaw_126 ?_
                  refine g_puti (kz := 2) X kd_114 fc9 (k := 2) (by decide) rfl wd_829 rfl rfl rfl dX10_goLaw_127 ?_
                  refine g_iload_n X dX10_goLaw_130 rfl rfl ?_
                  rw [hQ]
                  refine g_zret X hr hlk (by decide) dX10_goLaw_131 ?_
                  first | (exfalso; omega) | exact ⟨by first | exact b2i_1 (by unfold lwOk okA; omega) | exact b2i_0 (by unfold lwOk okA; omega), by unfold lwM lwA lwN lwV; rw [if_pos (by omega)]; first | rw [if_pos (by omega), if_pos (by omega)] | rw [if_neg (by omega), if_neg (by omega)]⟩
                · refine g_iconst X dX10_goLaw_119 ?_
                  refine g_goto (tgt := 124) X dX10_goLaw_120 (by decide) ?_
                  refine g_istore_n_3 X dX10_goLaw_124 rfl rfl (fun v3_124 ev3_124 => ?_)
                  subst v3_124
                  refine g_aload_n X dX10_goLaw_125 rfl rfl ?_
                  refine g_iconst X dX10_goLaw_126 ?_
                  refine g_puti (kz := 2) X kd_114 fc9 (k := 2) (by decide) rfl wd_829 rfl rfl rfl dX10_goLaw_127 ?_
                  refine g_iload_n X dX10_goLaw_130 rfl rfl ?_
                  rw [hQ]
                  refine g_zret X hr hlk (by decide) dX10_goLaw_131 ?_
                  first | (exfalso; omega) | exact ⟨by first | exact b2i_1 (by unfold lwOk okA; omega) | exact b2i_0 (by unfold lwOk okA; omega), by unfold lwM lwA lwN lwV; rw [if_pos (by omega)]; first | rw [if_pos (by omega), if_pos (by omega)] | rw [if_neg (by omega), if_neg (by omega)]⟩
            · refine g_iload_n X dX10_goLaw_97 rfl rfl ?_
              refine g_bipush X dX10_goLaw_98 (by decide +kernel) ?_
              refine g_icmp_eq (tgt := 123) X dX10_goLaw_100 (by decide) ⟨by omega, by omega⟩ (by decide) (fun q100 => ?_) (fun q100 => ?_)
              · refine g_iconst X dX10_goLaw_123 ?_
                refine g_istore_n_3 X dX10_goLaw_124 rfl rfl (fun v3_124 ev3_124 => ?_)
                subst v3_124
                refine g_aload_n X dX10_goLaw_125 rfl rfl ?_
                refine g_iconst X dX10_goLaw_126 ?_
                refine g_puti (kz := 2) X kd_114 fc9 (k := 2) (by decide) rfl wd_829 rfl rfl rfl dX10_goLaw_127 ?_
                refine g_iload_n X dX10_goLaw_130 rfl rfl ?_
                rw [hQ]
                refine g_zret X hr hlk (by decide) dX10_goLaw_131 ?_
                first | (exfalso; omega) | exact ⟨by first | exact b2i_1 (by unfold lwOk okA; omega) | exact b2i_0 (by unfold lwOk okA; omega), by unfold lwM lwA lwN lwV; rw [if_pos (by omega)]; first | rw [if_pos (by omega), if_pos (by omega)] | rw [if_neg (by omega), if_neg (by omega)]⟩
              · refine g_aload_n X dX10_goLaw_103 rfl rfl ?_
                refine g_geti (kz := 4) X kd_114 fc9 (k := 4) (by decide) rfl wd_831 rfl dX10_goLaw_104 ?_
                refine g_teq (b := 1) (by first | (simp [mu]; done) | (simp only [mu]; repeat (first | rw [if_pos (⟨rfl, rfl⟩)] | rw [if_neg (by omega)]))) ?_
                refine g_iconst X dX10_goLaw_107 ?_
                refine g_icmp_ge (tgt := 123) X dX10_goLaw_108 (by decide) ⟨by omega, by omega⟩ (by decide) (fun q108 => ?_) (fun q108 => ?_)
                · refine g_iconst X dX10_goLaw_123 ?_
                  refine g_istore_n_3 X dX10_goLaw_124 rfl rfl (fun v3_124 ev3_124 => ?_)
                  subst v3_124
                  refine g_aload_n X dX10_goLaw_125 rfl rfl ?_
                  refine g_iconst X dX10_goLaw_126 ?_
                  refine g_puti (kz := 2) X kd_114 fc9 (k := 2) (by decide) rfl wd_829 rfl rfl rfl dX10_goLaw_127 ?_
                  refine g_iload_n X dX10_goLaw_130 rfl rfl ?_
                  rw [hQ]
                  refine g_zret X hr hlk (by decide) dX10_goLaw_131 ?_
                  first | (exfalso; omega) | exact ⟨by first | exact b2i_1 (by unfold lwOk okA; omega) | exact b2i_0 (by unfold lwOk okA; omega), by unfold lwM lwA lwN lwV; rw [if_pos (by omega)]; first | rw [if_pos (by omega), if_pos (by omega)] | rw [if_neg (by omega), if_neg (by omega)]⟩
                · refine g_aload_n X dX10_goLaw_111 rfl rfl ?_
                  refine g_callVI X (c_X10_reach lL tT dD al _  (by simp [mu]; try omega)) kd_114 fc9 lk_RX10_141 rfl rfl ⟨by decide, by decide⟩ rfl (Nat.le_of_ble_eq_true rfl) dX10_goLaw_112 (fun r112 M112 hc112 => ?_)
                  rw [show (mu (mu M 114 4 1) 114 3 (c - 48)) 114 3 = (c - 48) from by first | (simp [mu]; done) | (simp only [mu]; repeat (first | rw [if_pos (⟨rfl, rfl⟩)] | rw [if_neg (by omega)]))] at hc112
                  rw [show (mu (mu M 114 4 1) 114 3 (c - 48)) 114 4 = 1 from by first | (simp [mu]; done) | (simp only [mu]; repeat (first | rw [if_pos (⟨rfl, rfl⟩)] | rw [if_neg (by omega)]))] at hc112
                  obtain ⟨hr112, hm112⟩ := hc112
                  subst r112
                  subst M112
                  have hrr := rch_rng hG0 (c := c) (by omega) (by omega) (by omega)
                  refine g_teq (b := rchS (lwN M) (lwV M c)) (by unfold lwN lwV; first | (exfalso; omega) | rw [if_pos (by omega), if_pos (by omega)] | rw [if_neg (by omega), if_neg (by omega)]) ?_
                  refine g_iload_n X dX10_goLaw_115 rfl rfl ?_
                  refine g_icmp_le (tgt := 123) X dX10_goLaw_116 (by decide) ⟨by omega, by omega⟩ ⟨by omega, by omega⟩ (fun q116 => ?_) (fun q116 => ?_)
                  · refine g_iconst X dX10_goLaw_123 ?_
                    refine g_istore_n_3 X dX10_goLaw_124 rfl rfl (fun v3_124 ev3_124 => ?_)
                    subst v3_124
                    refine g_aload_n X dX10_goLaw_125 rfl rfl ?_
                    refine g_iconst X dX10_goLaw_126 ?_
                    refine g_puti (kz := 2) X kd_114 fc9 (k := 2) (by decide) rfl wd_829 rfl rfl rfl dX10_goLaw_127 ?_
                    refine g_iload_n X dX10_goLaw_130 rfl rfl ?_
                    rw [hQ]
                    refine g_zret X hr hlk (by decide) dX10_goLaw_131 ?_
                    first | (exfalso; omega) | exact ⟨by first | exact b2i_1 (by unfold lwOk okA; omega) | exact b2i_0 (by unfold lwOk okA; omega), by unfold lwM lwA lwN lwV; rw [if_pos (by omega)]; first | rw [if_pos (by omega), if_pos (by omega)] | rw [if_neg (by omega), if_neg (by omega)]⟩
                  · refine g_iconst X dX10_goLaw_119 ?_
                    refine g_goto (tgt := 124) X dX10_goLaw_120 (by decide) ?_
                    refine g_istore_n_3 X dX10_goLaw_124 rfl rfl (fun v3_124 ev3_124 => ?_)
                    subst v3_124
                    refine g_aload_n X dX10_goLaw_125 rfl rfl ?_
                    refine g_iconst X dX10_goLaw_126 ?_
                    refine g_puti (kz := 2) X kd_114 fc9 (k := 2) (by decide) rfl wd_829 rfl rfl rfl dX10_goLaw_127 ?_
                    refine g_iload_n X dX10_goLaw_130 rfl rfl ?_
                    rw [hQ]
                    refine g_zret X hr hlk (by decide) dX10_goLaw_131 ?_
                    first | (exfalso; omega) | exact ⟨by first | exact b2i_1 (by unfold lwOk okA; omega) | exact b2i_0 (by unfold lwOk okA; omega), by unfold lwM lwA lwN lwV; rw [if_pos (by omega)]; first | rw [if_pos (by omega), if_pos (by omega)] | rw [if_neg (by omega), if_neg (by omega)]⟩
  refine g_aload_n X dX10_goLaw_0 rfl rfl ?_
  refine g_geti (kz := 7) X kd_114 fc9 (k := 7) (by decide) rfl wd_834 rfl dX10_goLaw_1 ?_
  refine g_if_ne (tgt := 11) X dX10_goLaw_4 (by decide) ⟨by omega, by omega⟩ (fun q4 => ?_) (fun q4 => ?_)
  · refine g_aload_n X dX10_goLaw_11 rfl rfl ?_
    refine g_getr (r := 118) X kd_114 fc9 (k := 12) (by decide) rfl wd_839 rfl (by decide) dX10_goLaw_12 ?_
    refine g_aload_n X dX10_goLaw_15 rfl rfl ?_
    refine g_geti (kz := 7) X kd_114 fc9 (k := 7) (by decide) rfl wd_834 rfl dX10_goLaw_16 ?_
    refine g_iconst X dX10_goLaw_19 ?_
    refine g_isub X dX10_goLaw_20 ?_
    refine g_iald X kd_118 (by omega) (by omega) dX10_goLaw_21 ?_
    refine g_istore_n_2 X dX10_goLaw_22 rfl rfl (fun v2_22 ev2_22 => ?_)
    subst v2_22
    exact g_sub (J_23_586 _ (by unfold lwB; first | rw [if_pos (by omega)] | rw [if_neg (by omega)])) (by simp only [lsub, and_self, and_true, true_and])
  · refine g_iconst X dX10_goLaw_7 ?_
    refine g_goto (tgt := 22) X dX10_goLaw_8 (by decide) ?_
    refine g_istore_n_2 X dX10_goLaw_22 rfl rfl (fun v2_22 ev2_22 => ?_)
    subst v2_22
    exact g_sub (J_23_586 _ (by unfold lwB; first | rw [if_pos (by omega)] | rw [if_neg (by omega)])) (by simp only [lsub, and_self, and_true, true_and])
