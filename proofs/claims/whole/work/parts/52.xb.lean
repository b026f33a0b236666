set_option maxRecDepth 100000 in
set_option maxHeartbeats 4000000 in
theorem c_X1_takeColour (lL : Launch) (tT : TT) (dD : va_G) (al : Int → Nat) (M : Mem) (c : Int) (hc : i32 c) (hb : ∀ i, 0 ≤ i → i < 3 → i32 (M 5 i)) : CI lL yX1_takeColour cX1_takeColour 3 FieldType.boolean 1 20 tT dD al [.ref (al 3), .int (iN c)] M (fun r M' => r = b2i (xlF M c) ∧ (xlF M c → M' = xlC M c) ∧ (¬ xlF M c → M' = M)) := by
  refine CI.of (own := "RedSkies$LampReader") (ls0 := [some (.ref (al 3)), some (.int (iN c)), none]) (by decide +kernel) rfl (Nat.le_of_ble_eq_true rfl) rfl ?_
  intro pP eE sS mI aA bB mM cC X hr hlk
  obtain ⟨Q, hQ⟩ : ∃ Q : State → Prop, Q = MQ bB (QI tT dD al (fun r M' => r = b2i (xlF M c) ∧ (xlF M c → M' = xlC M c) ∧ (¬ xlF M c → M' = M))) aA sS 0 0 (fA al) := ⟨_, rfl⟩
  rw [← hQ]
  have hcs := colS_rng c
  refine g_iload_n X dX1_takeColour_0 rfl rfl ?_
  refine g_callTI X (c_X7_colourOf lL tT dD al _ _ (by first | assumption | omega)) lk_RX1_41 rfl rfl ⟨by decide, by decide⟩ rfl (Nat.le_of_ble_eq_true rfl) dX1_takeColour_1 (fun r1 M1 hc1 => ?_)
  obtain ⟨hr1, hm1⟩ := hc1
  subst r1
  subst M1
  refine g_istore_n_2 X dX1_takeColour_4 rfl rfl (fun v2_4 ev2_4 => ?_)
  subst v2_4
  refine g_iload_n X dX1_takeColour_5 rfl rfl ?_
  refine g_iconst X dX1_takeColour_6 ?_
  refine g_icmp_eq (tgt := 19) X dX1_takeColour_7 (by decide) ⟨by omega, by omega⟩ (by decide) (fun q7 => ?_) (fun q7 => ?_)
  · refine g_iconst X dX1_takeColour_19 ?_
    rw [hQ]
    refine g_zret X hr hlk (by decide) dX1_takeColour_20 ?_
    have n : ¬ xlF M c := fun f => by have f1 := f.1; have f2 := f.2; omega
    exact ⟨b2i_0 n, fun f => absurd f n, fun _ => rfl⟩
  · refine g_aload_n X dX1_takeColour_10 rfl rfl ?_
    refine g_getr (r := 5) X kd_3 fc1 (k := 1) (by decide) rfl wd_117 rfl (by decide) dX1_takeColour_11 ?_
    refine g_iload_n X dX1_takeColour_14 rfl rfl ?_
    refine g_zald X kd_5 (by omega) (by omega) dX1_takeColour_15 ?_
    have hb2 := hb (colS c) (by omega) (by omega)
    refine g_if_eq (tgt := 21) X dX1_takeColour_16 (by decide) hb2 (fun q16 => ?_) (fun q16 => ?_)
    · refine g_aload_n X dX1_takeColour_21 rfl rfl ?_
      refine g_iload_n X dX1_takeColour_22 rfl rfl ?_
      refine g_puti (kz := 3) X kd_3 fc1 (k := 3) (by decide) rfl wd_119 rfl rfl rfl dX1_takeColour_23 ?_
      refine g_aload_n X dX1_takeColour_26 rfl rfl ?_
      refine g_getr (r := 5) X kd_3 fc1 (k := 1) (by decide) rfl wd_117 rfl (by decide) dX1_takeColour_27 ?_
      refine g_iload_n X dX1_takeColour_30 rfl rfl ?_
      refine g_iconst X dX1_takeColour_31 ?_
      refine g_zast X kd_5 (by omega) (by omega) (by decide) dX1_takeColour_32 ?_
      refine g_aload_n X dX1_takeColour_33 rfl rfl ?_
      refine g_iconst X dX1_takeColour_34 ?_
      refine g_puti (kz := 2) X kd_3 fc1 (k := 2) (by decide) rfl wd_118 rfl rfl rfl dX1_takeColour_35 ?_
      refine g_iconst X dX1_takeColour_38 ?_
      rw [hQ]
      refine g_zret X hr hlk (by decide) dX1_takeColour_39 ?_
      have n : xlF M c := ⟨by omega, by omega⟩
      exact ⟨b2i_1 n, fun _ => rfl, fun f => absurd n f⟩
    · refine g_iconst X dX1_takeColour_19 ?_
      rw [hQ]
      refine g_zret X hr hlk (by decide) dX1_takeColour_20 ?_
      have n : ¬ xlF M c := fun f => by have f1 := f.1; have f2 := f.2; omega
      exact ⟨b2i_0 n, fun f => absurd f n, fun _ => rfl⟩
set_option maxRecDepth 100000 in
set_option maxHeartbeats 4000000 in
theorem c_X1_takeBehindDigit (lL : Launch) (tT : TT) (dD : va_G) (al : Int → Nat) (M : Mem) (c : Int) (P : Mem) (hS : SL M P) (hG : GL P) (hc : 1 ≤ c ∧ c ≤ 126) (hp : M 3 2 = 3) : CI lL yX1_takeBehindDigit cX1_takeBehindDigit 3 FieldType.boolean 2 42 tT dD al [.ref (al 3), .int (iN c)] M (fun r M' => r = b2i (glOk P c) ∧ XR M M' ∧ (glOk P c → SL M' (glM P c))) := by
  refine CI.of (own := "RedSkies$LampReader") (ls0 := [some (.ref (al 3)), some (.int (iN c)), none]) (by decide +kernel) rfl (Nat.le_of_ble_eq_true rfl) rfl ?_
  intro pP eE sS mI aA bB mM cC X hr hlk
  obtain ⟨Q, hQ⟩ : ∃ Q : State → Prop, Q = MQ bB (QI tT dD al (fun r M' => r = b2i (glOk P c) ∧ XR M M' ∧ (glOk P c → SL M' (glM P c)))) aA sS 0 0 (fA al) := ⟨_, rfl⟩
  rw [← hQ]
  have h4 := hS.2.2.2.1 hp
  have h2 := hS.2.1 (by omega)
  have hdr := dgS_rng c
  have hdd : dgS c = (if 48 ≤ c ∧ c ≤ 57 then c - 48 else -1) := rfl
  refine g_iload_n X dX1_takeBehindDigit_0 rfl rfl ?_
  refine g_callTI X (c_X7_digitOf lL tT dD al _ _ ⟨by omega, by omega⟩) lk_RX1_30 rfl rfl ⟨by decide, by decide⟩ rfl (Nat.le_of_ble_eq_true rfl) dX1_takeBehindDigit_1 (fun r1 M1 hc1 => ?_)
  obtain ⟨hr1, hm1⟩ := hc1
  subst r1
  subst M1
  refine g_istore_n_2 X dX1_takeBehindDigit_4 rfl rfl (fun v2_4 ev2_4 => ?_)
  subst v2_4
  refine g_iload_n X dX1_takeBehindDigit_5 rfl rfl ?_
  refine g_iconst X dX1_takeBehindDigit_6 ?_
  refine g_icmp_ne (tgt := 16) X dX1_takeBehindDigit_7 (by decide) ⟨by omega, by omega⟩ (by decide) (fun q7 => ?_) (fun q7 => ?_)
  · have hdc := dgS_i (c := c) q7
    refine g_aload_n X dX1_takeBehindDigit_16 rfl rfl ?_
    refine g_geti (kz := 5) X kd_3 fc1 (k := 5) (by decide) rfl wd_121 rfl dX1_takeBehindDigit_17 ?_
    refine g_if_eq (tgt := 39) X dX1_takeBehindDigit_20 (by decide) ⟨by omega, by omega⟩ (fun q20 => ?_) (fun q20 => ?_)
    · refine g_iconst X dX1_takeBehindDigit_39 ?_
      rw [hQ]
      refine g_zret X hr hlk (by decide) dX1_takeBehindDigit_40 ?_
      first | exact tk_b0 hS hp hdc q20 | exact (tk_b hS hp hdc q20 hc29).1 q32 | exact (tk_b hS hp hdc q20 hc29).2 q32
    · refine g_aload_n X dX1_takeBehindDigit_23 rfl rfl ?_
      refine g_aload_n X dX1_takeBehindDigit_24 rfl rfl ?_
      refine g_geti (kz := 5) X kd_3 fc1 (k := 5) (by decide) rfl wd_121 rfl dX1_takeBehindDigit_25 ?_
      refine g_iload_n X dX1_takeBehindDigit_28 rfl rfl ?_
      refine g_callVI X (c_X1_takeDigit lL tT dD al _ _ _ (by omega) (by omega) (fun _ => by omega)) kd_3 fc1 lk_RX1_34 rfl rfl ⟨by decide, by decide⟩ rfl (Nat.le_of_ble_eq_true rfl) dX1_takeBehindDigit_29 (fun r29 M29 hc29 => ?_)
      obtain ⟨hr29, hc29⟩ := hc29
      subst r29
      refine g_if_eq (tgt := 39) X dX1_takeBehindDigit_32 (by decide) (b2i_i32 _) (fun q32 => ?_) (fun q32 => ?_)
      · have q32 := b2i_f q32
        refine g_iconst X dX1_takeBehindDigit_39 ?_
        rw [hQ]
        refine g_zret X hr hlk (by decide) dX1_takeBehindDigit_40 ?_
        first | exact tk_b0 hS hp hdc q20 | exact (tk_b hS hp hdc q20 hc29).1 q32 | exact (tk_b hS hp hdc q20 hc29).2 q32
      · have q32 := b2i_t q32
        refine g_iconst X dX1_takeBehindDigit_35 ?_
        refine g_goto (tgt := 40) X dX1_takeBehindDigit_36 (by decide) ?_
        rw [hQ]
        refine g_zret X hr hlk (by decide) dX1_takeBehindDigit_40 ?_
        first | exact tk_b0 hS hp hdc q20 | exact (tk_b hS hp hdc q20 hc29).1 q32 | exact (tk_b hS hp hdc q20 hc29).2 q32
  · have hdc : ¬ (48 ≤ c ∧ c ≤ 57) := fun z => by rw [if_pos z] at q7; omega
    refine g_aload_n X dX1_takeBehindDigit_10 rfl rfl ?_
    refine g_iload_n X dX1_takeBehindDigit_11 rfl rfl ?_
    refine g_callVI X (c_X1_takeColour lL tT dD al _ _ ⟨by omega, by omega⟩ (fun i a b => by rw [hS.2.2.2.2.1 i a b]; have := bit_01 (P 114 10) i; omega)) kd_3 fc1 lk_RX1_23 rfl rfl ⟨by decide, by decide⟩ rfl (Nat.le_of_ble_eq_true rfl) dX1_takeBehindDigit_12 (fun r12 M12 hc12 => ?_)
    obtain ⟨hr12, hc12⟩ := hc12
    subst r12
    rw [hQ]
    refine g_zret X hr hlk (b2i_01 _) dX1_takeBehindDigit_15 ?_
    exact tk_col hS hG (Or.inr ⟨hp, hdc⟩) hc12
set_option maxRecDepth 100000 in
set_option maxHeartbeats 4000000 in
theorem c_X1_take (lL : Launch) (tT : TT) (dD : va_G) (al : Int → Nat) (M : Mem) (c : Int) (P : Mem) (hS : SL M P) (hG : GL P) (hc : 1 ≤ c ∧ c ≤ 126) : CI lL yX1_take cX1_take 2 FieldType.boolean 3 64 tT dD al [.ref (al 3), .int (iN c)] M (fun r M' => r = b2i (glOk P c) ∧ XR M M' ∧ (glOk P c → SL M' (glM P c))) := by
  refine CI.of (own := "RedSkies$LampReader") (ls0 := [some (.ref (al 3)), some (.int (iN c))]) (by decide +kernel) rfl (Nat.le_of_ble_eq_true rfl) rfl ?_
  intro pP eE sS mI aA bB mM cC X hr hlk
  obtain ⟨Q, hQ⟩ : ∃ Q : State → Prop, Q = MQ bB (QI tT dD al (fun r M' => r = b2i (glOk P c) ∧ XR M M' ∧ (glOk P c → SL M' (glM P c)))) aA sS 0 0 (fA al) := ⟨_, rfl⟩
  rw [← hQ]
  have hd := sl_dead hS
  have hdr := dgS_rng c
  have hdd : dgS c = (if 48 ≤ c ∧ c ≤ 57 then c - 48 else -1) := rfl
  refine g_aload_n X dX1_take_0 rfl rfl ?_
  refine g_geti (kz := 2) X kd_3 fc1 (k := 2) (by decide) rfl wd_118 rfl dX1_take_1 ?_
  rcases (by omega : ((M 3 2) < 0 ∨ 2 < (M 3 2)) ∨ (M 3 2) = 0 ∨ (M 3 2) = 1 ∨ (M 3 2) = 2) with q4 | q4 | q4 | q4
  · refine g_tsOut (tgt := 54) X dX1_take_4 ⟨by omega, by omega⟩ q4 (by decide) ?_
    refine g_aload_n X dX1_take_54 rfl rfl ?_
    refine g_iload_n X dX1_take_55 rfl rfl ?_
    refine g_callVI X (c_X1_takeBehindDigit lL tT dD al _ _ _ hS hG hc (by omega)) kd_3 fc1 lk_RX1_38 rfl rfl ⟨by decide, by decide⟩ rfl (Nat.le_of_ble_eq_true rfl) dX1_take_56 (fun r56 M56 hc56 => ?_)
    obtain ⟨hr56, hc56⟩ := hc56
    subst r56
    rw [hQ]
    refine g_zret X hr hlk (b2i_01 _) dX1_take_59 ?_
    exact ⟨rfl, hc56⟩
  · refine g_tsIn (tgt := 32) (off := 28) X dX1_take_4 ⟨by omega, by omega⟩ (by omega) (by omega) (by rw [q4]; rfl) (by decide) ?_
    refine g_aload_n X dX1_take_32 rfl rfl ?_
    refine g_iload_n X dX1_take_33 rfl rfl ?_
    refine g_callVI X (c_X1_takeColour lL tT dD al _ _ ⟨by omega, by omega⟩ (fun i a b => by rw [hS.2.2.2.2.1 i a b]; have := bit_01 (P 114 10) i; omega)) kd_3 fc1 lk_RX1_23 rfl rfl ⟨by decide, by decide⟩ rfl (Nat.le_of_ble_eq_true rfl) dX1_take_34 (fun r34 M34 hc34 => ?_)
    obtain ⟨hr34, hc34⟩ := hc34
    subst r34
    rw [hQ]
    refine g_zret X hr hlk (b2i_01 _) dX1_take_37 ?_
    exact tk_col hS hG (Or.inl q4) hc34
  · refine g_tsIn (tgt := 38) (off := 34) X dX1_take_4 ⟨by omega, by omega⟩ (by omega) (by omega) (by rw [q4]; rfl) (by decide) ?_
    refine g_aload_n X dX1_take_38 rfl rfl ?_
    refine g_iload_n X dX1_take_39 rfl rfl ?_
    refine g_callVI X (c_X1_takeSign lL tT dD al _ _ ⟨by omega, by omega⟩) kd_3 fc1 lk_RX1_27 rfl rfl ⟨by decide, by decide⟩ rfl (Nat.le_of_ble_eq_true rfl) dX1_take_40 (fun r40 M40 hc40 => ?_)
    obtain ⟨hr40, hc40⟩ := hc40
    subst r40
    rw [hQ]
    refine g_zret X hr hlk (b2i_01 _) dX1_take_43 ?_
    exact tk_sign hS q4 hc40
  · refine g_tsIn (tgt := 44) (off := 40) X dX1_take_4 ⟨by omega, by omega⟩ (by omega) (by omega) (by rw [q4]; rfl) (by decide) ?_
    refine g_aload_n X dX1_take_44 rfl rfl ?_
    refine g_iconst X dX1_take_45 ?_
    refine g_iload_n X dX1_take_46 rfl rfl ?_
    refine g_callTI X (c_X7_digitOf lL tT dD al _ _ ⟨by omega, by omega⟩) lk_RX1_30 rfl rfl ⟨by decide, by decide⟩ rfl (Nat.le_of_ble_eq_true rfl) dX1_take_47 (fun r47 M47 hc47 => ?_)
    obtain ⟨hr47, hm47⟩ := hc47
    subst r47
    subst M47
    refine g_callVI X (c_X1_takeDigit lL tT dD al _ _ _ (by omega) (by omega) (fun _ => (hS.2.1 (by omega)).2)) kd_3 fc1 lk_RX1_34 rfl rfl ⟨by decide, by decide⟩ rfl (Nat.le_of_ble_eq_true rfl) dX1_take_50 (fun r50 M50 hc50 => ?_)
    obtain ⟨hr50, hc50⟩ := hc50
    subst r50
    rw [hQ]
    refine g_zret X hr hlk (b2i_01 _) dX1_take_53 ?_
    exact tk_dig hS q4 hc50
