/-! measure and law. -/
theorem oe_measure {M M1 : Mem} { r1 : Int} (x : IVA M)  (hc : (fun r M' => ∃ f Mx, FX 1 M f Mx ∧ measX M f Mx r M') r1 M1) : EQ M M1 := by
  obtain ⟨f, Mx, hx, hl⟩ := hc
  have hxe := hx.2.2.2.eq
  have fl := hx.1
  unfold measX at hl
  have hn := x.w.mea.1
  split at hl
  · rw [hl.2]; exact hxe
  · split at hl
    · rw [hl.2]; exact hxe
    · rw [hl.2]
      intro o ho
      funext k
      simp only [mu, cpy]
      rw [if_neg (by omega), if_neg (by omega), if_neg (by omega), hxe o ho]
theorem op_measure {M M1 M2 : Mem} { r1 r2 : Int} (x : IVA M)  (hc : (fun r M' => ∃ f Mx, FX 1 M f Mx ∧ measX M f Mx r M') r1 M1) (hd : (fun r M' => ∃ f Mf, FR 1 M1 f Mf ∧ measP M1 f Mf r M') r2 M2) : r1 = r2 ∧ IVA M2 := by
  have qE := oe_measure x hc
  obtain ⟨f, Mx, hx, hl⟩ := hc
  obtain ⟨g, Mf, hf, hp⟩ := hd
  have hxe := hx.2.2.2.eq
  have e := hx.eqE qE hf
  subst e
  unfold measX at hl
  unfold measP at hp
  rw [qE 114 (by omega)] at hp
  have fl := hx.1
  by_cases c1 : f < M 114 1
  · rw [if_pos (Or.inl c1)] at hl hp
    have g1_ : M1 = Mx := hl.2
    have g2_ : M2 = Mf := hp.2
    refine ⟨by rw [hl.1, hp.1], ?_⟩
    rw [g2_]
    exact read_iva x (by rw [g1_]; exact hx) hf
  obtain ⟨P, hs, hP⟩ := hx.stE qE hf (by omega)
  have hs := hs.2.1 rfl
  obtain ⟨s1, s2, s3, s4, s5, s6⟩ := hs
  have p114 := hP 114 (by omega)
  rw [p114] at hp
  by_cases c2 : Mx 6 1 ≠ 2 ∨ Mx 6 2 ≠ 1
  · rw [if_pos (Or.inr c2)] at hl
    rw [if_pos (by omega)] at hp
    have g1_ : M1 = Mx := hl.2
    have g2_ : M2 = Mf := hp.2
    refine ⟨by rw [hl.1, hp.1], ?_⟩
    rw [g2_]
    exact read_iva x (by rw [g1_]; exact hx) hf
  rw [if_neg (by omega)] at hl hp
  by_cases c3 : M 114 15 = 4
  · rw [if_pos c3] at hl hp
    have g1_ : M1 = Mx := hl.2
    have g2_ : M2 = Mf := hp.2
    refine ⟨by rw [hl.1, hp.1], ?_⟩
    rw [g2_]
    exact read_iva x (by rw [g1_]; exact hx) hf
  rw [if_neg c3] at hl hp
  obtain ⟨r1e, f1⟩ := hl
  obtain ⟨r2e, f2⟩ := hp
  refine ⟨by rw [r1e, r2e], ?_⟩
  have hI := (hf.in (by rw [qE 114 (by omega)]; exact c1)).2.1 rfl
  have i1 := hI.1
  unfold GMs at i1
  have i2 := hI.2
  unfold gmR at i2
  rw [p114] at i1 i2
  have g6 : ∀ i : Int, 0 ≤ i → i < 24 → 0 ≤ Mf 117 i ∧ Mf 117 i ≤ 4 := fun i i0 i1_ => by
    have z := i2 (i / 12) (i % 12 / 3) (i % 3) (by omega) (by omega) (by omega) (by omega) (by omega) (by omega)
    rw [show 12 * (i / 12) + 3 * (i % 12 / 3) + i % 3 = i by omega] at z
    omega
  have rd := hf.rd
  unfold RD rdS at rd
  have xr : ∀ o k : Int, ¬ (3 ≤ o ∧ o ≤ 9) → Mx o k = M o k := hx.2.2.2
  obtain ⟨⟨t1, t2, t3, t4, t5⟩, ⟨a1, a2⟩, ⟨a3, a4⟩, ⟨a5, a6⟩, a7, a8, a9⟩ := x.1
  have m1 : ∀ o k : Int, ¬ (o = 0 ∧ k = 15) → ¬ (o = 1 ∧ k = 1) → ¬ (o = 18 + M 114 15 ∧ 0 ≤ k ∧ k < 24) → M1 o k = Mx o k := fun o k h1 h2 h3 => by
    rw [f1]
    show (if o = 0 ∧ k = 15 then M 114 15 + 1 else if o = 1 ∧ k = 1 then 0 else if o = 18 + M 114 15 ∧ 0 ≤ k ∧ k < 0 + 24 then Mx 7 (0 + (k - 0)) else Mx o k) = _
    rw [if_neg h1, if_neg h2, if_neg (by omega)]
  have m2 : ∀ o k : Int, ¬ (o = 114 ∧ (k = 1 ∨ k = 15)) → ¬ (o = 120 ∧ 24 * M 114 15 ≤ k ∧ k < 24 * M 114 15 + 24) → M2 o k = Mf o k := fun o k h1 h2 => by
    rw [f2]
    show (if o = 114 ∧ k = 1 then 0 else if o = 114 ∧ k = 15 then M 114 15 + 1 else if o = 120 ∧ 24 * M 114 15 ≤ k ∧ k < 24 * M 114 15 + 24 then Mf 117 (k - 24 * M 114 15) else Mf o k) = _
    rw [if_neg (by omega), if_neg (by omega), if_neg h2]
  have m15 : M2 114 15 = M 114 15 + 1 := by rw [f2]; rfl
  have m01 : M2 114 1 = 0 := by rw [f2]; rfl
  have n15 : M2 0 15 = M 114 15 + 1 := by rw [m2 _ _ (by omega) (by omega), rd _ _ (by omega), f1]; rfl
  have n11 : M2 1 1 = 0 := by rw [m2 _ _ (by omega) (by omega), rd _ _ (by omega), f1]; rfl
  have cg : ∀ o k : Int, ¬ ((116 ≤ o ∧ o ≤ 118) ∨ (o = 114 ∧ ((2 ≤ k ∧ k ≤ 8) ∨ k = 10 ∨ k = 1 ∨ k = 15)) ∨ (o = 120 ∧ 24 * M 114 15 ≤ k ∧ k < 24 * M 114 15 + 24) ∨ (o = 0 ∧ k = 15) ∨ (o = 1 ∧ k = 1) ∨ (o = 18 + M 114 15 ∧ 0 ≤ k ∧ k < 24) ∨ (3 ≤ o ∧ o ≤ 9)) → M2 o k = M o k := fun o k n => by
    rw [m2 o k (by omega) (by omega), rd o k (by omega), m1 o k (by omega) (by omega) (by omega), xr o k (by omega)]
  have nw : ∀ k : Int, 0 ≤ k → k < 24 → M2 120 (24 * M 114 15 + k) = Mf 117 k ∧ M2 (18 + M 114 15) k = Mx 7 k := fun k k0 k1 => by
    refine ⟨?_, ?_⟩
    · rw [f2]
      show (if (120 : Int) = 114 ∧ 24 * M 114 15 + k = 1 then 0 else if (120 : Int) = 114 ∧ 24 * M 114 15 + k = 15 then M 114 15 + 1 else if (120 : Int) = 120 ∧ 24 * M 114 15 ≤ 24 * M 114 15 + k ∧ 24 * M 114 15 + k < 24 * M 114 15 + 24 then Mf 117 (24 * M 114 15 + k - 24 * M 114 15) else Mf 120 (24 * M 114 15 + k)) = _
      rw [if_neg (by omega), if_neg (by omega), if_pos (by omega), show 24 * M 114 15 + k - 24 * M 114 15 = k by omega]
    · rw [m2 _ _ (by omega) (by omega), rd _ _ (by omega), f1]
      show (if 18 + M 114 15 = 0 ∧ k = 15 then M 114 15 + 1 else if 18 + M 114 15 = 1 ∧ k = 1 then 0 else if 18 + M 114 15 = 18 + M 114 15 ∧ 0 ≤ k ∧ k < 0 + 24 then Mx 7 (0 + (k - 0)) else Mx (18 + M 114 15) k) = _
      rw [if_neg (by omega), if_neg (by omega), if_pos (by omega), show 0 + (k - 0) = k by omega]
  have r : ∀ o : Int, o = 119 ∨ (121 ≤ o ∧ o ≤ 123) → M2 o = M o := fun o ho => funext fun k => cg o k (by omega)
  have ff : ∀ k : Int, (k = 13 ∨ k = 17 ∨ k = 19 ∨ k = 20) → M2 114 k = M 114 k := fun k hk => cg 114 k (by omega)
  refine ⟨⟨?_, ?_⟩, x.2.1.cg (fun o k z => cg o k (by unfold ZB at z; omega)), ⟨⟨by rw [m01]; decide, fun i a b => by rw [m01] at b; omega⟩, by rw [n11, m01], fun i a b => by rw [m01] at b; omega⟩, x.2.2.2.1.cg (fun o k z => cg o k (by unfold ZD at z; omega)), x.2.2.2.2.1.cg (fun o k z => cg o k (by unfold ZE at z; omega)), fun i a b => by rw [m2 _ _ (by omega) (by omega)]; exact hf.2.2.2 i a b⟩
  · unfold WTab
    rw [r 119 (by omega), r 121 (by omega), r 122 (by omega), r 123 (by omega), ff 13 (by omega), ff 17 (by omega), ff 19 (by omega), ff 20 (by omega), m15]
    refine ⟨t1, t2, by omega, fun i i0 i1 => ?_, t5⟩
    by_cases d : 24 * M 114 15 ≤ i ∧ i < 24 * M 114 15 + 24
    · have z := (nw (i - 24 * M 114 15) (by omega) (by omega)).1
      rw [show 24 * M 114 15 + (i - 24 * M 114 15) = i by omega] at z
      rw [z]; exact g6 _ (by omega) (by omega)
    · rw [cg _ _ (by omega)]; exact t4 i i0 i1
  · unfold IT
    rw [r 119 (by omega), r 121 (by omega), r 122 (by omega), r 123 (by omega), ff 13 (by omega), ff 17 (by omega), ff 19 (by omega), ff 20 (by omega), m15, cg 0 13 (by omega), cg 0 14 (by omega), cg 22 1 (by omega), cg 22 2 (by omega)]
    refine ⟨⟨a1, fun l c l0 l1 c0 c1 => by rw [cg _ _ (by omega)]; exact a2 l c l0 l1 c0 c1⟩, ⟨a3, fun i i0 i1 => by rw [cg _ _ (by omega), cg _ _ (by omega)]; exact a4 i i0 i1⟩, ⟨n15, fun m k m0 m1_ k0 k1 => ?_⟩, a7, a8, fun k k0 k1 => by rw [cg _ _ (by omega)]; exact a9 k k0 k1⟩
    by_cases d : m = M 114 15
    · have z := nw k k0 k1
      rw [d, z.1, z.2, s6 k k0 k1, hP 117 (by omega)]
    · rw [cg (18 + m) k (by omega), cg 120 (24 * m + k) (by omega)]; exact a6 m k m0 (by omega) k0 k1
theorem oe_law {M M1 : Mem} { r1 : Int} (x : IVA M)  (hc : (fun r M' => ∃ f Mx, FX 2 M f Mx ∧ lawX M f Mx r M') r1 M1) : EQ M M1 := by
  obtain ⟨f, Mx, hx, hl⟩ := hc
  have hxe := hx.2.2.2.eq
  have fl := hx.1
  unfold lawX at hl
  split at hl
  · rw [hl.2]; exact hxe
  · rw [hl.2]
    intro o ho
    funext k
    simp only [mu, cpy]
    rw [if_neg (by omega), if_neg (by omega), if_neg (by omega), if_neg (by omega), hxe o ho]
theorem op_law {M M1 M2 : Mem} { r1 r2 : Int} (x : IVA M)  (hc : (fun r M' => ∃ f Mx, FX 2 M f Mx ∧ lawX M f Mx r M') r1 M1) (hd : (fun r M' => ∃ f Mf, FR 2 M1 f Mf ∧ lawP M1 f Mf r M') r2 M2) : r1 = r2 ∧ IVA M2 := by
  have qE := oe_law x hc
  obtain ⟨f, Mx, hx, hl⟩ := hc
  obtain ⟨g, Mf, hf, hp⟩ := hd
  have hxe := hx.2.2.2.eq
  have e := hx.eqE qE hf
  subst e
  unfold lawX at hl
  unfold lawP at hp
  rw [qE 114 (by omega)] at hp
  have fl := hx.1
  by_cases c1 : f < M 114 1
  · rw [if_pos (Or.inl c1)] at hl hp
    have g1_ : M1 = Mx := hl.2
    have g2_ : M2 = Mf := hp.2
    refine ⟨by rw [hl.1, hp.1], ?_⟩
    rw [g2_]
    exact read_iva x (by rw [g1_]; exact hx) hf
  obtain ⟨P, hs, hP⟩ := hx.stE qE hf (by omega)
  have hs := hs.2.2 rfl
  obtain ⟨s1, s2, s3, s4, s5, s6⟩ := hs
  have p114 := hP 114 (by omega)
  have p118 := hP 118 (by omega)
  have hI := (hf.in (by rw [qE 114 (by omega)]; exact c1)).2.2 rfl
  unfold GW at hI
  rw [p114] at hI
  have hb := hf.2.2.2
  by_cases c2 : ¬ (Mx 8 4 = 1 ∧ 0 < Mx 8 3)
  · rw [if_pos (Or.inr c2)] at hl
    rw [if_pos (by rw [p114]; omega)] at hp
    have g1_ : M1 = Mx := hl.2
    have g2_ : M2 = Mf := hp.2
    refine ⟨by rw [hl.1, hp.1], ?_⟩
    rw [g2_]
    exact read_iva x (by rw [g1_]; exact hx) hf
  rw [if_neg (by omega)] at hl
  rw [if_neg (by rw [p114]; omega)] at hp
  obtain ⟨r1e, f1⟩ := hl
  obtain ⟨r2e, f2⟩ := hp
  refine ⟨by rw [r1e, r2e, p114]; exact s2.1, ?_⟩
  have rd := hf.rd
  unfold RD rdS at rd
  have xr : ∀ o k : Int, ¬ (3 ≤ o ∧ o ≤ 9) → Mx o k = M o k := hx.2.2.2
  obtain ⟨⟨t1, t2, t3, t4, t5, t6, t7, t8⟩, ⟨a1, a2⟩, ⟨a3, a4⟩, ⟨a5, a6⟩, a7, a8, a9⟩ := x.1
  have cf1 : ∀ o k : Int, M1 o k = if o = 1 ∧ k = 1 then 0 else if o = 22 ∧ k = 2 then Mx 8 2 else if o = 22 ∧ k = 1 then Mx 8 1 else if o = 23 ∧ 0 ≤ k ∧ k < 0 + 5 then Mx 9 (0 + (k - 0)) else Mx o k := fun o k => by rw [f1]; rfl
  have cf2 : ∀ o k : Int, M2 o k = if o = 114 ∧ k = 1 then 0 else if o = 114 ∧ k = 19 then Mf 114 3 else if o = 121 ∧ 0 ≤ k ∧ k < 0 + 5 then (if (118 : Int) = 114 ∧ k - 0 = 17 then Mf 114 7 else Mf 118 (k - 0)) else if o = 114 ∧ k = 17 then Mf 114 7 else Mf o k := fun o k => by rw [f2]; rfl
  have m2 : ∀ o k : Int, ¬ (o = 114 ∧ (k = 1 ∨ k = 17 ∨ k = 19)) → ¬ (o = 121 ∧ 0 ≤ k ∧ k < 5) → M2 o k = Mf o k := fun o k h1 h2 => by
    rw [cf2, if_neg (by omega), if_neg (by omega), if_neg (by omega), if_neg (by omega)]
  have m17 : M2 114 17 = P 114 7 := by rw [cf2, if_neg (by omega), if_neg (by omega), if_neg (by omega), if_pos ⟨rfl, rfl⟩, p114]
  have m19 : M2 114 19 = P 114 3 := by rw [cf2, if_neg (by omega), if_pos ⟨rfl, rfl⟩, p114]
  have m01 : M2 114 1 = 0 := by rw [cf2, if_pos ⟨rfl, rfl⟩]
  have m121 : ∀ k : Int, 0 ≤ k → k < 5 → M2 121 k = P 118 k := fun k k0 k1 => by rw [cf2, if_neg (by omega), if_neg (by omega), if_pos (by omega), if_neg (by omega), p118, show k - 0 = k by omega]
  have n22 : M2 22 1 = Mx 8 1 := by rw [m2 _ _ (by omega) (by omega), rd _ _ (by omega), cf1, if_neg (by omega), if_neg (by omega), if_pos ⟨rfl, rfl⟩]
  have n23 : M2 22 2 = Mx 8 2 := by rw [m2 _ _ (by omega) (by omega), rd _ _ (by omega), cf1, if_neg (by omega), if_pos ⟨rfl, rfl⟩]
  have n11 : M2 1 1 = 0 := by rw [m2 _ _ (by omega) (by omega), rd _ _ (by omega), cf1, if_pos ⟨rfl, rfl⟩]
  have nr : ∀ k : Int, 0 ≤ k → k < 5 → M2 23 k = Mx 9 k := fun k k0 k1 => by rw [m2 _ _ (by omega) (by omega), rd _ _ (by omega), cf1, if_neg (by omega), if_neg (by omega), if_neg (by omega), if_pos (by omega), show 0 + (k - 0) = k by omega]
  have cg : ∀ o k : Int, ¬ ((116 ≤ o ∧ o ≤ 118) ∨ (o = 114 ∧ ((2 ≤ k ∧ k ≤ 8) ∨ k = 10 ∨ k = 1 ∨ k = 17 ∨ k = 19)) ∨ (o = 121 ∧ 0 ≤ k ∧ k < 5) ∨ (o = 22 ∧ 1 ≤ k ∧ k ≤ 2) ∨ (o = 1 ∧ k = 1) ∨ o = 23 ∨ (3 ≤ o ∧ o ≤ 9)) → M2 o k = M o k := fun o k n => by
    rw [m2 o k (by omega) (by omega), rd o k (by omega), cf1, if_neg (by omega), if_neg (by omega), if_neg (by omega), if_neg (by omega), xr o k (by omega)]
  have r : ∀ o : Int, (119 ≤ o ∧ o ≤ 120) ∨ (122 ≤ o ∧ o ≤ 123) → M2 o = M o := fun o ho => funext fun k => cg o k (by omega)
  have ff : ∀ k : Int, (k = 13 ∨ k = 15 ∨ k = 20) → M2 114 k = M 114 k := fun k hk => cg 114 k (by omega)
  refine ⟨⟨?_, ?_⟩, x.2.1.cg (fun o k z => cg o k (by unfold ZB at z; omega)), ⟨⟨by rw [m01]; decide, fun i a b => by rw [m01] at b; omega⟩, by rw [n11, m01], fun i a b => by rw [m01] at b; omega⟩, x.2.2.2.1.cg (fun o k z => cg o k (by unfold ZD at z; omega)), x.2.2.2.2.1.cg (fun o k z => cg o k (by unfold ZE at z; omega)), fun i a b => by rw [m2 _ _ (by omega) (by omega)]; exact hb i a b⟩
  · unfold WTab
    rw [r 119 (by omega), r 120 (by omega), r 122 (by omega), r 123 (by omega), ff 13 (by omega), ff 15 (by omega), ff 20 (by omega), m17, m19]
    refine ⟨t1, t2, t3, t4, by omega, fun i i0 i1 => ?_, by omega, t8⟩
    rw [m121 i i0 i1, ← p118]; exact hb i i0 i1
  · unfold IT
    rw [r 119 (by omega), r 120 (by omega), r 122 (by omega), r 123 (by omega), ff 13 (by omega), ff 15 (by omega), ff 20 (by omega), m17, m19, cg 0 13 (by omega), cg 0 14 (by omega), cg 0 15 (by omega), n22, n23]
    refine ⟨⟨a1, fun l c l0 l1 c0 c1 => by rw [cg _ _ (by omega)]; exact a2 l c l0 l1 c0 c1⟩, ⟨a3, fun i i0 i1 => by rw [cg _ _ (by omega), cg _ _ (by omega)]; exact a4 i i0 i1⟩, ⟨a5, fun m k m0 m1_ k0 k1 => by rw [cg _ _ (by omega)]; exact a6 m k m0 m1_ k0 k1⟩, s2.1, by omega, fun k k0 k1 => ?_⟩
    rw [nr k k0 (by omega), m121 k k0 (by omega)]; exact s6 k k0 k1

