/-! The page read: fault, lamp, measure, law. -/
theorem FX.eqE {k : Int} {M M' M1 Mf : Mem} {r f : Int} (h : FX k M r M') (hE : EQ M M1) (h2 : FR k M1 f Mf) : r = f := by
  obtain ⟨a1, a2, a3, -⟩ := h
  obtain ⟨b1, b2, b3, -⟩ := h2
  have e1 := hE 114 (by omega)
  have e2 := hE 115 (by omega)
  rw [e1] at b1 b3
  rw [e2] at b2 b3
  have ok : ∀ j : Int, stpOk k (rdM k (rd0 M) j.toNat) (M 115 j) ↔ stpOk k (rdM k (rd0 M1) j.toNat) (M 115 j) := fun j => ((hE.rdMs k j.toNat).stp k _).1
  refine Classical.byContradiction fun n => ?_
  rcases (by omega : r < f ∨ f < r) with l | l
  · rcases a3 with q | q
    · omega
    · exact q.2 ((ok r).mpr (b2 r a1.1 l))
  · rcases b3 with q | q
    · omega
    · exact q.2.1 ((ok f).mp (a2 f b1.1 l))
theorem FX.stE {k : Int} {M M' M1 Mf : Mem} {r f : Int} (h : FX k M r M') (hE : EQ M M1) (h2 : FR k M1 f Mf) (hr : r = M 114 1) : ∃ P, SRk k M' P ∧ (∀ o : Int, 114 ≤ o → Mf o = P o) := by
  have e := h.eqE hE h2
  have e1 := hE 114 (by omega)
  have a := h.2.2.1
  have b := h2.2.2.1
  rw [e1] at b
  rcases a with q | q
  · rcases b with w | w
    · refine ⟨rdM k (rd0 M) r.toNat, q.2, fun o ho => ?_⟩
      rw [w.2.1, ← e]
      exact hE.rdMs k r.toNat o ho
    · omega
  · omega
theorem RD.iva {M M1 : Mem} (h : RD M M1) (hb : B118 M1) (x : IVA M) : IVA M1 := by
  have cg : ∀ o k : Int, ¬ rdS o k → M1 o k = M o k := h
  unfold rdS at cg
  exact ⟨x.1.cg (fun o k z => cg o k (by unfold ZA at z; omega)), x.2.1.cg (fun o k z => cg o k (by unfold ZB at z; omega)), x.2.2.1.cg (fun o k z => cg o k (by unfold ZC at z; omega)), x.2.2.2.1.cg (fun o k z => cg o k (by unfold ZD at z; omega)), x.2.2.2.2.1.cg (fun o k z => cg o k (by unfold ZE at z; omega)), hb⟩
theorem read_iva {k f g : Int} {M M1 Mf : Mem} (x : IVA M) (h : FX k M f M1) (h2 : FR k M1 g Mf) : IVA Mf := h2.rd.iva h2.2.2.2 (h.2.2.2.xs.iva x)
theorem oe_fault {M M1 : Mem} {k r1 : Int} (x : IVA M) (ik : i32 k) (hc : (fun r M' => (0 ≤ k ∧ k ≤ 2 → FX k M r M') ∧ (¬ (0 ≤ k ∧ k ≤ 2) → r = -102 ∧ M' = M)) r1 M1) : EQ M M1 := by
  by_cases c : 0 ≤ k ∧ k ≤ 2
  · exact (hc.1 c).2.2.2.eq
  · rw [(hc.2 c).2]; exact EQ.rf M
theorem op_fault {M M1 M2 : Mem} {k r1 r2 : Int} (x : IVA M) (ik : i32 k) (hc : (fun r M' => (0 ≤ k ∧ k ≤ 2 → FX k M r M') ∧ (¬ (0 ≤ k ∧ k ≤ 2) → r = -102 ∧ M' = M)) r1 M1) (hd : (fun r M' => (0 ≤ k ∧ k ≤ 2 → FR k M1 r M') ∧ (¬ (0 ≤ k ∧ k ≤ 2) → r = -102 ∧ M' = M1)) r2 M2) : r1 = r2 ∧ IVA M2 := by
  by_cases c : 0 ≤ k ∧ k ≤ 2
  · exact ⟨(hc.1 c).eqE (hc.1 c).2.2.2.eq (hd.1 c), read_iva x (hc.1 c) (hd.1 c)⟩
  · obtain ⟨e1, f1⟩ := hc.2 c
    obtain ⟨e2, f2⟩ := hd.2 c
    rw [f2, f1]
    exact ⟨by rw [e1, e2], x⟩
theorem oe_lamp {M M1 : Mem} { r1 : Int} (x : IVA M)  (hc : (fun r M' => ∃ f Mx, FX 0 M f Mx ∧ lampX M f Mx r M') r1 M1) : EQ M M1 := by
  obtain ⟨f, Mx, hx, hl⟩ := hc
  have hxe := hx.2.2.2.eq
  have fl := hx.1
  unfold lampX at hl
  have hn := x.w.lam.1
  split at hl
  · rw [hl.2]; exact hxe
  · split at hl
    · rw [hl.2]; exact hxe
    · rw [hl.2]
      intro o ho
      funext k
      simp only [mu, cpy]
      rw [if_neg (by omega), if_neg (by omega), if_neg (by omega), hxe o ho]
theorem op_lamp {M M1 M2 : Mem} { r1 r2 : Int} (x : IVA M)  (hc : (fun r M' => ∃ f Mx, FX 0 M f Mx ∧ lampX M f Mx r M') r1 M1) (hd : (fun r M' => ∃ f Mf, FR 0 M1 f Mf ∧ lampP M1 f Mf r M') r2 M2) : r1 = r2 ∧ IVA M2 := by
  have qE := oe_lamp x hc
  obtain ⟨f, Mx, hx, hl⟩ := hc
  obtain ⟨g, Mf, hf, hp⟩ := hd
  have hxe := hx.2.2.2.eq
  have e := hx.eqE qE hf
  subst e
  unfold lampX at hl
  unfold lampP at hp
  rw [qE 114 (by omega)] at hp
  have fl := hx.1
  by_cases c1 : f < M 114 1
  · rw [if_pos (Or.inl c1)] at hl hp
    have g1_ : M1 = Mx := hl.2
    have g2_ : M2 = Mf := hp.2
    refine ⟨by rw [hl.1, hp.1], ?_⟩
    rw [g2_]
    exact read_iva x (by rw [g1_]; exact hx) hf
  obtain ⟨P, hs, hP⟩ := hx.stE qE hf (by omega)
  have hs := hs.1 rfl
  obtain ⟨s1, s2, s3, s4, s5, s6⟩ := hs
  have p114 := hP 114 (by omega)
  rw [p114] at hp
  by_cases c2 : Mx 3 2 ≠ 3
  · rw [if_pos (Or.inr c2)] at hl
    rw [if_pos (by omega)] at hp
    have g1_ : M1 = Mx := hl.2
    have g2_ : M2 = Mf := hp.2
    refine ⟨by rw [hl.1, hp.1], ?_⟩
    rw [g2_]
    exact read_iva x (by rw [g1_]; exact hx) hf
  rw [if_neg (by omega)] at hl hp
  by_cases c3 : M 114 13 = 4
  · rw [if_pos c3] at hl hp
    have g1_ : M1 = Mx := hl.2
    have g2_ : M2 = Mf := hp.2
    refine ⟨by rw [hl.1, hp.1], ?_⟩
    rw [g2_]
    exact read_iva x (by rw [g1_]; exact hx) hf
  rw [if_neg c3] at hl hp
  obtain ⟨r1e, f1⟩ := hl
  obtain ⟨r2e, f2⟩ := hp
  refine ⟨by rw [r1e, r2e], ?_⟩
  have hI := (hf.in (by rw [qE 114 (by omega)]; exact c1)).1 rfl
  have g6 := hI.2.2.2.2.2
  have rd := hf.rd
  unfold RD rdS at rd
  have xr : ∀ o k : Int, ¬ (3 ≤ o ∧ o ≤ 9) → Mx o k = M o k := hx.2.2.2
  obtain ⟨⟨t1, t2, t3⟩, ⟨a1, a2⟩, ⟨a3, a4⟩, ⟨a5, a6⟩, a7, a8, a9⟩ := x.1
  have m1 : ∀ o k : Int, ¬ (o = 0 ∧ k = 13) → ¬ (o = 1 ∧ k = 1) → ¬ (o = 11 + M 114 13 ∧ 0 ≤ k ∧ k < 3) → M1 o k = Mx o k := fun o k h1 h2 h3 => by
    rw [f1]
    show (if o = 0 ∧ k = 13 then M 114 13 + 1 else if o = 1 ∧ k = 1 then 0 else if o = 11 + M 114 13 ∧ 0 ≤ k ∧ k < 0 + 3 then Mx 4 (0 + (k - 0)) else Mx o k) = _
    rw [if_neg h1, if_neg h2, if_neg (by omega)]
  have m2 : ∀ o k : Int, ¬ (o = 114 ∧ (k = 1 ∨ k = 13)) → ¬ (o = 119 ∧ 3 * M 114 13 ≤ k ∧ k < 3 * M 114 13 + 3) → M2 o k = Mf o k := fun o k h1 h2 => by
    rw [f2]
    show (if o = 114 ∧ k = 1 then 0 else if o = 114 ∧ k = 13 then M 114 13 + 1 else if o = 119 ∧ 3 * M 114 13 ≤ k ∧ k < 3 * M 114 13 + 3 then Mf 116 (k - 3 * M 114 13) else Mf o k) = _
    rw [if_neg (by omega), if_neg (by omega), if_neg h2]
  have m13 : M2 114 13 = M 114 13 + 1 := by rw [f2]; rfl
  have m01 : M2 114 1 = 0 := by rw [f2]; rfl
  have n13 : M2 0 13 = M 114 13 + 1 := by rw [m2 _ _ (by omega) (by omega), rd _ _ (by omega), f1]; rfl
  have n11 : M2 1 1 = 0 := by rw [m2 _ _ (by omega) (by omega), rd _ _ (by omega), f1]; rfl
  have cg : ∀ o k : Int, ¬ ((116 ≤ o ∧ o ≤ 118) ∨ (o = 114 ∧ ((2 ≤ k ∧ k ≤ 8) ∨ k = 10 ∨ k = 1 ∨ k = 13)) ∨ (o = 119 ∧ 3 * M 114 13 ≤ k ∧ k < 3 * M 114 13 + 3) ∨ (o = 0 ∧ k = 13) ∨ (o = 1 ∧ k = 1) ∨ (o = 11 + M 114 13 ∧ 0 ≤ k ∧ k < 3) ∨ (3 ≤ o ∧ o ≤ 9)) → M2 o k = M o k := fun o k n => by
    rw [m2 o k (by omega) (by omega), rd o k (by omega), m1 o k (by omega) (by omega) (by omega), xr o k (by omega)]
  have nw : ∀ k : Int, 0 ≤ k → k < 3 → M2 119 (3 * M 114 13 + k) = Mf 116 k ∧ M2 (11 + M 114 13) k = Mx 4 k := fun k k0 k1 => by
    refine ⟨?_, ?_⟩
    · rw [f2]
      show (if (119 : Int) = 114 ∧ 3 * M 114 13 + k = 1 then 0 else if (119 : Int) = 114 ∧ 3 * M 114 13 + k = 13 then M 114 13 + 1 else if (119 : Int) = 119 ∧ 3 * M 114 13 ≤ 3 * M 114 13 + k ∧ 3 * M 114 13 + k < 3 * M 114 13 + 3 then Mf 116 (3 * M 114 13 + k - 3 * M 114 13) else Mf 119 (3 * M 114 13 + k)) = _
      rw [if_neg (by omega), if_neg (by omega), if_pos (by omega), show 3 * M 114 13 + k - 3 * M 114 13 = k by omega]
    · rw [m2 _ _ (by omega) (by omega), rd _ _ (by omega), f1]
      show (if 11 + M 114 13 = 0 ∧ k = 13 then M 114 13 + 1 else if 11 + M 114 13 = 1 ∧ k = 1 then 0 else if 11 + M 114 13 = 11 + M 114 13 ∧ 0 ≤ k ∧ k < 0 + 3 then Mx 4 (0 + (k - 0)) else Mx (11 + M 114 13) k) = _
      rw [if_neg (by omega), if_neg (by omega), if_pos (by omega), show 0 + (k - 0) = k by omega]
  have r : ∀ o : Int, (120 ≤ o ∧ o ≤ 123) → M2 o = M o := fun o ho => funext fun k => cg o k (by omega)
  have ff : ∀ k : Int, (k = 15 ∨ k = 17 ∨ k = 19 ∨ k = 20) → M2 114 k = M 114 k := fun k hk => cg 114 k (by omega)
  refine ⟨⟨?_, ?_⟩, x.2.1.up (fun o k z n => cg o k (by unfold ZB at z; omega)) (by omega) (by rw [ff 20 (by omega)]; exact Int.le_refl _), ⟨⟨by rw [m01]; decide, fun i a b => by rw [m01] at b; omega⟩, by rw [n11, m01], fun i a b => by rw [m01] at b; omega⟩, x.2.2.2.1.cg (fun o k z => cg o k (by unfold ZD at z; omega)), x.2.2.2.2.1.up (fun o k z n => cg o k (by unfold ZE at z; omega)) (by omega) (by rw [ff 20 (by omega)]; exact Int.le_refl _), fun i a b => by rw [m2 _ _ (by omega) (by omega)]; exact hf.2.2.2 i a b⟩
  · unfold WTab
    rw [r 120 (by omega), r 121 (by omega), r 122 (by omega), r 123 (by omega), ff 15 (by omega), ff 17 (by omega), ff 19 (by omega), ff 20 (by omega), m13]
    refine ⟨by omega, fun i i0 i1 => ?_, t3⟩
    by_cases d : 3 * M 114 13 ≤ i ∧ i < 3 * M 114 13 + 3
    · have z := (nw (i - 3 * M 114 13) (by omega) (by omega)).1
      rw [show 3 * M 114 13 + (i - 3 * M 114 13) = i by omega] at z
      rw [z]; exact g6 _ (by omega) (by omega)
    · rw [cg _ _ (by omega)]; exact t2 i i0 i1
  · unfold IT
    rw [r 120 (by omega), r 121 (by omega), r 122 (by omega), r 123 (by omega), ff 15 (by omega), ff 17 (by omega), ff 19 (by omega), ff 20 (by omega), m13, cg 0 14 (by omega), cg 0 15 (by omega), cg 22 1 (by omega), cg 22 2 (by omega)]
    refine ⟨⟨n13, fun l c l0 l1 c0 c1 => ?_⟩, ⟨a3, fun i i0 i1 => by rw [cg _ _ (by omega), cg _ _ (by omega)]; exact a4 i i0 i1⟩, ⟨a5, fun m k m0 m1 k0 k1 => by rw [cg _ _ (by omega)]; exact a6 m k m0 m1 k0 k1⟩, a7, a8, fun k k0 k1 => by rw [cg _ _ (by omega)]; exact a9 k k0 k1⟩
    by_cases d : l = M 114 13
    · have z := nw c c0 c1
      rw [d, z.1, z.2, s6 c c0 c1, hP 116 (by omega)]
    · rw [cg (11 + l) c (by omega), cg 119 (3 * l + c) (by omega)]; exact a2 l c l0 (by omega) c0 c1

