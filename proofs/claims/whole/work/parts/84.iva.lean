/-! The invariant between the class and the reference, by parts: which cells each part reads. -/
def ZA (o k : Int) : Prop := (o = 0 ∧ 13 ≤ k ∧ k ≤ 15) ∨ (11 ≤ o ∧ o ≤ 16) ∨ (18 ≤ o ∧ o ≤ 21) ∨ (o = 22 ∧ 1 ≤ k ∧ k ≤ 2) ∨ o = 23 ∨ (o = 114 ∧ (k = 13 ∨ k = 15 ∨ k = 17 ∨ k = 19 ∨ k = 20)) ∨ (119 ≤ o ∧ o ≤ 123)
def ZB (o k : Int) : Prop := (o = 24 ∧ 5 ≤ k ∧ k ≤ 7) ∨ (26 ≤ o ∧ o ≤ 41) ∨ (43 ≤ o ∧ o ≤ 61) ∨ (o = 114 ∧ (k = 23 ∨ k = 26 ∨ k = 40 ∨ k = 13 ∨ k = 20)) ∨ (124 ≤ o ∧ o ≤ 126) ∨ (134 ≤ o ∧ o ≤ 135)
def ZC (o k : Int) : Prop := (o = 1 ∧ k = 1) ∨ o = 2 ∨ (o = 114 ∧ k = 1) ∨ o = 115
def ZD (o k : Int) : Prop := (o = 0 ∧ k = 16) ∨ (o = 114 ∧ k = 39)
def ZE (o k : Int) : Prop := (o = 0 ∧ k = 17) ∨ (o = 62 ∧ 5 ≤ k ∧ k ≤ 7) ∨ (64 ≤ o ∧ o ≤ 79) ∨ (81 ≤ o ∧ o ≤ 99) ∨ (o = 114 ∧ (k = 46 ∨ k = 47 ∨ k = 48 ∨ k = 13 ∨ k = 20)) ∨ (136 ≤ o ∧ o ≤ 140)
def IvA (M : Mem) : Prop := WTab M ∧ IT M
/-- how many years ICE tells of -/
def IceN (y : Int) (L : Int → Int) : Prop := y = sm (fun j => if L j = -1 then 0 else 1) 401
def IvB (M : Mem) : Prop := WPic M ∧ IS M ∧ IceN (M 114 40) (M 134)
def IvC (M : Mem) : Prop := WPage M ∧ IG M
def IvD (M : Mem) : Prop := WDone M ∧ ID M
def IvE (M : Mem) : Prop := WKept M ∧ IK M ∧ (M 114 46 ≠ -1 → IceN (M 114 48) (M 139))
theorem IvA.cg {M M2 : Mem} (h : ∀ o k, ZA o k → M2 o k = M o k) (x : IvA M) : IvA M2 := by
  have r : ∀ o : Int, (119 ≤ o ∧ o ≤ 123) → M2 o = M o := fun o ho => funext fun k => h o k (by unfold ZA; omega)
  have f : ∀ k : Int, (k = 13 ∨ k = 15 ∨ k = 17 ∨ k = 19 ∨ k = 20) → M2 114 k = M 114 k := fun k hk => h 114 k (by unfold ZA; omega)
  obtain ⟨w, ⟨a1, a2⟩, ⟨a3, a4⟩, ⟨a5, a6⟩, a7, a8, a9⟩ := x
  have w1 := w.1
  have w2 := w.2.2.1
  constructor
  · unfold WTab at w ⊢
    rw [r 119 (by omega), r 120 (by omega), r 121 (by omega), r 122 (by omega), r 123 (by omega), f 13 (by omega), f 15 (by omega), f 17 (by omega), f 19 (by omega), f 20 (by omega)]
    exact w
  · unfold IT
    rw [r 119 (by omega), r 120 (by omega), r 121 (by omega), r 122 (by omega), r 123 (by omega), f 13 (by omega), f 15 (by omega), f 17 (by omega), f 19 (by omega), f 20 (by omega), h 0 13 (by unfold ZA; omega), h 0 14 (by unfold ZA; omega), h 0 15 (by unfold ZA; omega), h 22 1 (by unfold ZA; omega), h 22 2 (by unfold ZA; omega)]
    exact ⟨⟨a1, fun l c l0 l1 c0 c1 => by rw [h _ _ (by unfold ZA; omega)]; exact a2 l c l0 l1 c0 c1⟩, ⟨a3, fun i i0 i1 => by rw [h _ _ (by unfold ZA; omega), h _ _ (by unfold ZA; omega)]; exact a4 i i0 i1⟩, ⟨a5, fun m k m0 m1 k0 k1 => by rw [h _ _ (by unfold ZA; omega)]; exact a6 m k m0 m1 k0 k1⟩, a7, a8, fun k k0 k1 => by rw [h _ _ (by unfold ZA; omega)]; exact a9 k k0 k1⟩
theorem RSh.cg2 {M M1 : Mem} {b fb sb eo lo ho n mt yr : Int} {R C A L H : Int → Int} (hn : n ≤ 16) (h : RSh M b fb sb eo lo ho n mt yr R C A L H) (h1 : ∀ k, 5 ≤ k → k ≤ 7 → M1 b k = M b k) (h2 : ∀ p k, 0 ≤ p → p < 16 → M1 (fb + p) k = M (fb + p) k) (h3 : ∀ p k, 0 ≤ p → p < 16 → M1 (sb + p) k = M (sb + p) k) (h4 : ∀ k, M1 eo k = M eo k) (h5 : ∀ k, M1 lo k = M lo k) (h6 : ∀ k, M1 ho k = M ho k) : RSh M1 b fb sb eo lo ho n mt yr R C A L H := by
  obtain ⟨⟨a1, a2, a3⟩, a4, a5, a6, a7⟩ := h
  refine ⟨⟨by rw [h1 5 (by omega) (by omega)]; exact a1, by rw [h1 6 (by omega) (by omega)]; exact a2, by rw [h1 7 (by omega) (by omega)]; exact a3⟩, fun p c p0 p1 c0 c1 => by rw [h2 p c p0 (by omega)]; exact a4 p c p0 p1 c0 c1, fun p c p0 p1 c0 c1 => by rw [h3 p c p0 (by omega)]; exact a5 p c p0 p1 c0 c1, fun i i0 i1 => by rw [h4]; exact a6 i i0 i1, fun y y0 y1 => by rw [h5, h6]; exact a7 y y0 y1⟩
theorem IvB.cg {M M2 : Mem} (h : ∀ o k, ZB o k → M2 o k = M o k) (x : IvB M) : IvB M2 := by
  have r : ∀ o : Int, (124 ≤ o ∧ o ≤ 126) ∨ (134 ≤ o ∧ o ≤ 135) → M2 o = M o := fun o ho => funext fun k => h o k (by unfold ZB; omega)
  have f : ∀ k : Int, (k = 23 ∨ k = 26 ∨ k = 40 ∨ k = 13 ∨ k = 20) → M2 114 k = M 114 k := fun k hk => h 114 k (by unfold ZB; omega)
  obtain ⟨w, s, u⟩ := x
  have hn := w.1
  refine ⟨?_, ?_, ?_⟩
  · unfold WPic at w ⊢
    rw [r 124 (by omega), r 125 (by omega), r 126 (by omega), r 134 (by omega), r 135 (by omega), f 13 (by omega), f 20 (by omega), f 23 (by omega), f 26 (by omega), f 40 (by omega)]
    exact w
  · unfold IS at s ⊢
    rw [r 124 (by omega), r 125 (by omega), r 126 (by omega), r 134 (by omega), r 135 (by omega), f 23 (by omega), f 26 (by omega), f 40 (by omega)]
    exact RSh.cg2 (by omega) s (fun k a b => h _ _ (by unfold ZB; omega)) (fun p k a b => h _ _ (by unfold ZB; omega)) (fun p k a b => h _ _ (by unfold ZB; omega)) (fun k => h _ _ (by unfold ZB; omega)) (fun k => h _ _ (by unfold ZB; omega)) (fun k => h _ _ (by unfold ZB; omega))
  · rw [r 134 (by omega), f 40 (by omega)]; exact u
theorem IvC.cg {M M2 : Mem} (h : ∀ o k, ZC o k → M2 o k = M o k) (x : IvC M) : IvC M2 := by
  have r : M2 115 = M 115 := funext fun k => h 115 k (by unfold ZC; omega)
  have r2 : M2 2 = M 2 := funext fun k => h 2 k (by unfold ZC; omega)
  unfold IvC WPage IG at x ⊢
  rw [r, r2, h 1 1 (by unfold ZC; omega), h 114 1 (by unfold ZC; omega)]
  exact x
theorem IvD.cg {M M2 : Mem} (h : ∀ o k, ZD o k → M2 o k = M o k) (x : IvD M) : IvD M2 := by
  unfold IvD WDone ID at x ⊢
  rw [h 0 16 (by unfold ZD; omega), h 114 39 (by unfold ZD; omega)]
  exact x
theorem IvE.cg {M M2 : Mem} (h : ∀ o k, ZE o k → M2 o k = M o k) (x : IvE M) : IvE M2 := by
  have r : ∀ o : Int, (136 ≤ o ∧ o ≤ 140) → M2 o = M o := fun o ho => funext fun k => h o k (by unfold ZE; omega)
  have f : ∀ k : Int, (k = 46 ∨ k = 47 ∨ k = 48 ∨ k = 13 ∨ k = 20) → M2 114 k = M 114 k := fun k hk => h 114 k (by unfold ZE; omega)
  obtain ⟨w, s, u⟩ := x
  have hn := w.2.1
  refine ⟨?_, ?_, ?_⟩
  · unfold WKept at w ⊢
    rw [r 136 (by omega), r 137 (by omega), r 138 (by omega), r 139 (by omega), r 140 (by omega), f 13 (by omega), f 20 (by omega), f 46 (by omega), f 47 (by omega), f 48 (by omega)]
    exact w
  · unfold IK at s ⊢
    rw [r 136 (by omega), r 137 (by omega), r 138 (by omega), r 139 (by omega), r 140 (by omega), f 46 (by omega), f 47 (by omega), f 48 (by omega), h 0 17 (by unfold ZE; omega)]
    refine s.imp id (fun q => ⟨q.1, q.2.1, ?_⟩)
    exact RSh.cg2 (by omega) q.2.2 (fun k a b => h _ _ (by unfold ZE; omega)) (fun p k a b => h _ _ (by unfold ZE; omega)) (fun p k a b => h _ _ (by unfold ZE; omega)) (fun k => h _ _ (by unfold ZE; omega)) (fun k => h _ _ (by unfold ZE; omega)) (fun k => h _ _ (by unfold ZE; omega))
  · rw [r 139 (by omega), f 46 (by omega), f 48 (by omega)]; exact u
theorem IvF.cg {M M2 : Mem} (h : ∀ k, M2 118 k = M 118 k) (x : B118 M) : B118 M2 := fun i a b => by rw [h]; exact x i a b
def IVA (M : Mem) : Prop := IvA M ∧ IvB M ∧ IvC M ∧ IvD M ∧ IvE M ∧ B118 M
theorem IVA.iv {M : Mem} (h : IVA M) : IV M := ⟨⟨h.1.1, h.2.1.1⟩, h.2.1.2.1, h.1.2⟩
theorem IVA.w {M : Mem} (h : IVA M) : WV M := h.iv.1
theorem IVA.tab {M : Mem} (h : IVA M) : WTab M := h.1.1
theorem IVA.pg {M : Mem} (h : IVA M) : WPage M := h.2.2.1.1
theorem IVA.ig {M : Mem} (h : IVA M) : IG M := h.2.2.1.2
theorem IVA.dn {M : Mem} (h : IVA M) : WDone M := h.2.2.2.1.1
theorem IVA.id {M : Mem} (h : IVA M) : ID M := h.2.2.2.1.2
theorem IVA.wk {M : Mem} (h : IVA M) : WKept M := h.2.2.2.2.1.1
theorem IVA.ik {M : Mem} (h : IVA M) : IK M := h.2.2.2.2.1.2.1
theorem IVA.bb {M : Mem} (h : IVA M) : B118 M := h.2.2.2.2.2
def ZZ (o k : Int) : Prop := ZA o k ∨ ZB o k ∨ ZC o k ∨ ZD o k ∨ ZE o k ∨ o = 118
theorem IVA.cg {M M2 : Mem} (h : ∀ o k, ZZ o k → M2 o k = M o k) (x : IVA M) : IVA M2 :=
  ⟨x.1.cg (fun o k z => h o k (Or.inl z)), x.2.1.cg (fun o k z => h o k (Or.inr (Or.inl z))), x.2.2.1.cg (fun o k z => h o k (Or.inr (Or.inr (Or.inl z)))), x.2.2.2.1.cg (fun o k z => h o k (Or.inr (Or.inr (Or.inr (Or.inl z))))), x.2.2.2.2.1.cg (fun o k z => h o k (Or.inr (Or.inr (Or.inr (Or.inr (Or.inl z)))))), IvF.cg (fun k => h 118 k (Or.inr (Or.inr (Or.inr (Or.inr (Or.inr rfl)))))) x.2.2.2.2.2⟩
theorem ZZ_x {o k : Int} (h : ZZ o k) : ¬ ((3 ≤ o ∧ o ≤ 9) ∨ (100 ≤ o ∧ o ≤ 113)) ∧ ¬ (scrM o k ∨ (o = 114 ∧ k = 54)) := by
  unfold ZZ ZA ZB ZC ZD ZE at h
  unfold scrM
  constructor
  · omega
  · omega
theorem XS.iva {M M1 : Mem} (h : XS M M1) (x : IVA M) : IVA M1 := x.cg (fun o k z => h o k (ZZ_x z).1)
theorem HM.iva {M M1 : Mem} (h : HM M M1) (x : IVA M) : IVA M1 := x.cg (fun o k z => h o k (ZZ_x z).2)
theorem SM.iva {M M1 : Mem} (h : SM M M1) (x : IVA M) : IVA M1 := (HM.sm h).iva x
theorem WSh.mono {la la' pi pi' n mt yr : Int} {R C A L H : Int → Int} (h : WSh la pi n mt yr R C A L H) (h1 : la ≤ la') (h2 : pi ≤ pi') : WSh la' pi' n mt yr R C A L H := by
  obtain ⟨a, b, c, d, e⟩ := h
  exact ⟨a, b, c, fun p p0 p1 => by have z := d p p0 p1; omega, e⟩
/-- LAMPS and PIGMENTS may become more -/
theorem IvB.up {M M2 : Mem} (h : ∀ o k, ZB o k → ¬ (o = 114 ∧ (k = 13 ∨ k = 20)) → M2 o k = M o k) (h1 : M 114 13 ≤ M2 114 13) (h2 : M 114 20 ≤ M2 114 20) (x : IvB M) : IvB M2 := by
  have y : IvB (mu (mu M2 114 13 (M 114 13)) 114 20 (M 114 20)) := x.cg (fun o k z => by
    show (if o = 114 ∧ k = 20 then M 114 20 else if o = 114 ∧ k = 13 then M 114 13 else M2 o k) = _
    by_cases c : o = 114 ∧ k = 20
    · rw [if_pos c, c.1, c.2]
    · rw [if_neg c]
      by_cases d : o = 114 ∧ k = 13
      · rw [if_pos d, d.1, d.2]
      · rw [if_neg d]; exact h o k z (by omega))
  refine ⟨?_, ?_, ?_⟩
  · exact WSh.mono (la := M 114 13) (pi := M 114 20) y.1 h1 h2
  · have hn : 0 ≤ M2 114 23 ∧ M2 114 23 ≤ 16 := y.1.1
    have s : RSh (mu (mu M2 114 13 (M 114 13)) 114 20 (M 114 20)) 24 26 43 59 60 61 (M2 114 23) (M2 114 26) (M2 114 40) (M2 124) (M2 125) (M2 126) (M2 134) (M2 135) := y.2.1
    exact RSh.cg2 (by omega) s (fun k a b => rfl) (fun p k a b => by show M2 (26 + p) k = (if 26 + p = 114 ∧ k = 20 then _ else if 26 + p = 114 ∧ k = 13 then _ else M2 (26 + p) k); rw [if_neg (by omega), if_neg (by omega)]) (fun p k a b => by show M2 (43 + p) k = (if 43 + p = 114 ∧ k = 20 then _ else if 43 + p = 114 ∧ k = 13 then _ else M2 (43 + p) k); rw [if_neg (by omega), if_neg (by omega)]) (fun k => rfl) (fun k => rfl) (fun k => rfl)
  · exact y.2.2
theorem IvE.up {M M2 : Mem} (h : ∀ o k, ZE o k → ¬ (o = 114 ∧ (k = 13 ∨ k = 20)) → M2 o k = M o k) (h1 : M 114 13 ≤ M2 114 13) (h2 : M 114 20 ≤ M2 114 20) (x : IvE M) : IvE M2 := by
  have y : IvE (mu (mu M2 114 13 (M 114 13)) 114 20 (M 114 20)) := x.cg (fun o k z => by
    show (if o = 114 ∧ k = 20 then M 114 20 else if o = 114 ∧ k = 13 then M 114 13 else M2 o k) = _
    by_cases c : o = 114 ∧ k = 20
    · rw [if_pos c, c.1, c.2]
    · rw [if_neg c]
      by_cases d : o = 114 ∧ k = 13
      · rw [if_pos d, d.1, d.2]
      · rw [if_neg d]; exact h o k z (by omega))
  refine ⟨⟨y.1.1, y.1.2.1, fun q => ?_⟩, ?_, ?_⟩
  · exact WSh.mono (la := M 114 13) (pi := M 114 20) (y.1.2.2 q) h1 h2
  · have hn : M2 114 46 ≤ 16 := y.1.2.1
    have s : (M2 0 17 = 0 ∧ M2 114 46 = -1) ∨ (M2 0 17 = 1 ∧ M2 114 46 ≠ -1 ∧ RSh (mu (mu M2 114 13 (M 114 13)) 114 20 (M 114 20)) 62 64 81 97 98 99 (M2 114 46) (M2 114 47) (M2 114 48) (M2 136) (M2 137) (M2 138) (M2 139) (M2 140)) := y.2.1
    exact s.imp (fun q => q) (fun q => ⟨q.1, q.2.1, RSh.cg2 (M := mu (mu M2 114 13 (M 114 13)) 114 20 (M 114 20)) (by omega) q.2.2 (fun k a b => rfl) (fun p k a b => by show M2 (64 + p) k = (if 64 + p = 114 ∧ k = 20 then _ else if 64 + p = 114 ∧ k = 13 then _ else M2 (64 + p) k); rw [if_neg (by omega), if_neg (by omega)]) (fun p k a b => by show M2 (81 + p) k = (if 81 + p = 114 ∧ k = 20 then _ else if 81 + p = 114 ∧ k = 13 then _ else M2 (81 + p) k); rw [if_neg (by omega), if_neg (by omega)]) (fun k => rfl) (fun k => rfl) (fun k => rfl)⟩)
  · exact y.2.2
/-- what the reference answers doesn't hang on the class's cells -/
theorem XS.rw {M M1 : Mem} (h : XS M M1) (k : Int) : M1 114 k = M 114 k := h 114 k (by omega)

