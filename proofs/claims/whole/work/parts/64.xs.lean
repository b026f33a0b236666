/-! What the reference's numbers say does not hang on the class's cells. -/
theorem EQ.row {M M1 : Mem} (h : EQ M M1) {o : Int} (ho : 114 ≤ o) : M1 o = M o := h o ho
theorem EQ.fld {M M1 : Mem} (h : EQ M M1) {k : Int} (_ : (0 : Int) ≤ 1) : M1 114 k = M 114 k := by rw [h 114 (by omega)]
theorem EQ.e_rgt {M M1 : Mem} (h : EQ M M1) : rgt M1 = rgt M := by
  funext p c
  unfold rgt
  rw [h.row (o := 124) (by omega), h.row (o := 125) (by omega), h.row (o := 119) (by omega), h.row (o := 123) (by omega)]
theorem EQ.e_vlu {M M1 : Mem} (h : EQ M M1) : vlu M1 = vlu M := by
  funext m p
  unfold vlu smS
  rw [h.e_rgt, h.row (o := 120) (by omega)]
theorem EQ.e_clsS {M M1 : Mem} (h : EQ M M1) : clsS M1 = clsS M := by
  funext v
  unfold clsS
  rw [h.row (o := 121) (by omega), h.fld (k := 17) (by omega)]
theorem EQ.e_lowS {M M1 : Mem} (h : EQ M M1) : lowS M1 = lowS M := by
  funext m p
  unfold lowS
  rw [h.e_vlu, h.e_clsS, h.fld (k := 19) (by omega)]
theorem EQ.e_highS {M M1 : Mem} (h : EQ M M1) : highS M1 = highS M := by
  funext m p
  unfold highS
  rw [h.e_vlu, h.e_clsS, h.fld (k := 19) (by omega)]
theorem EQ.e_nrS {M M1 : Mem} (h : EQ M M1) : nrS M1 = nrS M := by
  funext a b c
  unfold nrS nrK
  rw [h.row (o := 126) (by omega), h.fld (k := 26) (by omega)]
theorem EQ.e_WTab {M M1 : Mem} (h : EQ M M1) : WTab M1 = WTab M := by
  unfold WTab
  rw [h.fld (k := 13) (by omega), h.fld (k := 15) (by omega), h.fld (k := 17) (by omega), h.fld (k := 19) (by omega), h.fld (k := 20) (by omega), h.row (o := 119) (by omega), h.row (o := 120) (by omega), h.row (o := 121) (by omega), h.row (o := 122) (by omega), h.row (o := 123) (by omega)]
theorem EQ.e_WPic {M M1 : Mem} (h : EQ M M1) : WPic M1 = WPic M := by
  unfold WPic
  rw [h.fld (k := 13) (by omega), h.fld (k := 20) (by omega), h.fld (k := 23) (by omega), h.fld (k := 26) (by omega), h.fld (k := 40) (by omega), h.row (o := 124) (by omega), h.row (o := 125) (by omega), h.row (o := 126) (by omega), h.row (o := 134) (by omega), h.row (o := 135) (by omega)]
theorem EQ.WV {M M1 : Mem} (h : EQ M M1) (hW : WV M) : WV M1 := ⟨by rw [h.e_WTab]; exact hW.1, by rw [h.e_WPic]; exact hW.2⟩
theorem EQ.e_dtP {M M1 : Mem} (h : EQ M M1) : dtP M1 = dtP M := by
  funext m p y
  unfold dtP
  rw [h.row (o := 124) (by omega), h.row (o := 122) (by omega), h.row (o := 134) (by omega), h.row (o := 135) (by omega), h.e_lowS, h.e_highS]
theorem EQ.e_yr {M M1 : Mem} (h : EQ M M1) : yr0 M1 = yr0 M := by
  funext p
  unfold yr0
  rw [h.row (o := 124) (by omega)]
theorem EQ.e_nY {M M1 : Mem} (h : EQ M M1) : nY M1 = nY M := by
  funext p
  unfold nY
  rw [h.row (o := 124) (by omega)]
theorem EQ.e_dN {M M1 : Mem} (h : EQ M M1) : dN M1 = dN M := by
  funext m p n
  induction n with
  | zero => rfl
  | succ n ih =>
    unfold dN okD
    rw [ih, h.e_dtP, h.e_yr]
theorem EQ.e_nrV {M M1 : Mem} (h : EQ M M1) (w : Int) : nrV M1 w = nrV M w := by
  funext p
  unfold nrV
  rw [h.e_nrS, h.row (o := 124) (by omega)]
theorem EQ.e_prof {M M1 : Mem} (h : EQ M M1) (m w but : Int) : mbL M1 but = mbL M but ∧ hdV M1 = hdV M ∧ vlu M1 m = vlu M m ∧ nrV M1 w = nrV M w ∧ M1 114 23 = M 114 23 := by
  refine ⟨?_, ?_, ?_, h.e_nrV w, h.fld (k := 23) (by omega)⟩
  · funext p; unfold mbL; rw [h.row (o := 124) (by omega)]
  · funext p; unfold hdV; rw [h.row (o := 124) (by omega)]
  · rw [h.e_vlu]
theorem EQ.e_stV {M M1 : Mem} (h : EQ M M1) : stV M1 = stV M := by
  funext m w but; have e := h.e_prof m w but; unfold stV; rw [e.1, e.2.1, e.2.2.1, e.2.2.2.1, e.2.2.2.2]
theorem EQ.e_lowV {M M1 : Mem} (h : EQ M M1) : lowV M1 = lowV M := by
  funext m w but; have e := h.e_prof m w but; unfold lowV; rw [e.1, e.2.1, e.2.2.1, e.2.2.2.1, e.2.2.2.2]
theorem EQ.e_upV {M M1 : Mem} (h : EQ M M1) : upV M1 = upV M := by
  funext m w but; have e := h.e_prof m w but; unfold upV; rw [e.1, e.2.1, e.2.2.1, e.2.2.2.1, e.2.2.2.2]
theorem EQ.e_cntS {M M1 : Mem} (h : EQ M M1) : cntS M1 = cntS M := by
  funext k
  unfold cntS
  simp only [h.fld (k := 13) (by omega), h.fld (k := 20) (by omega), h.fld (k := 23) (by omega), h.fld (k := 15) (by omega), h.fld (k := 26) (by omega), h.fld (k := 17) (by omega), h.fld (k := 40) (by omega), h.fld (k := 1) (by omega), h.fld (k := 39) (by omega)]
theorem EQ.e_spH {M M1 : Mem} (h : EQ M M1) : spH M1 = spH M := by
  funext p x
  unfold spH spB spA nrO
  rw [h.row (o := 124) (by omega), h.e_rgt, h.e_vlu, h.e_nrS, h.fld (k := 15) (by omega)]
theorem EQ.e_smH {M M1 : Mem} (h : EQ M M1) : smH M1 = smH M := by
  funext m x
  unfold smH
  rw [h.e_stV, h.e_upV, h.e_lowV]
/-- the class's scratch -/
def XS (M M1 : Mem) : Prop := ∀ o k : Int, ¬ ((3 ≤ o ∧ o ≤ 9) ∨ (100 ≤ o ∧ o ≤ 113)) → M1 o k = M o k
theorem XS.rf (M : Mem) : XS M M := fun _ _ _ => rfl
theorem XS.tr {M M1 M2 : Mem} (h : XS M M1) (h2 : XS M1 M2) : XS M M2 := fun o k n => (h2 o k n).trans (h o k n)
theorem XS.row {M M1 : Mem} (h : XS M M1) {o : Int} (ho : ¬ ((3 ≤ o ∧ o ≤ 9) ∨ (100 ≤ o ∧ o ≤ 113))) : M1 o = M o := by funext k; exact h o k ho
theorem XS.eq {M M1 : Mem} (h : XS M M1) : EQ M M1 := fun o ho => h.row (by omega)
theorem XR.xs {M M1 : Mem} (h : XR M M1) : XS M M1 := fun o k n => h o k (by omega)
theorem XS.pu {M M1 : Mem} (h : XS M M1) {o k : Int} (v : Int) (hs : (3 ≤ o ∧ o ≤ 9) ∨ (100 ≤ o ∧ o ≤ 113)) : XS M (mu M1 o k v) := fun o' k' n => by
  rw [mu_o M1 k v (by omega)]; exact h o' k' n
theorem RSh.cg {M M1 : Mem} {b fb sb eo lo ho n mt yr : Int} {R C A L H : Int → Int} (hn : n ≤ 16) (h : RSh M b fb sb eo lo ho n mt yr R C A L H) (h1 : M1 b = M b) (h2 : ∀ p, 0 ≤ p → p < 16 → M1 (fb + p) = M (fb + p)) (h3 : ∀ p, 0 ≤ p → p < 16 → M1 (sb + p) = M (sb + p)) (h4 : M1 eo = M eo) (h5 : M1 lo = M lo) (h6 : M1 ho = M ho) : RSh M1 b fb sb eo lo ho n mt yr R C A L H := by
  obtain ⟨⟨a1, a2, a3⟩, a4, a5, a6, a7⟩ := h
  refine ⟨⟨by rw [h1]; exact a1, by rw [h1]; exact a2, by rw [h1]; exact a3⟩, fun p c p0 p1 c0 c1 => by rw [h2 p p0 (by omega)]; exact a4 p c p0 p1 c0 c1, fun p c p0 p1 c0 c1 => by rw [h3 p p0 (by omega)]; exact a5 p c p0 p1 c0 c1, fun i i0 i1 => by rw [h4]; exact a6 i i0 i1, fun y y0 y1 => by rw [h5, h6]; exact a7 y y0 y1⟩
theorem XS.is {M M1 : Mem} (h : XS M M1) (hW : WV M) (hS : IS M) : IS M1 := by
  have hn := hW.n
  have e : ∀ o : Int, 114 ≤ o → M1 o = M o := h.eq
  unfold IS
  rw [e 114 (by omega), e 124 (by omega), e 125 (by omega), e 126 (by omega), e 134 (by omega), e 135 (by omega)]
  exact RSh.cg (by omega) hS (h.row (by omega)) (fun p a b => h.row (by omega)) (fun p a b => h.row (by omega)) (h.row (by omega)) (h.row (by omega)) (h.row (by omega))
theorem XS.it {M M1 : Mem} (h : XS M M1) (hW : WV M) (hT : IT M) : IT M1 := by
  have e : ∀ o : Int, 114 ≤ o → M1 o = M o := h.eq
  obtain ⟨⟨a1, a2⟩, ⟨a3, a4⟩, ⟨a5, a6⟩, a7, a8, a9⟩ := hT
  have w1 := hW.lam
  have w2 := hW.mea
  unfold IT
  rw [e 114 (by omega), e 119 (by omega), e 120 (by omega), e 121 (by omega), e 122 (by omega), e 123 (by omega), h.row (o := 0) (by omega), h.row (o := 15) (by omega), h.row (o := 16) (by omega), h.row (o := 22) (by omega), h.row (o := 23) (by omega)]
  exact ⟨⟨a1, fun l c l0 l1 c0 c1 => by rw [h.row (by omega)]; exact a2 l c l0 l1 c0 c1⟩, ⟨a3, a4⟩, ⟨a5, fun m k m0 m1 k0 k1 => by rw [h.row (by omega)]; exact a6 m k m0 m1 k0 k1⟩, a7, a8, a9⟩
theorem XS.iv {M M1 : Mem} (h : XS M M1) (hV : IV M) : IV M1 := ⟨h.eq.WV hV.1, h.is hV.1 hV.2.1, h.it hV.1 hV.2.2⟩
theorem d_beg1 {M : Mem} {m p y : Int} (hy : y = frS M p) (h : yr0 M p ≤ frS M p) : 0 = dN M m p (y - yr0 M p).toNat ∧ -1 = dF M m p (y - yr0 M p).toNat ∧ -1 = dL M m p (y - yr0 M p).toNat := by
  subst hy
  have z := d_beg (m := m) h
  exact ⟨z.1.symm, z.2.1.symm, z.2.2.symm⟩
/-- what layOut lays -/
def LO (M M1 : Mem) (m k : Int) : Prop := XS M M1 ∧ ∀ p, 0 ≤ p → p < k → M1 101 p = hdV M p ∧ M1 102 p = vlu M m p
theorem LO.go {M M1 : Mem} {m k a b : Int} (h : LO M M1 m k) (hk : 0 ≤ k) (ha : a = hdV M k) (hb : b = vlu M m k) : LO M (mu (mu M1 101 k a) 102 k b) m (k + 1) := by
  refine ⟨(h.1.pu _ (by omega)).pu _ (by omega), fun p p0 p1 => ?_⟩
  have r1 : mu (mu M1 101 k a) 102 k b 101 p = if p = k then a else M1 101 p := by simp [mu]
  have r2 : mu (mu M1 101 k a) 102 k b 102 p = if p = k then b else M1 102 p := by simp [mu]
  rw [r1, r2]
  by_cases e : p = k
  · rw [if_pos e, if_pos e, e]; exact ⟨ha, hb⟩
  · rw [if_neg e, if_neg e]; exact h.2 p p0 (by omega)

