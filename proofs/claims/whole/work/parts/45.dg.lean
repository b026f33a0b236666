/-! The digest. -/
def HM (M M1 : Mem) : Prop := ∀ o k : Int, ¬ (scrM o k ∨ (o = 114 ∧ k = 54)) → M1 o k = M o k
theorem HM.of (M : Mem) (v : Int) : HM M (mu M 114 54 v) := fun o k n => by
  show (if o = 114 ∧ k = 54 then v else M o k) = _
  rw [if_neg (fun q => n (Or.inr q))]
theorem HM.sm {M M1 : Mem} (h : SM M M1) : HM M M1 := fun o k n => h o k (fun q => n (Or.inl q))
theorem HM.tr {M M1 M2 : Mem} (h : HM M M1) (h2 : HM M1 M2) : HM M M2 := fun o k n => (h2 o k n).trans (h o k n)
theorem HM.row {M M1 : Mem} (h : HM M M1) {o : Int} (ho : o ≠ 114 ∧ ¬ (127 ≤ o ∧ o ≤ 133)) : M1 o = M o := by
  funext k; exact h o k (by unfold scrM; omega)
theorem HM.fld {M M1 : Mem} (h : HM M M1) {k : Int} (hk : ¬ ((2 ≤ k ∧ k ≤ 8) ∨ k = 10 ∨ k = 28 ∨ k = 29 ∨ k = 37 ∨ k = 38 ∨ (43 ≤ k ∧ k ≤ 45) ∨ k = 54)) : M1 114 k = M 114 k := h 114 k (by unfold scrM; omega)
theorem HM.e_rgt {M M1 : Mem} (h : HM M M1) : rgt M1 = rgt M := by
  funext p c
  unfold rgt
  rw [h.row (o := 124) (by omega), h.row (o := 125) (by omega), h.row (o := 119) (by omega), h.row (o := 123) (by omega)]
theorem HM.e_vlu {M M1 : Mem} (h : HM M M1) : vlu M1 = vlu M := by
  funext m p
  unfold vlu smS
  rw [h.e_rgt, h.row (o := 120) (by omega)]
theorem HM.e_clsS {M M1 : Mem} (h : HM M M1) : clsS M1 = clsS M := by
  funext v
  unfold clsS
  rw [h.row (o := 121) (by omega), h.fld (k := 17) (by omega)]
theorem HM.e_lowS {M M1 : Mem} (h : HM M M1) : lowS M1 = lowS M := by
  funext m p
  unfold lowS
  rw [h.e_vlu, h.e_clsS, h.fld (k := 19) (by omega)]
theorem HM.e_highS {M M1 : Mem} (h : HM M M1) : highS M1 = highS M := by
  funext m p
  unfold highS
  rw [h.e_vlu, h.e_clsS, h.fld (k := 19) (by omega)]
theorem HM.e_nrS {M M1 : Mem} (h : HM M M1) : nrS M1 = nrS M := by
  funext a b c
  unfold nrS nrK
  rw [h.row (o := 126) (by omega), h.fld (k := 26) (by omega)]
theorem HM.e_WTab {M M1 : Mem} (h : HM M M1) : WTab M1 = WTab M := by
  unfold WTab
  rw [h.fld (k := 13) (by omega), h.fld (k := 15) (by omega), h.fld (k := 17) (by omega), h.fld (k := 19) (by omega), h.fld (k := 20) (by omega), h.row (o := 119) (by omega), h.row (o := 120) (by omega), h.row (o := 121) (by omega), h.row (o := 122) (by omega), h.row (o := 123) (by omega)]
theorem HM.e_WPic {M M1 : Mem} (h : HM M M1) : WPic M1 = WPic M := by
  unfold WPic
  rw [h.fld (k := 13) (by omega), h.fld (k := 20) (by omega), h.fld (k := 23) (by omega), h.fld (k := 26) (by omega), h.fld (k := 40) (by omega), h.row (o := 124) (by omega), h.row (o := 125) (by omega), h.row (o := 126) (by omega), h.row (o := 134) (by omega), h.row (o := 135) (by omega)]
theorem HM.WV {M M1 : Mem} (h : HM M M1) (hW : WV M) : WV M1 := ⟨by rw [h.e_WTab]; exact hW.1, by rw [h.e_WPic]; exact hW.2⟩
theorem HM.e_dtP {M M1 : Mem} (h : HM M M1) : dtP M1 = dtP M := by
  funext m p y
  unfold dtP
  rw [h.row (o := 124) (by omega), h.row (o := 122) (by omega), h.row (o := 134) (by omega), h.row (o := 135) (by omega), h.e_lowS, h.e_highS]
theorem HM.e_yr {M M1 : Mem} (h : HM M M1) : yr0 M1 = yr0 M := by
  funext p
  unfold yr0
  rw [h.row (o := 124) (by omega)]
theorem HM.e_nY {M M1 : Mem} (h : HM M M1) : nY M1 = nY M := by
  funext p
  unfold nY
  rw [h.row (o := 124) (by omega)]
theorem HM.e_dN {M M1 : Mem} (h : HM M M1) : dN M1 = dN M := by
  funext m p n
  induction n with
  | zero => rfl
  | succ n ih =>
    unfold dN okD
    rw [ih, h.e_dtP, h.e_yr]
theorem HM.e_nrV {M M1 : Mem} (h : HM M M1) (w : Int) : nrV M1 w = nrV M w := by
  funext p
  unfold nrV
  rw [h.e_nrS, h.row (o := 124) (by omega)]
theorem HM.e_prof {M M1 : Mem} (h : HM M M1) (m w but : Int) : mbL M1 but = mbL M but ∧ hdV M1 = hdV M ∧ vlu M1 m = vlu M m ∧ nrV M1 w = nrV M w ∧ M1 114 23 = M 114 23 := by
  refine ⟨?_, ?_, ?_, h.e_nrV w, h.fld (k := 23) (by omega)⟩
  · funext p; unfold mbL; rw [h.row (o := 124) (by omega)]
  · funext p; unfold hdV; rw [h.row (o := 124) (by omega)]
  · rw [h.e_vlu]
theorem HM.e_stV {M M1 : Mem} (h : HM M M1) : stV M1 = stV M := by
  funext m w but; have e := h.e_prof m w but; unfold stV; rw [e.1, e.2.1, e.2.2.1, e.2.2.2.1, e.2.2.2.2]
theorem HM.e_lowV {M M1 : Mem} (h : HM M M1) : lowV M1 = lowV M := by
  funext m w but; have e := h.e_prof m w but; unfold lowV; rw [e.1, e.2.1, e.2.2.1, e.2.2.2.1, e.2.2.2.2]
theorem HM.e_upV {M M1 : Mem} (h : HM M M1) : upV M1 = upV M := by
  funext m w but; have e := h.e_prof m w but; unfold upV; rw [e.1, e.2.1, e.2.2.1, e.2.2.2.1, e.2.2.2.2]
theorem HM.e_wrS {M M1 : Mem} (h : HM M M1) : wrS M1 = wrS M := by
  funext m n
  unfold wrS
  rw [h.e_nY, h.e_dN]
def hf (h : Int) (f : Int → Int) : Nat → Int
  | 0 => h
  | n + 1 => 31 * hf h f n + f n
theorem hf_s (h : Int) (f : Int → Int) {i : Int} (hi : 0 ≤ i) : hf h f (i + 1).toNat = 31 * hf h f i.toNat + f i := by
  rw [show (i + 1).toNat = i.toNat + 1 by omega, hf, Int.toNat_of_nonneg hi]
theorem h_put {M M1 M2 : Mem} {x v y : Int} (h1 : M1 = mu M 114 54 x) (h2 : M2 = mu M1 114 54 (31 * M1 114 54 + v)) (hy : y = 31 * x + v) : M2 = mu M 114 54 y := by
  rw [h2, h1, hy, mu_same]
  funext o k
  simp only [mu]
  by_cases c : o = 114 ∧ k = 54
  · rw [if_pos c, if_pos c]
  · rw [if_neg c, if_neg c, if_neg c]
theorem LK_h {M : Mem} (h : LK M) (x : Int) : LK (mu M 114 54 x) := by
  have e29 : mu M 114 54 x 114 29 = M 114 29 := by simp [mu]
  have r127 : mu M 114 54 x 127 = M 127 := mu_o _ _ _ (by decide)
  have r128 : mu M 114 54 x 128 = M 128 := mu_o _ _ _ (by decide)
  have r129 : mu M 114 54 x 129 = M 129 := mu_o _ _ _ (by decide)
  have r130 : mu M 114 54 x 130 = M 130 := mu_o _ _ _ (by decide)
  unfold LK
  rw [e29, r127, r128, r129, r130]
  exact h
theorem up_h (M : Mem) (x : Int) : upM (mu M 114 54 x) = upM M ∧ lowM (mu M 114 54 x) = lowM M := by
  have e29 : mu M 114 54 x 114 29 = M 114 29 := by simp [mu]
  have r127 : mu M 114 54 x 127 = M 127 := mu_o _ _ _ (by decide)
  have r128 : mu M 114 54 x 128 = M 128 := mu_o _ _ _ (by decide)
  have r129 : mu M 114 54 x 129 = M 129 := mu_o _ _ _ (by decide)
  unfold upM lowM
  rw [e29, r127, r128, r129]
  exact ⟨rfl, rfl⟩
theorem OT.h54 {M M1 : Mem} (h : OT M M1) : M1 114 54 = M 114 54 := h.fld (by omega)
noncomputable def nrO (M : Mem) (q w : Int) : Int := if M 124 (6 * q) = 3 then -1 else b2i (nrS M (M 124 (6 * q)) (M 124 (6 * q + 2)) w)
theorem nrO_rng (M : Mem) (q w : Int) : -1 ≤ nrO M q w ∧ nrO M q w ≤ 1 := by
  have := b2i_01 (nrS M (M 124 (6 * q)) (M 124 (6 * q + 2)) w)
  unfold nrO; split <;> omega
theorem hf_0 (h : Int) (f : Int → Int) : hf h f (0 : Int).toNat = h := rfl
theorem mu_id (M : Mem) (o k : Int) : mu M o k (M o k) = M := by
  funext o' k'
  simp only [mu]
  by_cases c : o' = o ∧ k' = k
  · rw [if_pos c, c.1, c.2]
  · rw [if_neg c]
theorem row_rng {M : Mem} (hW : WV M) {p i : Int} (h0 : 0 ≤ p) (h1 : p < M 114 23) (i0 : 0 ≤ i) (i1 : i < 6) : i32 (M 124 (6 * p + i)) := by
  have w := hW.row h0 h1
  have wl := hW.lam
  have wp := hW.pig
  have g0 : 0 ≤ M 124 (6 * p + 0) ∧ M 124 (6 * p + 0) ≤ 4 := by rw [Int.add_zero]; exact w.1
  rcases (by omega : i = 0 ∨ i = 1 ∨ i = 2 ∨ i = 3 ∨ i = 4 ∨ i = 5) with rfl | rfl | rfl | rfl | rfl | rfl <;> exact ⟨by omega, by omega⟩
noncomputable def spA (M : Mem) (p h : Int) : Int := hf h (fun i => M 124 (6 * p + i)) (6 : Int).toNat
noncomputable def spB (M : Mem) (p h : Int) : Int := 31 * hf (spA M p h) (fun c => rgt M p c) (12 : Int).toNat + nrO M p 2
noncomputable def spH (M : Mem) (p h : Int) : Int := hf (spB M p h) (fun m => vlu M m p) (M 114 15).toNat
noncomputable def smH (M : Mem) (m h : Int) : Int := 31 * (31 * (31 * h + stV M m 2 (-1)) + trmS (upV M m 2 (-1)) (lowV M m 2 (-1)) 0) + trmS (upV M m 2 (-1)) (lowV M m 2 (-1)) 1

