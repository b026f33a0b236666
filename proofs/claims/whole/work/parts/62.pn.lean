/-! Painting, class beside reference. -/
def SHr (M R : Mem) : Prop := RSh M 24 26 43 59 60 61 (R 114 23) (R 114 26) (R 114 40) (R 124) (R 125) (R 126) (R 134) (R 135)
def FP6 (M M1 : Mem) : Prop := ∀ o j : Int, ¬ ((26 ≤ o ∧ o ≤ 58) ∨ (o = 24 ∧ j = 5) ∨ o = 113) → M1 o j = M o j
theorem FP6.rf (M : Mem) : FP6 M M := fun _ _ _ => rfl
theorem FP6.tr {M M1 M2 : Mem} (h : FP6 M M1) (h2 : FP6 M1 M2) : FP6 M M2 := fun o j n => (h2 o j n).trans (h o j n)
theorem FP6.row {M M1 : Mem} (h : FP6 M M1) {o : Int} (ho : ¬ (26 ≤ o ∧ o ≤ 58) ∧ o ≠ 24 ∧ o ≠ 113) : M1 o = M o := by funext j; exact h o j (by omega)
theorem FP6.sd {M M1 : Mem} (h : FP6 M M1) (v : Int) : FP6 M (mu M1 113 0 v) := fun o j n => by
  rw [mu_o M1 _ _ (by omega)]; exact h o j n
theorem FP6.one {M : Mem} (hand k : Int) (hn : 0 ≤ M 24 5 ∧ M 24 5 < 16) : FP6 M (oneX M hand k) := fun o j n => by
  unfold oneX hgX
  rw [if_neg (by omega), if_neg (by omega), if_neg (by omega), if_neg (by omega), if_neg (by omega)]
theorem pnt_row (M : Mem) (hand : Int) {o : Int} (h1 : o ≠ 114) (h2 : o ≠ 124) (h3 : o ≠ 125) : ∀ k : Nat, pnt M hand k o = M o
  | 0 => rfl
  | k + 1 => by
    have ih := pnt_row M hand h1 h2 h3 k
    rw [pnt]
    split
    · unfold oneS; rw [one_row _ _ _ _ h1 h2 h3, ih]
    · exact ih
theorem pnt_fld (M : Mem) (hand : Int) {j : Int} (h1 : j ≠ 23) (h2 : j ≠ 28) : ∀ k : Nat, pnt M hand k 114 j = M 114 j
  | 0 => rfl
  | k + 1 => by
    have ih := pnt_fld M hand h1 h2 k
    rw [pnt]
    split
    · unfold oneS; rw [one_fld _ _ _ _ h1 h2, ih]
    · exact ih
theorem glw_e {M R : Mem} (h1 : M 126 = R 126) (h2 : M 114 26 = R 114 26) (s : Int) : glwS M s = glwS R s := by
  have e : nrS M 0 (drw (sd s 1) 401) 3 = nrS R 0 (drw (sd s 1) 401) 3 := by
    unfold nrS nrK
    rw [h1, h2]
  unfold glwS
  rw [e]
theorem pn_s {M R : Mem} {hand : Int} (hS : SHr M R) (hn : 0 ≤ R 114 23 ∧ R 114 23 < 16) (hs : M 113 0 = R 114 28) (hg : glwS M (M 113 0) = glwS R (R 114 28)) : SHr (oneX M hand 4) (oneS R hand) ∧ oneX M hand 4 113 0 = oneS R hand 114 28 := by
  obtain ⟨⟨h1, h2, h3⟩, h4, h5, h6, h7⟩ := hS
  rw [hs] at hg
  have x : ∀ o j, oneX M hand 4 o j = if o = 43 + R 114 23 ∧ 0 ≤ j ∧ j < 12 then pcol (R 114 28) (glwS R (R 114 28)) j else if o = 113 ∧ j = 0 then sd (R 114 28) 14 else if o = 26 + R 114 23 ∧ 0 ≤ j ∧ j < 6 then (if j = 0 then 0 else if j = 1 then hand else if j = 2 then drw (sd (R 114 28) 1) 401 else if j = 3 then drw (sd (R 114 28) 2) 4 else -1) else if o = 24 ∧ j = 5 then R 114 23 + 1 else M o j := fun o j => by
    unfold oneX hgX
    rw [hs, hg, h1, show (2 + 3 * (4 : Int)).toNat = 14 from rfl]
    by_cases a : o = 43 + R 114 23 ∧ 0 ≤ j ∧ j < 12
    · rw [if_pos (show o = 43 + R 114 23 ∧ 0 ≤ j ∧ j < 3 * 4 by omega), if_pos a]
    · rw [if_neg (show ¬ (o = 43 + R 114 23 ∧ 0 ≤ j ∧ j < 3 * 4) by omega)]
      simp only [if_neg a]
      by_cases b : o = 113 ∧ j = 0
      · simp only [if_pos b]
      · simp only [if_neg b]
        by_cases d : o = 26 + R 114 23 ∧ 0 ≤ j ∧ j < 6
        · simp only [if_pos d]
          simp
        · simp only [if_neg d]
  have y4 : ∀ j, oneS R hand 124 j = if 6 * R 114 23 ≤ j ∧ j < 6 * R 114 23 + 6 then (if j = 6 * R 114 23 then 0 else if j = 6 * R 114 23 + 1 then hand else if j = 6 * R 114 23 + 2 then drw (sd (R 114 28) 1) 401 else if j = 6 * R 114 23 + 3 then drw (sd (R 114 28) 2) 4 else -1) else R 124 j := fun j => by
    simp [oneS, oneL, addM, addL, mu]
  have y5 : ∀ j, oneS R hand 125 j = if 12 * R 114 23 ≤ j ∧ j < 12 * R 114 23 + 12 then pcol (R 114 28) (glwS R (R 114 28)) (j - 12 * R 114 23) else R 125 j := fun j => by
    unfold oneS oneL addM addL mu
    grind
  have y23 : oneS R hand 114 23 = R 114 23 + 1 := one_23 _ _ _ _
  have y28 : oneS R hand 114 28 = sd (R 114 28) 14 := one_28 _ _ _ _
  refine ⟨⟨⟨?_, ?_, ?_⟩, fun p c p0 p1 c0 c1 => ?_, fun p c p0 p1 c0 c1 => ?_, fun i i0 i1 => ?_, fun y a b => ?_⟩, ?_⟩
  · rw [x, y23, if_neg (by omega), if_neg (by omega), if_neg (by omega), if_pos ⟨rfl, rfl⟩]
  · rw [x, if_neg (by omega), if_neg (by omega), if_neg (by omega), if_neg (by omega), h2]; exact (one_fld _ _ _ _ (by decide) (by decide)).symm
  · rw [x, if_neg (by omega), if_neg (by omega), if_neg (by omega), if_neg (by omega), h3]; exact (one_fld _ _ _ _ (by decide) (by decide)).symm
  · rw [y23] at p1
    rw [x, y4, if_neg (by omega), if_neg (by omega)]
    by_cases e : p = R 114 23
    · rw [if_pos (show 26 + p = 26 + R 114 23 ∧ 0 ≤ c ∧ c < 6 by omega), if_pos (show 6 * R 114 23 ≤ 6 * p + c ∧ 6 * p + c < 6 * R 114 23 + 6 by omega)]
      clear x y4 y5 h4 h5 h6 h7
      grind
    · rw [if_neg (by omega), if_neg (by omega), if_neg (show ¬ (6 * R 114 23 ≤ 6 * p + c ∧ 6 * p + c < 6 * R 114 23 + 6) by omega)]
      exact h4 p c p0 (by omega) c0 c1
  · rw [y23] at p1
    rw [x, y5]
    by_cases e : p = R 114 23
    · rw [if_pos (by omega), if_pos (by omega), show 12 * p + c - 12 * R 114 23 = c by omega]
    · rw [if_neg (by omega), if_neg (by omega), if_neg (by omega), if_neg (by omega), if_neg (by omega)]
      exact h5 p c p0 (by omega) c0 c1
  · rw [x, if_neg (by omega), if_neg (by omega), if_neg (by omega), if_neg (by omega)]
    have e : oneS R hand 126 = R 126 := one_row _ _ _ _ (by decide) (by decide) (by decide)
    rw [e]; exact h6 i i0 i1
  · rw [x, x, if_neg (by omega), if_neg (by omega), if_neg (by omega), if_neg (by omega), if_neg (by omega), if_neg (by omega), if_neg (by omega), if_neg (by omega)]
    have e : oneS R hand 134 = R 134 := one_row _ _ _ _ (by decide) (by decide) (by decide)
    have e2 : oneS R hand 135 = R 135 := one_row _ _ _ _ (by decide) (by decide) (by decide)
    rw [e, e2]; exact h7 y a b
  · rw [x, y28, if_neg (by omega), if_pos ⟨rfl, rfl⟩]
theorem toN_s {k : Int} (h : 0 ≤ k) : (k + 1).toNat = k.toNat + 1 := by omega
/-- all that a run of painting keeps -/
def PN (M M1 : Mem) (hand seed : Int) (k : Nat) : Prop := FP6 M M1 ∧ SHr M1 (pnt (mu M 114 28 seed) hand k) ∧ WV (pnt (mu M 114 28 seed) hand k) ∧ (0 ≤ M1 113 0 ∧ M1 113 0 < 2147483648) ∧ ((pnt (mu M 114 28 seed) hand k) 114 23 < 16 → M1 113 0 = (pnt (mu M 114 28 seed) hand k) 114 28)
theorem sd_rg {s : Int} (h : 0 ≤ s ∧ s < 2147483648) (n : Nat) : 0 ≤ sd s n ∧ sd s n < 2147483648 := sd_rng h n
theorem PN.go {M M1 M2 : Mem} {hand seed : Int} {k : Nat} (hh : 0 ≤ hand ∧ hand ≤ 4) (h : PN M M1 hand seed k) (h2 : (M1 24 5 < 16 → M2 = oneX M1 hand 4) ∧ (¬ M1 24 5 < 16 → ∃ s2, (0 ≤ s2 ∧ s2 < 2147483648) ∧ M2 = mu M1 113 0 s2)) : PN M M2 hand seed (k + 1) := by
  obtain ⟨h1, hS, hW, hs, he⟩ := h
  have hn := hW.n
  have e5 : M1 24 5 = (pnt (mu M 114 28 seed) hand k) 114 23 := hS.1.1
  unfold PN
  rw [pnt]
  by_cases c : M1 24 5 < 16
  · rw [h2.1 c, if_pos (by omega)]
    have hse := he (by omega)
    have g : glwS M1 (M1 113 0) = glwS (pnt (mu M 114 28 seed) hand k) ((pnt (mu M 114 28 seed) hand k) 114 28) := by
      rw [hse]
      refine glw_e ?_ ?_ _
      · rw [h1.row (by omega), pnt_row _ _ (by decide) (by decide) (by decide), mu_o M _ _ (by decide)]
      · rw [h1 114 26 (by omega), pnt_fld _ _ (by decide) (by decide), mu_k M _ _ (by decide)]
    have z := pn_s (hand := hand) hS ⟨by omega, by omega⟩ hse g
    refine ⟨h1.tr (FP6.one hand 4 (by omega)), z.1, one_WV hW hh (by omega) _, ?_, fun _ => z.2⟩
    have e : oneX M1 hand 4 113 0 = sd (M1 113 0) 14 := by unfold oneX; rw [if_neg (by omega), if_pos ⟨rfl, rfl⟩]; rfl
    rw [e]; exact sd_rng hs 14
  · obtain ⟨s2, hs2, e2⟩ := h2.2 c
    rw [if_neg (by omega), e2]
    refine ⟨h1.sd s2, ?_, hW, by rw [mu_same]; exact hs2, fun q => by omega⟩
    obtain ⟨⟨a1, a2, a3⟩, a4, a5, a6, a7⟩ := hS
    have r : ∀ o, o ≠ 113 → mu M1 113 0 s2 o = M1 o := fun o ho => mu_o M1 _ _ ho
    refine ⟨⟨by rw [r _ (by decide)]; exact a1, by rw [r _ (by decide)]; exact a2, by rw [r _ (by decide)]; exact a3⟩, fun p c p0 p1 c0 c1 => by rw [r _ (by omega)]; exact a4 p c p0 p1 c0 c1, fun p c p0 p1 c0 c1 => by rw [r _ (by omega)]; exact a5 p c p0 p1 c0 c1, fun i i0 i1 => by rw [r _ (by decide)]; exact a6 i i0 i1, fun y a b => by rw [r _ (by decide), r _ (by decide)]; exact a7 y a b⟩
theorem PN.beg {M : Mem} {hand seed : Int} (hW : WV M) (hS : IS M) (hs : 0 ≤ seed ∧ seed < 2147483648) : PN M (mu M 113 0 seed) hand seed 0 := by
  have r : ∀ o, o ≠ 113 → mu M 113 0 seed o = M o := fun o ho => mu_o M _ _ ho
  have q : ∀ o, o ≠ 114 → mu M 114 28 seed o = M o := fun o ho => mu_o M _ _ ho
  have q4 : ∀ j, j ≠ 28 → mu M 114 28 seed 114 j = M 114 j := fun j hj => mu_k M _ _ hj
  obtain ⟨⟨a1, a2, a3⟩, a4, a5, a6, a7⟩ := hS
  refine ⟨(FP6.rf M).sd seed, ?_, SM.WV ((SM.rfl' M).mu _ (by unfold scrM; omega)) hW, by rw [mu_same]; exact hs, fun _ => by rw [mu_same]; exact (mu_same M 114 28 seed).symm⟩
  show RSh (mu M 113 0 seed) 24 26 43 59 60 61 (mu M 114 28 seed 114 23) (mu M 114 28 seed 114 26) (mu M 114 28 seed 114 40) (mu M 114 28 seed 124) (mu M 114 28 seed 125) (mu M 114 28 seed 126) (mu M 114 28 seed 134) (mu M 114 28 seed 135)
  rw [q 124 (by decide), q 125 (by decide), q 126 (by decide), q 134 (by decide), q 135 (by decide), q4 23 (by decide), q4 26 (by decide), q4 40 (by decide)]
  exact ⟨⟨by rw [r _ (by decide)]; exact a1, by rw [r _ (by decide)]; exact a2, by rw [r _ (by decide)]; exact a3⟩, fun p c p0 p1 c0 c1 => by rw [r _ (by have := hW.n; omega)]; exact a4 p c p0 p1 c0 c1, fun p c p0 p1 c0 c1 => by rw [r _ (by have := hW.n; omega)]; exact a5 p c p0 p1 c0 c1, fun i i0 i1 => by rw [r _ (by decide)]; exact a6 i i0 i1, fun y a b => by rw [r _ (by decide), r _ (by decide)]; exact a7 y a b⟩

