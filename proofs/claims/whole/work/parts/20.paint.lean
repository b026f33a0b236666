/-! Painting. -/
theorem one_step (M : Mem) (hand s : Int) {pt : Int} (h0 : 0 ≤ pt) (h1 : pt < 4) (o j : Int) : oneL M hand s (pt + 1) o j =
    (if o = 114 ∧ j = 28 then nxS (nxS (nxS (sd s (2 + 3 * pt).toNat))) else if o = 125 ∧ j = 12 * M 114 23 + 3 * pt + 2 then drw (nxS (nxS (nxS (sd s (2 + 3 * pt).toNat)))) 60 else if o = 125 ∧ j = 12 * M 114 23 + 3 * pt + 1 then 20 + drw (nxS (nxS (sd s (2 + 3 * pt).toNat))) 40 else if o = 125 ∧ j = 12 * M 114 23 + 3 * pt then 20 + drw (nxS (sd s (2 + 3 * pt).toNat)) 40 + glwS M s else oneL M hand s pt o j) := by
  have e1 : sd s (3 + 3 * pt).toNat = nxS (sd s (2 + 3 * pt).toNat) := by
    rw [show (3 + 3 * pt).toNat = (2 + 3 * pt).toNat + 1 by omega, sd_s]
  have e2 : sd s (3 + (3 * pt + 1)).toNat = nxS (nxS (sd s (2 + 3 * pt).toNat)) := by
    rw [← e1, show (3 + (3 * pt + 1)).toNat = (3 + 3 * pt).toNat + 1 by omega, sd_s]
  have e3 : sd s (3 + (3 * pt + 2)).toNat = nxS (nxS (nxS (sd s (2 + 3 * pt).toNat))) := by
    rw [← e2, show (3 + (3 * pt + 2)).toNat = (3 + (3 * pt + 1)).toNat + 1 by omega, sd_s]
  have e4 : sd s (2 + 3 * (pt + 1)).toNat = nxS (nxS (nxS (sd s (2 + 3 * pt).toNat))) := by
    rw [← e3]; congr 1; omega
  have p1 : pcol s (glwS M s) (3 * pt) = 20 + drw (nxS (sd s (2 + 3 * pt).toNat)) 40 + glwS M s := by
    unfold pcol; rw [if_pos (by omega), e1]
  have p2 : pcol s (glwS M s) (3 * pt + 1) = 20 + drw (nxS (nxS (sd s (2 + 3 * pt).toNat))) 40 := by
    unfold pcol; rw [if_neg (by omega), if_pos (by omega), e2]
  have p3 : pcol s (glwS M s) (3 * pt + 2) = drw (nxS (nxS (nxS (sd s (2 + 3 * pt).toNat)))) 60 := by
    unfold pcol; rw [if_neg (by omega), if_neg (by omega), e3]
  unfold oneL
  by_cases a : o = 114 ∧ j = 28
  · rw [if_pos a, if_neg (by omega), if_pos a, e4]
  · rw [if_neg a, if_neg a, if_neg a]
    by_cases b : o = 125 ∧ j = 12 * M 114 23 + 3 * pt + 2
    · rw [if_pos b, if_pos (by omega), show j - 12 * M 114 23 = 3 * pt + 2 by omega, p3]
    · rw [if_neg b]
      by_cases c : o = 125 ∧ j = 12 * M 114 23 + 3 * pt + 1
      · rw [if_pos c, if_pos (by omega), show j - 12 * M 114 23 = 3 * pt + 1 by omega, p2]
      · rw [if_neg c]
        by_cases d : o = 125 ∧ j = 12 * M 114 23 + 3 * pt
        · rw [if_pos d, if_pos (by omega), show j - 12 * M 114 23 = 3 * pt by omega, p1]
        · rw [if_neg d]
          by_cases f : o = 125 ∧ 12 * M 114 23 ≤ j ∧ j < 12 * M 114 23 + 3 * pt
          · rw [if_pos f, if_pos (by omega)]
          · rw [if_neg f, if_neg (by omega)]
theorem one_fld (M : Mem) (hand s k : Int) {j : Int} (h1 : j ≠ 23) (h2 : j ≠ 28) : oneL M hand s k 114 j = M 114 j := by simp [oneL, addM, addL, mu, h1, h2]
theorem one_23 (M : Mem) (hand s k : Int) : oneL M hand s k 114 23 = M 114 23 + 1 := by simp [oneL, addM, mu]
theorem one_28 (M : Mem) (hand s k : Int) : oneL M hand s k 114 28 = sd s (2 + 3 * k).toNat := by simp [oneL]
theorem one_row (M : Mem) (hand s k : Int) {o : Int} (h1 : o ≠ 114) (h2 : o ≠ 124) (h3 : o ≠ 125) : oneL M hand s k o = M o := by funext j; simp [oneL, addM, addL, mu, h1, h2, h3]
theorem pcol_rng {s glow c : Int} (h : glow = 0 ∨ glow = 15) : 0 ≤ pcol s glow c ∧ pcol s glow c ≤ 99 := by
  unfold pcol
  have a := drw_rng (s := sd s (3 + c).toNat) (d := 40) (by omega)
  have b := drw_rng (s := sd s (3 + c).toNat) (d := 60) (by omega)
  split
  · omega
  · split <;> omega
theorem glw_01 (M : Mem) (s : Int) : glwS M s = 0 ∨ glwS M s = 15 := by unfold glwS; split <;> simp
theorem one_WV {M : Mem} (hW : WV M) {hand : Int} (hh : 0 ≤ hand ∧ hand ≤ 4) (hn : M 114 23 < 16) (s : Int) : WV (oneL M hand s 4) := by
  have w2 := hW.n
  have hs := hW.2
  unfold WPic WSh at hs
  obtain ⟨-, -, -, s4, s5, s6, s7⟩ := hs
  refine ⟨?_, ?_⟩
  · have h := hW.1
    unfold WTab at h ⊢
    rw [one_fld _ _ _ _ (by decide) (by decide), one_fld _ _ _ _ (by decide) (by decide), one_fld _ _ _ _ (by decide) (by decide), one_fld _ _ _ _ (by decide) (by decide), one_fld _ _ _ _ (by decide) (by decide), one_row _ _ _ _ (by decide) (by decide) (by decide), one_row _ _ _ _ (by decide) (by decide) (by decide), one_row _ _ _ _ (by decide) (by decide) (by decide), one_row _ _ _ _ (by decide) (by decide) (by decide), one_row _ _ _ _ (by decide) (by decide) (by decide)]
    exact h
  · unfold WPic WSh
    rw [one_23, one_fld _ _ _ _ (j := 13) (by decide) (by decide), one_fld _ _ _ _ (j := 20) (by decide) (by decide), one_fld _ _ _ _ (j := 26) (by decide) (by decide), one_fld _ _ _ _ (j := 40) (by decide) (by decide), one_row _ _ _ _ (o := 126) (by decide) (by decide) (by decide), one_row _ _ _ _ (o := 134) (by decide) (by decide) (by decide), one_row _ _ _ _ (o := 135) (by decide) (by decide) (by decide)]
    have a1 := drw_rng (s := sd s 1) (d := 401) (by omega)
    have a2 := drw_rng (s := sd s 2) (d := 4) (by omega)
    have wl := hW.lam
    have wp := hW.pig
    refine ⟨by omega, by omega, by omega, fun p h0 h1 => ?_, fun p c h0 h1 h2 h3 => ?_, s6, s7⟩
    · by_cases e : p < M 114 23
      · have q : ∀ i : Int, 0 ≤ i → i < 6 → oneL M hand s 4 124 (6 * p + i) = M 124 (6 * p + i) := fun i i0 i1 => by
          simp only [oneL, addM, addL, mu]
          rw [if_neg (by omega), if_neg (by omega), if_neg (by omega), if_neg (by omega), if_neg (by omega)]
        have q0 := q 0 (by omega) (by omega)
        rw [Int.add_zero] at q0
        rw [q0, q 1 (by omega) (by omega), q 2 (by omega) (by omega), q 3 (by omega) (by omega), q 4 (by omega) (by omega), q 5 (by omega) (by omega)]
        exact s4 p h0 e
      · have e2 : p = M 114 23 := by omega
        have q : ∀ i : Int, 0 ≤ i → i < 6 → oneL M hand s 4 124 (6 * p + i) = (if i = 0 then 0 else if i = 1 then hand else if i = 2 then drw (sd s 1) 401 else if i = 3 then drw (sd s 2) 4 else -1) := fun i i0 i1 => by
          subst e2
          simp only [oneL, addM, addL, mu]
          have c4 : True ∧ 6 * M 114 23 ≤ 6 * M 114 23 + i ∧ 6 * M 114 23 + i < 6 * M 114 23 + 6 := ⟨trivial, by omega, by omega⟩
          rw [if_neg (by omega), if_neg (by omega), if_neg (by omega), if_pos c4]
          grind
        have q0 := q 0 (by omega) (by omega)
        rw [Int.add_zero] at q0
        rw [q0, q 1 (by omega) (by omega), q 2 (by omega) (by omega), q 3 (by omega) (by omega), q 4 (by omega) (by omega), q 5 (by omega) (by omega)]
        simp
        omega
    · by_cases e : p < M 114 23
      · have q : oneL M hand s 4 125 (12 * p + c) = M 125 (12 * p + c) := by
          simp only [oneL, addM, addL, mu]
          rw [if_neg (by omega), if_neg (by omega), if_neg (by omega), if_neg (by omega), if_neg (by omega)]
        rw [q]; exact s5 p c h0 e h2 h3
      · have q : oneL M hand s 4 125 (12 * p + c) = pcol s (glwS M s) (12 * p + c - 12 * M 114 23) := by
          have c4 : True ∧ 12 * M 114 23 ≤ 12 * p + c ∧ 12 * p + c < 12 * M 114 23 + 3 * 4 := ⟨trivial, by omega, by omega⟩
          simp only [oneL]
          rw [if_pos c4]
        rw [q]
        exact pcol_rng (glw_01 M s)
theorem paint_0 {M1 : Mem} {hand : Int} :
    addM (mu (mu M1 114 28 (nxS (M1 114 28))) 114 28 (nxS (nxS (M1 114 28)))) 0 hand (drw (nxS (M1 114 28)) 401) (drw (nxS (nxS (M1 114 28))) 4) (-1) (-1) = oneL M1 hand (M1 114 28) 0 := by
  have e1 : sd (M1 114 28) 1 = nxS (M1 114 28) := rfl
  have e2 : sd (M1 114 28) 2 = nxS (nxS (M1 114 28)) := rfl
  have e3 : sd (M1 114 28) (2 + 3 * (0 : Int)).toNat = nxS (nxS (M1 114 28)) := rfl
  funext o j
  simp only [oneL, addM, addL, mu, e1, e2, e3]
  grind
theorem paint_s {M1 M2 : Mem} {hand g pt : Int} (hp : 0 ≤ pt) (hp2 : pt < 4) (hM : M2 = oneL M1 hand (M1 114 28) pt) (hg : glwS M1 (M1 114 28) = g) :
    mu (mu (mu (mu (mu (mu M2 114 28 (nxS (M2 114 28))) 125 (12 * (M2 114 23 - 1) + 3 * pt) (20 + drw (nxS (M2 114 28)) 40 + g)) 114 28 (nxS (nxS (M2 114 28)))) 125 (12 * (M2 114 23 - 1) + 3 * pt + 1) (20 + drw (nxS (nxS (M2 114 28))) 40)) 114 28 (nxS (nxS (nxS (M2 114 28))))) 125 (12 * (M2 114 23 - 1) + 3 * pt + 2) (drw (nxS (nxS (nxS (M2 114 28)))) 60) = oneL M1 hand (M1 114 28) (pt + 1) := by
  have h23 : M2 114 23 = M1 114 23 + 1 := by rw [hM, one_23]
  have h28 : M2 114 28 = sd (M1 114 28) (2 + 3 * pt).toNat := by rw [hM, one_28]
  have e : 12 * (M1 114 23 + 1 - 1) + 3 * pt = 12 * M1 114 23 + 3 * pt := by omega
  funext o j
  rw [one_step M1 hand (M1 114 28) hp hp2 o j, hg, h28, h23, e]
  simp only [mu]
  have hM' : M2 o j = oneL M1 hand (M1 114 28) pt o j := by rw [hM]
  rw [hM']
  grind
theorem paint_end {M M1 : Mem} {hand k much : Int} (hk : 0 ≤ k) (hk2 : k ≤ much) (hM : M1 = pnt M hand k.toNat) (h : k = much ∨ 16 ≤ M1 114 23) : M1 = pnt M hand much.toNat := by
  rcases h with rfl | h
  · exact hM
  · have key : ∀ n : Nat, pnt M hand (k.toNat + n) = M1 := by
      intro n
      induction n with
      | zero => exact hM.symm
      | succ n ih => rw [show k.toNat + (n + 1) = (k.toNat + n) + 1 from rfl, pnt, ih, if_neg (by omega)]
    rw [← key (much.toNat - k.toNat)]
    congr 1
    omega

