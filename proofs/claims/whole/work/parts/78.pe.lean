/-! The same profile over sixteen slots. -/
theorem sm_cut {f g : Int → Int} {n : Nat} (h : ∀ p : Int, 0 ≤ p → p < n → f p = g p) : ∀ k : Nat, (∀ p : Int, (n : Int) ≤ p → p < ((n + k : Nat) : Int) → f p = 0) → sm f (n + k) = sm g n
  | 0, _ => sm_congr h
  | k + 1, z => by
    show sm f (n + k) + f ((n + k : Nat) : Int) = _
    rw [sm_cut h k (fun p a b => z p a (by omega)), z _ (by omega) (by omega), Int.add_zero]
theorem sm16 {f g : Int → Int} {n : Nat} (hn : n ≤ 16) (h : ∀ p : Int, 0 ≤ p → p < n → f p = g p) (z : ∀ p : Int, (n : Int) ≤ p → p < 16 → f p = 0) : sm f 16 = sm g n := by
  have e := sm_cut h (16 - n) (fun p a b => z p a (by omega))
  rw [show n + (16 - n) = 16 by omega] at e
  exact e
theorem FP_cg {n : Nat} {mb hd a mb' hd' a' d d' : Int → Int} {g : Int} (hd0 : ∀ s, d' s = d s) (h : ∀ p : Int, 0 ≤ p → p < n → (((mb' p = 1 ∧ hd' p = g) ↔ (mb p = 1 ∧ hd p = g)) ∧ (mb p = 1 → a' p = a p))) : ∀ i : Nat, i ≤ n → ∀ k s, FP mb' hd' a' g d' i k s = FP mb hd a g d i k s
  | 0, _, k, s => by rw [FP, FP, hd0]
  | i + 1, hi, k, s => by
    have e := h i (by omega) (by omega)
    rw [FP, FP, FP_cg hd0 h i (by omega) k s]
    by_cases c : mb i = 1 ∧ hd i = g
    · rw [if_pos c, if_pos (e.1.mpr c), e.2 c.1, FP_cg hd0 h i (by omega) (k - 1) _]
    · rw [if_neg c, if_neg (fun q => c (e.1.mp q))]
theorem FP_more {n : Nat} {mb hd a d : Int → Int} {g : Int} : ∀ j : Nat, (∀ p : Int, (n : Int) ≤ p → p < ((n + j : Nat) : Int) → mb p ≠ 1) → ∀ k s, FP mb hd a g d (n + j) k s = FP mb hd a g d n k s
  | 0, _, _, _ => rfl
  | j + 1, h, k, s => by
    show FP mb hd a g d ((n + j) + 1) k s = _
    rw [FP, if_neg (fun q => h _ (by omega) (by omega) q.1)]
    exact FP_more j (fun p a b => h p a (by omega)) k s
def PE (n : Nat) (mb hd vl nr mb' hd' vl' nr' : Int → Int) : Prop := n ≤ 16 ∧ (∀ p : Int, 0 ≤ p → p < n → (mb' p = 1 ↔ mb p = 1) ∧ (mb p = 1 → hd' p = hd p ∧ vl' p = vl p ∧ (nr' p = 1 ↔ nr p = 1))) ∧ ∀ p : Int, (n : Int) ≤ p → p < 16 → mb' p ≠ 1
section
variable {n : Nat} {mb hd vl nr mb' hd' vl' nr' : Int → Int}
theorem PE.g (h : PE n mb hd vl nr mb' hd' vl' nr') (g : Int) {p : Int} (h0 : 0 ≤ p) (h1 : p < n) : (mb' p = 1 ∧ hd' p = g) ↔ (mb p = 1 ∧ hd p = g) := by
  have e := h.2.1 p h0 h1
  constructor
  · intro q
    have m := e.1.mp q.1
    exact ⟨m, by rw [← (e.2 m).1]; exact q.2⟩
  · intro q
    exact ⟨e.1.mpr q.1, by rw [(e.2 q.1).1]; exact q.2⟩
theorem PE.gn (h : PE n mb hd vl nr mb' hd' vl' nr') (g : Int) {p : Int} (h0 : 0 ≤ p) (h1 : p < n) : (mb' p = 1 ∧ hd' p = g ∧ nr' p = 1) ↔ (mb p = 1 ∧ hd p = g ∧ nr p = 1) := by
  have e := h.2.1 p h0 h1
  constructor
  · intro q
    have m := e.1.mp q.1
    exact ⟨m, by rw [← (e.2 m).1]; exact q.2.1, (e.2 m).2.2.mp q.2.2⟩
  · intro q
    exact ⟨e.1.mpr q.1, by rw [(e.2 q.1).1]; exact q.2.1, (e.2 q.1).2.2.mpr q.2.2⟩
theorem PE.ag (h : PE n mb hd vl nr mb' hd' vl' nr') {i : Int} (h0 : 0 ≤ i) (h1 : i < n) (hm : mb i = 1) : agP 16 mb' hd' vl' i = agP n mb hd vl i := by
  have ei := (h.2.1 i h0 h1).2 hm
  refine sm16 h.1 (fun j a b => ?_) (fun j a b => if_neg (fun q => h.2.2 j a b q.1))
  show (if mb' j = 1 ∧ hd' j = hd' i then sgn (vl' i - vl' j) else 0) = _
  have g := h.g (hd i) a b
  rw [ei.1, ei.2.1]
  by_cases c : mb j = 1 ∧ hd j = hd i
  · rw [if_pos c, if_pos (g.mpr c), ((h.2.1 j a b).2 c.1).2.1]
  · rw [if_neg c, if_neg (fun q => c (g.mp q))]
theorem PE.st (h : PE n mb hd vl nr mb' hd' vl' nr') : stP 16 mb' hd' vl' nr' = stP n mb hd vl nr := by
  refine sm16 h.1 (fun j a b => ?_) (fun j a b => if_neg (fun q => h.2.2 j a b q.1))
  show (if mb' j = 1 ∧ nr' j = 1 then agP 16 mb' hd' vl' j else 0) = _
  have e := h.2.1 j a b
  by_cases c : mb j = 1 ∧ nr j = 1
  · rw [if_pos c, if_pos ⟨e.1.mpr c.1, (e.2 c.1).2.2.mpr c.2⟩, h.ag a b c.1]
  · rw [if_neg c, if_neg (fun q => c ⟨e.1.mp q.1, (e.2 (e.1.mp q.1)).2.2.mp q.2⟩)]
theorem PE.k (h : PE n mb hd vl nr mb' hd' vl' nr') (g : Int) : kP mb' hd' nr' g 16 = kP mb hd nr g n := by
  refine sm16 h.1 (fun j a b => ?_) (fun j a b => if_neg (fun q => h.2.2 j a b q.1))
  show (if mb' j = 1 ∧ hd' j = g ∧ nr' j = 1 then (1 : Int) else 0) = _
  have e := h.gn g a b
  by_cases c : mb j = 1 ∧ hd j = g ∧ nr j = 1
  · rw [if_pos c, if_pos (e.mpr c)]
  · rw [if_neg c, if_neg (fun q => c (e.mp q))]
theorem PE.dp (h : PE n mb hd vl nr mb' hd' vl' nr') : ∀ (g : Nat) (s : Int), DP 16 mb' hd' vl' nr' g s = DP n mb hd vl nr g s
  | 0, _ => rfl
  | g + 1, s => by
    rw [DP, DP, h.k]
    have e := FP_more (n := n) (mb := mb') (hd := hd') (a := agP 16 mb' hd' vl') (d := DP 16 mb' hd' vl' nr' g) (g := (g : Int)) (16 - n) (fun p a b => h.2.2 p a (by have := h.1; omega)) (kP mb hd nr g n) s
    rw [show n + (16 - n) = 16 by have := h.1; omega] at e
    rw [e]
    exact FP_cg (fun s => h.dp g s) (fun p a b => ⟨h.g g a b, fun m => h.ag a b m⟩) n (Nat.le_refl n) _ _
theorem PE.low (h : PE n mb hd vl nr mb' hd' vl' nr') : lowP 16 mb' hd' vl' nr' = lowP n mb hd vl nr := sm_congr (fun j _ _ => h.dp 5 (j - 256))
theorem PE.up (h : PE n mb hd vl nr mb' hd' vl' nr') : upP 16 mb' hd' vl' nr' = upP n mb hd vl nr := by
  unfold upP
  rw [h.st]
  exact sm_congr (fun j _ _ => by
    show (if stP n mb hd vl nr ≤ j - 256 then DP 16 mb' hd' vl' nr' 5 (j - 256) else 0) = _
    rw [h.dp])
theorem PE.up1 (h : PE n mb hd vl nr mb' hd' vl' nr') (p v : Int) : PE n mb hd (upd1 vl p v) nr mb' hd' (upd1 vl' p v) nr' := by
  refine ⟨h.1, fun j a b => ⟨(h.2.1 j a b).1, fun m => ?_⟩, h.2.2⟩
  have e := (h.2.1 j a b).2 m
  refine ⟨e.1, ?_, e.2.2⟩
  unfold upd1
  by_cases c : j = p
  · rw [if_pos c, if_pos c]
  · rw [if_neg c, if_neg c]; exact e.2.1
end
theorem mu_102 (M : Mem) (p v : Int) : mu M 102 p v 102 = upd1 (M 102) p v := by
  funext q
  show (if (102 : Int) = 102 ∧ q = p then v else M 102 q) = if q = p then v else M 102 q
  by_cases c : q = p
  · rw [if_pos ⟨rfl, c⟩, if_pos c]
  · rw [if_neg (fun z => c z.2), if_neg c]
theorem upT_put (M : Mem) (cb nb p v : Int) : upT (mu M 102 p v) cb nb = upP 16 (bit cb) (M 101) (upd1 (M 102) p v) (bit nb) := by
  unfold upT
  rw [mu_102, mu_o M p v (by decide)]
theorem DK.put {M : Mem} {cb nb : Int} (h : DK M cb nb) (p : Int) {v : Int} (hv : -1 ≤ v ∧ v ≤ 1000000) : DK (mu M 102 p v) cb nb := by
  obtain ⟨d1, d2, d3, d4⟩ := h
  refine ⟨d1, d2, fun j a b c => ?_, d4⟩
  have e := d3 j a b c
  rw [mu_102, mu_o M p v (by decide)]
  refine ⟨e.1, ?_⟩
  unfold upd1
  split
  · exact hv
  · exact e.2
theorem DK.but {M : Mem} {cb nb q : Int} (h : DK M cb nb) (q0 : 0 ≤ q) (q1 : q < 16) : DK M (and32 cb (nbS q)) (and32 nb (nbS q)) := by
  obtain ⟨d1, d2, d3, d4⟩ := h
  have a := nb_and d1.1 d1.2 q0 q1
  have b := nb_and d2.1 d2.2 q0 q1
  exact ⟨a.1, b.1, fun j j0 j1 w => d3 j j0 j1 ((a.2 j j0 j1).mp w).1, fun j j0 j1 w => (a.2 j j0 j1).mpr ⟨d4 j j0 j1 ((b.2 j j0 j1).mp w).1, ((b.2 j j0 j1).mp w).2⟩⟩
theorem upT_pos {M : Mem} {cb nb : Int} (h : DK M cb nb) : 1 ≤ upT M cb nb := by
  have hs := stT_rng M cb nb
  unfold stT at hs
  have h1 := DP_one 16 (bit cb) (M 101) (M 102) (bit nb) 5
  rw [st_TT5 16 (bit cb) (M 101) (M 102) (bit nb) (fun i a b m => (h.2.2.1 i a (by omega) m).1)] at h1
  have h2 := sm_ge (f := fun j => if stP 16 (bit cb) (M 101) (M 102) (bit nb) ≤ j - 256 then DP 16 (bit cb) (M 101) (M 102) (bit nb) 5 (j - 256) else 0) (fun i => by
    have := DP_pos 16 (bit cb) (M 101) (M 102) (bit nb) 5 (i - 256)
    split <;> omega) (p := stP 16 (bit cb) (M 101) (M 102) (bit nb) + 256) (by omega) (n := 513) (by omega)
  rw [show stP 16 (bit cb) (M 101) (M 102) (bit nb) + 256 - 256 = stP 16 (bit cb) (M 101) (M 102) (bit nb) by omega, if_pos (Int.le_refl _)] at h2
  unfold upT upP
  omega
/-- the heaviest, the most open, over the bits -/
def hgE (M : Mem) (cb nb q : Int) (P : Int × Int × Int) : Int × Int × Int := if bit cb q = 1 ∧ P.2.1 * lowT M (and32 cb (nbS q)) (and32 nb (nbS q)) < upT M (and32 cb (nbS q)) (and32 nb (nbS q)) * P.2.2 then (q, upT M (and32 cb (nbS q)) (and32 nb (nbS q)), lowT M (and32 cb (nbS q)) (and32 nb (nbS q))) else P
def hgT (M : Mem) (cb nb : Int) : Nat → Int × Int × Int
  | 0 => (-1, 0, 1)
  | q + 1 => hgE M cb nb q (hgT M cb nb q)
theorem hgT_s (M : Mem) (cb nb : Int) {q : Int} (h : 0 ≤ q) : hgT M cb nb (q + 1).toNat = hgE M cb nb q (hgT M cb nb q.toNat) := by
  rw [show (q + 1).toNat = q.toNat + 1 by omega, hgT, Int.toNat_of_nonneg h]
def nvW (M : Mem) (cb nb p : Int) : Int := dif (upT (mu M 102 p (-1)) cb nb) (upT (mu M 102 p 1000000) cb nb)
def nvE (M : Mem) (cb nb p : Int) (R : Int × Int) : Int × Int := if bit cb p = 1 ∧ R.2 < nvW M cb nb p then (p, nvW M cb nb p) else R
def nvT (M : Mem) (cb nb : Int) : Nat → Int × Int
  | 0 => (-1, -1)
  | p + 1 => nvE M cb nb p (nvT M cb nb p)
theorem nvT_s (M : Mem) (cb nb : Int) {q : Int} (h : 0 ≤ q) : nvT M cb nb (q + 1).toNat = nvE M cb nb q (nvT M cb nb q.toNat) := by
  rw [show (q + 1).toNat = q.toNat + 1 by omega, nvT, Int.toNat_of_nonneg h]
theorem put_back {M M1 : Mem} {q v : Int} (h : OF (mu M 102 q v) M1) : OF M (mu M1 102 q (M 102 q)) := fun o k n => by
  show (if o = 102 ∧ k = q then M 102 q else M1 o k) = _
  by_cases c : o = 102 ∧ k = q
  · rw [if_pos c, c.1, c.2]
  · rw [if_neg c, h o k n]
    show (if o = 102 ∧ k = q then v else M o k) = _
    rw [if_neg c]
theorem upT_of {M M1 : Mem} (h : OF M M1) (cb nb p v : Int) : upT (mu M1 102 p v) cb nb = upT (mu M 102 p v) cb nb := by
  rw [upT_put, upT_put, h.row (o := 101) (by omega), h.row (o := 102) (by omega)]
/-- what a shuffle of a measure's values meets -/
def PF (M : Mem) (m w cb nb : Int) : Prop := DK M cb nb ∧ PE (M 114 23).toNat (mbL M (-1)) (hdV M) (vlu M m) (nrV M w) (bit cb) (M 101) (M 102) (bit nb)
theorem PF.st {M : Mem} {m w cb nb : Int} (h : PF M m w cb nb) : stT M cb nb = stV M m w (-1) := h.2.st
theorem PF.low {M : Mem} {m w cb nb : Int} (h : PF M m w cb nb) : lowT M cb nb = lowV M m w (-1) := h.2.low
theorem PF.up {M : Mem} {m w cb nb : Int} (h : PF M m w cb nb) : upT M cb nb = upV M m w (-1) := h.2.up
theorem PF.but {M : Mem} {m w cb nb q : Int} (h : PF M m w cb nb) (q0 : 0 ≤ q) (q1 : q < 16) : PE (M 114 23).toNat (mbL M q) (hdV M) (vlu M m) (nrV M w) (bit (and32 cb (nbS q))) (M 101) (M 102) (bit (and32 nb (nbS q))) := by
  obtain ⟨⟨d1, d2, d3, d4⟩, e1, e2, e3⟩ := h
  have a := (nb_and d1.1 d1.2 q0 q1).2
  have b := (nb_and d2.1 d2.2 q0 q1).2
  have z : ∀ j : Int, 0 ≤ j → (mbL M q j = 1 ↔ (mbL M (-1) j = 1 ∧ j ≠ q)) := fun j j0 => by
    unfold mbL
    by_cases c : M 124 (6 * j) ≠ 3 ∧ j ≠ q
    · rw [if_pos c, if_pos ⟨c.1, by omega⟩]; exact ⟨fun _ => ⟨rfl, c.2⟩, fun _ => rfl⟩
    · rw [if_neg c]
      refine ⟨fun w => absurd w (by decide), fun w => ?_⟩
      by_cases d : M 124 (6 * j) ≠ 3 ∧ j ≠ -1
      · exact absurd ⟨d.1, w.2⟩ c
      · rw [if_neg d] at w; exact absurd w.1 (by decide)
  refine ⟨e1, fun p p0 p1 => ?_, fun p p0 p1 => ?_⟩
  · have e := e2 p p0 p1
    have ap := a p p0 (by omega)
    have bp := b p p0 (by omega)
    have zp := z p p0
    refine ⟨?_, fun m => ?_⟩
    · rw [ap, zp, e.1]
    · have m2 := zp.mp m
      have f := e.2 m2.1
      refine ⟨f.1, f.2.1, ?_⟩
      rw [bp, f.2.2]
      exact ⟨fun w => w.1, fun w => ⟨w, m2.2⟩⟩
  · exact fun w => e3 p p0 p1 ((a p (by omega) p1).mp w).1
theorem bit_mb {M : Mem} {m w cb nb : Int} (h : PF M m w cb nb) {p : Int} (p0 : 0 ≤ p) (p1 : p < (M 114 23).toNat) : bit cb p = 1 ↔ M 124 (6 * p) ≠ 3 := by
  rw [(h.2.2.1 p p0 p1).1]
  unfold mbL
  by_cases c : M 124 (6 * p) ≠ 3 ∧ p ≠ -1
  · rw [if_pos c]; exact ⟨fun _ => c.1, fun _ => rfl⟩
  · rw [if_neg c]; exact ⟨fun w => absurd w (by decide), fun w => absurd ⟨w, by omega⟩ c⟩
theorem hg_eq {M : Mem} {m w cb nb : Int} (h : PF M m w cb nb) : ∀ k : Nat, k ≤ (M 114 23).toNat → hgT M cb nb k = hgS M m w k ∧ ((hgT M cb nb k).1 = -1 → hgT M cb nb k = (-1, 0, 1))
  | 0, _ => ⟨rfl, fun _ => rfl⟩
  | k + 1, hk => by
    obtain ⟨ih, ih2⟩ := hg_eq h k (by omega)
    have hn := h.2.1
    have b := h.but (q := k) (by omega) (by omega)
    have bl : lowT M (and32 cb (nbS k)) (and32 nb (nbS k)) = lowV M m w k := b.low
    have bu : upT M (and32 cb (nbS k)) (and32 nb (nbS k)) = upV M m w k := b.up
    have up := upT_pos (h.1.but (q := k) (by omega) (by omega))
    have bm := bit_mb h (p := k) (by omega) (by omega)
    rw [hgT, hgS, hgE, hgD, ← ih, bl, bu]
    rw [bu] at up
    by_cases c : bit cb k = 1
    · by_cases d : (hgT M cb nb k).2.1 * lowV M m w k < upV M m w k * (hgT M cb nb k).2.2
      · rw [if_pos ⟨c, d⟩, if_pos ⟨bm.mp c, Or.inr d⟩]
        exact ⟨rfl, fun q => absurd q (show ((k : Nat) : Int) ≠ -1 by omega)⟩
      · rw [if_neg (fun q => d q.2), if_neg]
        · exact ⟨rfl, ih2⟩
        · intro q
          rcases q.2 with r | r
          · rw [ih2 r] at d
            exact d (show 0 * lowV M m w k < upV M m w k * 1 by omega)
          · exact d r
    · rw [if_neg (fun q => c q.1), if_neg (fun q => c (bm.mpr q.1))]
      exact ⟨rfl, ih2⟩
theorem hg_more {M : Mem} {cb nb : Int} {n : Nat} (h : ∀ p : Int, (n : Int) ≤ p → p < 16 → bit cb p ≠ 1) : ∀ k : Nat, n + k ≤ 16 → hgT M cb nb (n + k) = hgT M cb nb n ∧ nvT M cb nb (n + k) = nvT M cb nb n
  | 0, _ => ⟨rfl, rfl⟩
  | k + 1, hk => by
    have ih := hg_more (M := M) (nb := nb) h k (by omega)
    show hgE M cb nb ((n + k : Nat) : Int) (hgT M cb nb (n + k)) = _ ∧ nvE M cb nb ((n + k : Nat) : Int) (nvT M cb nb (n + k)) = _
    have c := h ((n + k : Nat) : Int) (by omega) (by omega)
    unfold hgE nvE
    rw [if_neg (fun q => c q.1), if_neg (fun q => c q.1)]
    exact ih
theorem hg_16 {M : Mem} {m w cb nb : Int} (h : PF M m w cb nb) : hgT M cb nb 16 = hgS M m w (M 114 23).toNat := by
  have hn := h.2.1
  have e := (hg_more (M := M) (nb := nb) h.2.2.2 (16 - (M 114 23).toNat) (by omega)).1
  rw [show (M 114 23).toNat + (16 - (M 114 23).toNat) = 16 by omega] at e
  rw [e]; exact (hg_eq h _ (Nat.le_refl _)).1
theorem nv_eq {M : Mem} {m w cb nb : Int} (h : PF M m w cb nb) : ∀ k : Nat, k ≤ (M 114 23).toNat → nvT M cb nb k = nvS (M 114 23).toNat (mbL M (-1)) (hdV M) (vlu M m) (nrV M w) k
  | 0, _ => rfl
  | k + 1, hk => by
    have ih := nv_eq h k (by omega)
    have u : nvW M cb nb k = nvU (M 114 23).toNat (mbL M (-1)) (hdV M) (vlu M m) (nrV M w) k := by
      unfold nvW nvU
      rw [upT_put, upT_put, (h.2.up1 k (-1)).up, (h.2.up1 k 1000000).up]
    have bm := (h.2.2.1 k (by omega) (by omega)).1
    rw [nvT, nvS, nvE, nvD, ← ih, u]
    by_cases c : bit cb k = 1
    · by_cases d : (nvT M cb nb k).2 < nvU (M 114 23).toNat (mbL M (-1)) (hdV M) (vlu M m) (nrV M w) k
      · rw [if_pos ⟨c, d⟩, if_pos ⟨bm.mp c, d⟩]
      · rw [if_neg (fun q => d q.2), if_neg (fun q => d q.2)]
    · rw [if_neg (fun q => c q.1), if_neg (fun q => c (bm.mpr q.1))]
theorem nv_16 {M : Mem} {m w cb nb : Int} (h : PF M m w cb nb) : nvT M cb nb 16 = nvV M m w := by
  have hn := h.2.1
  have e := (hg_more (M := M) (nb := nb) h.2.2.2 (16 - (M 114 23).toNat) (by omega)).2
  rw [show (M 114 23).toNat + (16 - (M 114 23).toNat) = 16 by omega] at e
  rw [e]; exact nv_eq h _ (Nat.le_refl _)
theorem LO.pf {M M1 : Mem} {m : Int} (hW : WV M) (hm0 : 0 ≤ m) (hm1 : m < M 114 15) (h : LO M M1 m (M 114 23)) (w : Int) : PF M1 m w (cntB M (M 114 23).toNat) (nrB M w (M 114 23).toNat) := by
  obtain ⟨hx, hl⟩ := h
  have hn := hW.n
  have e := hx.eq.e_prof m w (-1)
  have k23 : M1 114 23 = M 114 23 := e.2.2.2.2
  refine ⟨⟨cntB_rng M (by omega), nrB_rng M w (by omega), fun p a b c => ?_, fun p a b c => ?_⟩, by omega, fun p a b => ⟨?_, fun c => ?_⟩, fun p a b c => ?_⟩
  · have z := (cntB_bit M a).mp c
    have l := hl p a (by omega)
    have y := LkU.hh hW p a (by omega)
    have x := vlu_rng hW (m := m) (p := p) hm0 (by have := hW.mea; omega)
    rw [l.1, l.2]
    exact ⟨y, by omega⟩
  · have z := (nrB_bit M w a).mp c
    exact (cntB_bit M a).mpr ⟨z.1, z.2.1⟩
  · rw [e.1, cntB_bit M a]
    unfold mbL
    by_cases c : M 124 (6 * p) ≠ 3 ∧ p ≠ -1
    · rw [if_pos c]; exact ⟨fun _ => rfl, fun _ => ⟨by omega, c.1⟩⟩
    · rw [if_neg c]; exact ⟨fun q => absurd ⟨q.2, by omega⟩ c, fun q => absurd q (by decide)⟩
  · rw [e.1] at c
    have c3 : M 124 (6 * p) ≠ 3 := by
      unfold mbL at c
      by_cases d : M 124 (6 * p) ≠ 3 ∧ p ≠ -1
      · exact d.1
      · rw [if_neg d] at c; exact absurd c (by decide)
    have l := hl p a (by omega)
    rw [e.2.1, e.2.2.1, e.2.2.2.1]
    refine ⟨l.1, l.2, ?_⟩
    rw [nrB_bit M w a]
    unfold nrV
    refine ⟨fun q => (b2i_1 q.2.2).symm, fun q => ⟨by omega, c3, ?_⟩⟩
    rcases b2i_eq (b := b2i (nrS M (M 124 (6 * p)) (M 124 (6 * p + 2)) w)) rfl with y | y
    · exact y.2
    · rw [y.1] at q; exact absurd q (by decide)
  · have z := (cntB_bit M (show 0 ≤ p by omega)).mp c
    omega

