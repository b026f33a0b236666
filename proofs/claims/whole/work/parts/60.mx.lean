/-! What the class's mutators do. -/
def hgX (M : Mem) (kind hand year span lamp pig : Int) : Mem := fun o j =>
  if o = 26 + M 24 5 ∧ 0 ≤ j ∧ j < 6 then (if j = 0 then kind else if j = 1 then hand else if j = 2 then year else if j = 3 then (if kind = 1 ∨ kind = 2 then 0 else span) else if j = 4 then lamp else pig)
  else if o = 43 + M 24 5 ∧ 0 ≤ j ∧ j < 12 then 0 else if o = 24 ∧ j = 5 then M 24 5 + 1 else M o j
theorem hgX_e {M : Mem} {kind hand year span lamp pig v3 : Int} (hn : 0 ≤ M 24 5 ∧ M 24 5 < 16) (h3 : v3 = (if kind = 1 ∨ kind = 2 then 0 else span)) :
    mu (fil (mu (mu (mu (mu (mu (mu M (26 + M 24 5) 0 kind) (26 + M 24 5) 1 hand) (26 + M 24 5) 2 year) (26 + M 24 5) 3 v3) (26 + M 24 5) 4 lamp) (26 + M 24 5) 5 pig) (43 + M 24 5) 12 0) 24 5 (M 24 5 + 1) = hgX M kind hand year span lamp pig := by
  funext o j
  simp only [mu, fil, hgX]
  by_cases a : o = 24 ∧ j = 5
  · rw [if_pos a, if_neg (by omega), if_neg (by omega), if_pos a]
  · rw [if_neg a, if_neg a]
    by_cases b : o = 43 + M 24 5 ∧ 0 ≤ j ∧ j < 12
    · rw [if_pos b, if_neg (by omega), if_pos b]
    · rw [if_neg b, if_neg b]
      by_cases d : o = 26 + M 24 5 ∧ 0 ≤ j ∧ j < 6
      · rw [if_pos d]
        obtain ⟨d1, d2, d3⟩ := d
        rcases (by omega : j = 0 ∨ j = 1 ∨ j = 2 ∨ j = 3 ∨ j = 4 ∨ j = 5) with rfl | rfl | rfl | rfl | rfl | rfl <;> simp [d1, h3]
      · rw [if_neg d, if_neg (by omega), if_neg (by omega), if_neg (by omega), if_neg (by omega), if_neg (by omega), if_neg (by omega)]
def tkX (M : Mem) (fd sd fs ss k : Int) : Mem := fun o j => if fd ≤ o ∧ o < fd + k ∧ 0 ≤ j ∧ j < 6 then M (fs + (o - fd)) j else if sd ≤ o ∧ o < sd + k ∧ 0 ≤ j ∧ j < 12 then M (ss + (o - sd)) j else M o j
theorem tkX_0 (M : Mem) (fd sd fs ss : Int) : tkX M fd sd fs ss 0 = M := by funext o j; simp only [tkX]; rw [if_neg (by omega), if_neg (by omega)]
theorem tkX_s {M M1 : Mem} {fd sd fs ss k : Int} (h : M1 = tkX M fd sd fs ss k) (hk : 0 ≤ k) (hk2 : k < 16) (h1 : fd + 17 = sd) (h2 : fs + 17 = ss) (h3 : sd + 16 < fs ∨ ss + 16 < fd) : cpy (cpy M1 (fs + k) 0 (fd + k) 0 6) (ss + k) 0 (sd + k) 0 12 = tkX M fd sd fs ss (k + 1) := by
  subst h
  funext o j
  simp only [cpy, tkX]
  by_cases a : o = sd + k ∧ 0 ≤ j ∧ j < 0 + 12
  · rw [if_pos a, if_neg (by omega), if_neg (by omega), if_neg (by omega), if_neg (by omega), if_pos (by omega)]
    rw [show ss + (o - sd) = ss + k by omega, show 0 + (j - 0) = j by omega]
  · rw [if_neg a]
    by_cases b : o = fd + k ∧ 0 ≤ j ∧ j < 0 + 6
    · rw [if_pos b, if_neg (by omega), if_neg (by omega), if_pos (by omega)]
      rw [show fs + (o - fd) = fs + k by omega, show 0 + (j - 0) = j by omega]
    · rw [if_neg b]
      by_cases d : fd ≤ o ∧ o < fd + k ∧ 0 ≤ j ∧ j < 6
      · rw [if_pos d, if_pos (by omega)]
      · rw [if_neg d, if_neg (by omega : ¬ (fd ≤ o ∧ o < fd + (k + 1) ∧ 0 ≤ j ∧ j < 6))]
        by_cases f : sd ≤ o ∧ o < sd + k ∧ 0 ≤ j ∧ j < 12
        · rw [if_pos f, if_pos (by omega)]
        · rw [if_neg f, if_neg (by omega)]
/-- the class's show laid into another one -/
def tfX (M : Mem) (b s fd sd ed ld hd fs ss es ls hs : Int) : Mem := mu (mu (mu (cpy (cpy (cpy (tkX M fd sd fs ss (M s 5)) es 0 ed 0 6) ls 0 ld 0 401) hs 0 hd 0 401) b 5 (M s 5)) b 6 (M s 6)) b 7 (M s 7)
def tlX (M : Mem) (y a b : Int) : Mem := mu (mu (if M 60 y = -1 then mu M 24 7 (M 24 7 + 1) else M) 60 y a) 61 y b
def fgX (M : Mem) (y : Int) : Mem := mu (if M 60 y = -1 then M else mu M 24 7 (M 24 7 - 1)) 60 y (-1)
/-- one picture painted -/
noncomputable def oneX (M : Mem) (hand k : Int) : Mem := fun o j =>
  if o = 43 + M 24 5 ∧ 0 ≤ j ∧ j < 3 * k then pcol (M 113 0) (glwS M (M 113 0)) j else if o = 113 ∧ j = 0 then sd (M 113 0) (2 + 3 * k).toNat
  else hgX M 0 hand (drw (sd (M 113 0) 1) 401) (drw (sd (M 113 0) 2) 4) (-1) (-1) o j
theorem oneX_0 {M : Mem} {hand : Int} (h : 0 ≤ M 24 5 ∧ M 24 5 < 16) : hgX (mu (mu M 113 0 (nxS (M 113 0))) 113 0 (nxS (nxS (M 113 0)))) 0 hand (drw (nxS (M 113 0)) 401) (drw (nxS (nxS (M 113 0))) 4) (-1) (-1) = oneX M hand 0 := by
  have e1 : sd (M 113 0) 1 = nxS (M 113 0) := rfl
  have e2 : sd (M 113 0) 2 = nxS (nxS (M 113 0)) := rfl
  have e3 : sd (M 113 0) (2 + 3 * (0 : Int)).toNat = nxS (nxS (M 113 0)) := rfl
  have e4 : mu (mu M 113 0 (nxS (M 113 0))) 113 0 (nxS (nxS (M 113 0))) 24 5 = M 24 5 := by simp [mu]
  funext o j
  unfold oneX hgX
  rw [e1, e2, e3, e4]
  simp only [mu]
  clear e1 e2 e3 e4
  grind
theorem oneX_s {M M2 : Mem} {hand g pt : Int} (hn : 0 ≤ M 24 5 ∧ M 24 5 < 16) (hp : 0 ≤ pt) (hp2 : pt < 4) (hM : M2 = oneX M hand pt) (hg : glwS M (M 113 0) = g) :
    mu (mu (mu (mu (mu (mu M2 113 0 (nxS (M2 113 0))) (43 + M 24 5) (pt * 3 + 0) (20 + drw (nxS (M2 113 0)) 40 + g)) 113 0 (nxS (nxS (M2 113 0)))) (43 + M 24 5) (pt * 3 + 1) (20 + drw (nxS (nxS (M2 113 0))) 40)) 113 0 (nxS (nxS (nxS (M2 113 0))))) (43 + M 24 5) (pt * 3 + 2) (drw (nxS (nxS (nxS (M2 113 0)))) 60) = oneX M hand (pt + 1) := by
  have h28 : M2 113 0 = sd (M 113 0) (2 + 3 * pt).toNat := by rw [hM]; unfold oneX; rw [if_neg (by omega), if_pos ⟨rfl, rfl⟩]
  have e1 : sd (M 113 0) (3 + 3 * pt).toNat = nxS (sd (M 113 0) (2 + 3 * pt).toNat) := by
    rw [show (3 + 3 * pt).toNat = (2 + 3 * pt).toNat + 1 by omega, sd_s]
  have e2 : sd (M 113 0) (3 + (3 * pt + 1)).toNat = nxS (nxS (sd (M 113 0) (2 + 3 * pt).toNat)) := by
    rw [← e1, show (3 + (3 * pt + 1)).toNat = (3 + 3 * pt).toNat + 1 by omega, sd_s]
  have e3 : sd (M 113 0) (3 + (3 * pt + 2)).toNat = nxS (nxS (nxS (sd (M 113 0) (2 + 3 * pt).toNat))) := by
    rw [← e2, show (3 + (3 * pt + 2)).toNat = (3 + (3 * pt + 1)).toNat + 1 by omega, sd_s]
  have e4 : sd (M 113 0) (2 + 3 * (pt + 1)).toNat = nxS (nxS (nxS (sd (M 113 0) (2 + 3 * pt).toNat))) := by
    rw [← e3]; congr 1; omega
  have p1 : pcol (M 113 0) g (3 * pt) = 20 + drw (nxS (sd (M 113 0) (2 + 3 * pt).toNat)) 40 + g := by
    unfold pcol; rw [if_pos (by omega), e1]
  have p2 : pcol (M 113 0) g (3 * pt + 1) = 20 + drw (nxS (nxS (sd (M 113 0) (2 + 3 * pt).toNat))) 40 := by
    unfold pcol; rw [if_neg (by omega), if_pos (by omega), e2]
  have p3 : pcol (M 113 0) g (3 * pt + 2) = drw (nxS (nxS (nxS (sd (M 113 0) (2 + 3 * pt).toNat)))) 60 := by
    unfold pcol; rw [if_neg (by omega), if_neg (by omega), e3]
  rw [h28]
  funext o j
  have hM' : M2 o j = oneX M hand pt o j := by rw [hM]
  simp only [mu]
  rw [hM']
  unfold oneX
  rw [hg, e4]
  by_cases b : o = 43 + M 24 5 ∧ j = pt * 3 + 2
  · rw [if_pos b, if_pos (by omega), show j = 3 * pt + 2 by omega, p3]
  · rw [if_neg b]
    by_cases a : o = 113 ∧ j = 0
    · rw [if_pos a, if_neg (by omega), if_pos a]
    · rw [if_neg a, if_neg a, if_neg a, if_neg a]
      by_cases c : o = 43 + M 24 5 ∧ j = pt * 3 + 1
      · rw [if_pos c, if_pos (by omega), show j = 3 * pt + 1 by omega, p2]
      · rw [if_neg c]
        by_cases d : o = 43 + M 24 5 ∧ j = pt * 3 + 0
        · rw [if_pos d, if_pos (by omega), show j = 3 * pt by omega, p1]
        · rw [if_neg d]
          by_cases f : o = 43 + M 24 5 ∧ 0 ≤ j ∧ j < 3 * pt
          · rw [if_pos f, if_pos (by omega)]
          · rw [if_neg f, if_neg (by omega), if_neg a]
/-- lowest terms -/
theorem gcd_st {d r : Int} (hd : 0 ≤ d) (hr : 0 < r) : gcdS r (d % r) = gcdS d r := by
  have h1 := Int.emod_nonneg d (show r ≠ 0 by omega)
  unfold gcdS
  rw [Int.toNat_emod hd (by omega), Nat.gcd_comm d.toNat r.toNat]
  congr 1
  rw [Nat.gcd_comm, ← Nat.gcd_rec]
theorem eu_half {d r : Int} (hr : 0 < r) (h : r ≤ d) : 2 * (r * (d % r)) ≤ d * r := by
  have h1 := Int.emod_nonneg d (show r ≠ 0 by omega)
  have h2 := Int.emod_lt_of_pos d hr
  have h3 : 2 * (d % r) ≤ d := by
    have e := Int.emod_add_mul_ediv d r
    have q : 1 ≤ d / r := by
      rw [Int.le_ediv_iff_mul_le hr]; omega
    have m := Int.mul_le_mul_of_nonneg_left q (show 0 ≤ r by omega)
    rw [Int.mul_one] at m
    omega
  have h4 := Int.mul_le_mul_of_nonneg_left h3 (show 0 ≤ r by omega)
  rw [show 2 * (r * (d % r)) = r * (2 * (d % r)) by rw [Int.mul_left_comm], Int.mul_comm d r]
  exact h4
theorem two_pow_pos (n : Nat) : (1 : Int) ≤ 2 ^ n := by
  have h : (0 : Int) < 2 ^ n := Int.pow_pos (by decide)
  omega
/-- Euclid's steps end in time -/
theorem eu_end {d r : Int} {n : Nat} (hr : 0 < r) (hd : 0 < d) (h : d * r * 2 ^ n ≤ 2 ^ 60) (hn : 61 ≤ n) : False := by
  have h1 := Int.mul_le_mul (a := 1) (b := 1) (c := d) (d := r) (by omega) (by omega) (by omega) (by omega)
  have h2 := p2i_le hn
  have h3 := Int.mul_le_mul (a := 1) (b := 2 ^ 61) (c := d * r) (d := 2 ^ n) (by omega) h2 (by decide) (by omega)
  have h4 : (2 : Int) ^ 61 = 2305843009213693952 := rfl
  have h5 : (2 : Int) ^ 60 = 1152921504606846976 := rfl
  omega
theorem eu_step {d r : Int} {n : Nat} (hr : 0 < r) (hd : r ≤ d) (h : d * r * 2 ^ n ≤ 2 ^ 60) : r * (d % r) * 2 ^ (n + 1) ≤ 2 ^ 60 := by
  have h1 := eu_half hr hd
  have h2 := Int.mul_le_mul_of_nonneg_right h1 (show (0 : Int) ≤ 2 ^ n by have := two_pow_pos n; omega)
  have e : r * (d % r) * 2 ^ (n + 1) = 2 * (r * (d % r)) * 2 ^ n := by
    rw [Int.pow_succ, Int.mul_comm (2 ^ n) 2, ← Int.mul_assoc, Int.mul_comm (r * (d % r)) 2]
  rw [e]
  omega
def EU (a b i d r : Int) : Prop := (0 < d ∧ d < 1073741824) ∧ (0 ≤ r ∧ r < 1073741824) ∧ ((i = 0 ∧ d = a ∧ r = b) ∨ (1 ≤ i ∧ r < d ∧ gcdS d r = gcdS a b ∧ d * r * 2 ^ (i - 1).toNat ≤ 2 ^ 60))
theorem EU.go {a b i d r : Int} (hi : 0 ≤ i) (h : EU a b i d r) (hr : r ≠ 0) : EU a b (i + 1) r (d % r) := by
  obtain ⟨hd, hr2, h⟩ := h
  have m1 := Int.emod_nonneg d (show r ≠ 0 by omega)
  have m2 := Int.emod_lt_of_pos d (show 0 < r by omega)
  refine ⟨by omega, by omega, Or.inr ⟨by omega, m2, ?_⟩⟩
  have g := gcd_st (d := d) (r := r) (by omega) (by omega)
  rcases h with ⟨h1, h2, h3⟩ | ⟨h1, h4, h5, h6⟩
  · subst h1; subst h2; subst h3
    refine ⟨g, ?_⟩
    have m3 := Int.mul_le_mul (a := r) (b := d % r) (c := 1073741824) (d := 1073741824) (by omega) (by omega) m1 (by omega)
    have e : (2 : Int) ^ ((0 : Int) + 1 - 1).toNat = 1 := rfl
    have e2 : (2 : Int) ^ 60 = 1152921504606846976 := rfl
    rw [e, e2]; omega
  · refine ⟨g.trans h5, ?_⟩
    rw [show (i + 1 - 1).toNat = (i - 1).toNat + 1 by omega]
    exact eu_step (by omega) (by omega) h6
theorem EU.done {a b i d r : Int} (hb : 0 < b) (h : EU a b i d r) (h2 : 64 ≤ i ∨ r = 0) : d = gcdS a b := by
  obtain ⟨hd, hr, h⟩ := h
  rcases h with ⟨h1, h2', h3⟩ | ⟨h1, h4, h5, h6⟩
  · omega
  · have hz : r = 0 := by
      refine Classical.byContradiction fun n => ?_
      exact eu_end (d := d) (r := r) (n := (i - 1).toNat) (by omega) hd.1 h6 (by omega)
    subst hz
    rw [← h5]
    unfold gcdS
    rw [show (0 : Int).toNat = 0 from rfl, Nat.gcd_zero_right]
    omega

