/-! The digest, whole. -/
theorem HM.e_cntS {M M1 : Mem} (h : HM M M1) : cntS M1 = cntS M := by
  funext k
  unfold cntS
  simp only [h.fld (k := 13) (by omega), h.fld (k := 20) (by omega), h.fld (k := 23) (by omega), h.fld (k := 15) (by omega), h.fld (k := 26) (by omega), h.fld (k := 17) (by omega), h.fld (k := 40) (by omega), h.fld (k := 1) (by omega), h.fld (k := 39) (by omega)]
def itH (f : Int → Int → Int) (h : Int) : Nat → Int
  | 0 => h
  | n + 1 => f n (itH f h n)
theorem itH_0 (f : Int → Int → Int) (h : Int) : itH f h (0 : Int).toNat = h := rfl
theorem itH_s (f : Int → Int → Int) (h : Int) {i : Int} (hi : 0 ≤ i) : itH f h (i + 1).toNat = f i (itH f h i.toNat) := by
  rw [show (i + 1).toNat = i.toNat + 1 by omega, itH, Int.toNat_of_nonneg hi]
theorem say_ok {M M1 M2 : Mem} {x v : Int} (hH : HM M M1) (hx : M1 114 54 = x) (hc : M2 = mu M1 114 54 (31 * M1 114 54 + v)) : HM M M2 ∧ M2 114 54 = 31 * x + v :=
  ⟨by rw [hc]; exact hH.tr (HM.of M1 _), by rw [hc, mu_same, hx]⟩
theorem wrS_rng {M : Mem} (m : Int) {n : Nat} (hn : n ≤ 16) : 0 ≤ wrS M m n ∧ wrS M m n < 65536 := by
  have c0 : ∀ i : Int, ¬ dN M m i (nY M i) = 0 → (fun p : Int => if dN M m p (nY M p) = 0 then (2 : Int) ^ p.toNat else 0) i = 0 := fun i h => if_neg h
  have c1 : ∀ i : Int, dN M m i (nY M i) = 0 → (fun p : Int => if dN M m p (nY M p) = 0 then (2 : Int) ^ p.toNat else 0) i = 2 ^ i.toNat := fun i h => if_pos h
  have h2 := sm_bits c0 c1 n
  have h3 := p2i_le (a := n) (b := 16) hn
  have h4 : (2 : Int) ^ 16 = 65536 := rfl
  have e : wrS M m n = sm (fun p : Int => if dN M m p (nY M p) = 0 then (2 : Int) ^ p.toNat else 0) n := rfl
  omega
def g1 (M : Mem) (i h : Int) : Int := 31 * (31 * h + M 122 i) + M 123 i
def g3 (M : Mem) (i h : Int) : Int := 31 * h + M 126 i
noncomputable def g5 (M : Mem) (i h : Int) : Int := 31 * h + wrS M i (M 114 23).toNat
def g6 (M : Mem) (y h : Int) : Int := if M 134 y = -1 then h else 31 * (31 * (31 * h + y) + M 134 y) + M 135 y
def g7 (M : Mem) (i h : Int) : Int := 31 * h + M 115 i
def g8 (M : Mem) (i h : Int) : Int := 31 * h + cntS M i
noncomputable def k1 (M : Mem) : Int := itH (g1 M) 421 (M 114 20).toNat
noncomputable def k2 (M : Mem) : Int := itH (spH M) (k1 M) (M 114 23).toNat
noncomputable def k3 (M : Mem) : Int := itH (g3 M) (k2 M) (M 114 26).toNat
noncomputable def k4 (M : Mem) : Int := itH (smH M) (k3 M) (M 114 15).toNat
noncomputable def k5 (M : Mem) : Int := if 0 < M 114 17 then itH (g5 M) (k4 M) (M 114 15).toNat else k4 M
noncomputable def k6 (M : Mem) : Int := itH (g6 M) (k5 M) (401 : Int).toNat
noncomputable def k7 (M : Mem) : Int := itH (g7 M) (k6 M) (M 114 1).toNat
noncomputable def k8 (M : Mem) : Int := itH (g8 M) (k7 M) (9 : Int).toNat
theorem HM.e_spH {M M1 : Mem} (h : HM M M1) : spH M1 = spH M := by
  funext p x
  unfold spH spB spA nrO
  rw [h.row (o := 124) (by omega), h.e_rgt, h.e_vlu, h.e_nrS, h.fld (k := 15) (by omega)]
theorem HM.e_smH {M M1 : Mem} (h : HM M M1) : smH M1 = smH M := by
  funext m x
  unfold smH
  rw [h.e_stV, h.e_upV, h.e_lowV]
theorem ice_rng {M : Mem} (hW : WV M) {y : Int} (h0 : 0 ≤ y) (h1 : y < 401) : i32 (M 134 y) ∧ i32 (M 135 y) := by
  have w := hW.ice h0 h1
  exact ⟨⟨by omega, by omega⟩, ⟨by omega, by omega⟩⟩

