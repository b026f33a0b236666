/-! Longs as bits (these first rows: out of kit/laws), seeds, greatest divisors. -/
def uN (x : Int64) : Nat := x.toUInt64.toNat
theorem uN_shr (x : Int64) (s : UInt64) : uN (x.toUInt64 >>> s).toInt64 = uN x / 2 ^ (s.toNat % 64) := by
  show (x.toUInt64 >>> s).toNat = _
  rw [UInt64.toNat_shiftRight, Nat.shiftRight_eq_div_pow]
  rfl
theorem uN_sk (x : Int64) {k : Nat} (hk : k < 64) : uN (x.toUInt64 >>> ((nI k).toInt64.toUInt64 &&& Int64.toUInt64 63)).toInt64 = uN x / 2 ^ k := by
  have h : ((nI k).toInt64.toUInt64 &&& Int64.toUInt64 63).toNat % 64 = k := by
    rw [nI_l (by omega), UInt64.toNat_and]
    have e : (lN k).toUInt64.toNat = k % 2 ^ 64 := rfl
    have e2 : (Int64.toUInt64 63).toNat = 2 ^ 6 - 1 := by decide
    rw [e, e2, Nat.and_two_pow_sub_one_eq_mod]
    omega
  rw [uN_shr, h]
theorem fb_andL (a b : Nat) : lN a &&& lN b = lN (a &&& b) := by
  apply Int64.toBitVec_inj.1
  show BitVec.ofNat 64 a &&& BitVec.ofNat 64 b = BitVec.ofNat 64 (a &&& b)
  apply BitVec.eq_of_getLsbD_eq
  intro i hi
  simp [hi]
theorem fb_maskL (n k : Nat) : lN n &&& lN (2 ^ k - 1) = lN (n % 2 ^ k) := by rw [fb_andL, Nat.and_two_pow_sub_one_eq_mod]
theorem jN_nat (n : Nat) : jN (n : Int) = lN n := Int64.ofInt_eq_ofNat
theorem and64_mask {x : Int} (h0 : 0 ≤ x) (h1 : x < 9223372036854775808) : and64 x 2147483647 = x % 2147483648 := by
  obtain ⟨n, rfl⟩ := Int.eq_ofNat_of_zero_le h0
  have e : (2147483647 : Int) = ((2 ^ 31 - 1 : Nat) : Int) := by decide
  unfold and64
  rw [e, jN_nat, jN_nat, fb_maskL, pk_lT (by omega)]
  omega
/-- a byte of a long, the lowest first -/
def byt (w k : Int) : Int := ((uN (jN w) / 2 ^ (8 * k).toNat % 256 : Nat) : Int)
theorem byt_rng (w k : Int) : 0 ≤ byt w k ∧ byt w k ≤ 255 := by unfold byt; omega
theorem uN_and255 (x : Int64) : uN (x &&& 255) = uN x % 256 := by
  show (x.toUInt64 &&& Int64.toUInt64 255).toNat = _
  rw [UInt64.toNat_and]
  exact Nat.and_two_pow_sub_one_eq_mod _ 8
theorem uN_small {x : Int64} (h : uN x < 256) : x.toInt = (uN x : Int) := by
  have e : x = lN (uN x) := by
    apply Int64.toBitVec_inj.mp
    show x.toBitVec = BitVec.ofNat 64 x.toBitVec.toNat
    rw [BitVec.ofNat_toNat, BitVec.setWidth_eq]
  have h2 := pk_lT (n := uN x) (by omega)
  rw [← e] at h2
  exact h2
theorem and255 (a : Int) : and64 a 255 = ((uN (jN a) % 256 : Nat) : Int) := by
  have h : uN (jN a &&& jN 255) = uN (jN a) % 256 := uN_and255 (jN a)
  unfold and64
  rw [uN_small (by rw [h]; omega), h]
theorem ushr_uN (a : Int) {k : Int} (h0 : 0 ≤ k) (h1 : k < 64) : uN (jN (ushr64 a k)) = uN (jN a) / 2 ^ k.toNat := by
  unfold ushr64
  rw [jN_of]
  have e : iN k = nI k.toNat := by
    rw [← iN_nat]
    congr 1
    omega
  rw [e]
  exact uN_sk (jN a) (by omega)
theorem byt_sh (w : Int) {k : Int} (h0 : 0 ≤ k) (h1 : k < 8) : and64 (ushr64 w (8 * k)) 255 = byt w k := by
  rw [and255, ushr_uN w (by omega) (by omega)]
  rfl
/-- the seed's successor; the n-th seed; a draw out of a seed -/
def nxS (s : Int) : Int := (1103515245 * s + 12345) % 2147483648
def sd (s : Int) : Nat → Int
  | 0 => s
  | n + 1 => nxS (sd s n)
theorem nxS_rng (s : Int) : 0 ≤ nxS s ∧ nxS s < 2147483648 := by unfold nxS; omega
theorem sd_rng {s : Int} (h : 0 ≤ s ∧ s < 2147483648) : ∀ n : Nat, 0 ≤ sd s n ∧ sd s n < 2147483648
  | 0 => h
  | n + 1 => nxS_rng _
theorem sd_s (s : Int) (n : Nat) : sd s (n + 1) = nxS (sd s n) := rfl
def drw (s d : Int) : Int := s / 65536 % d
theorem drw_rng {s d : Int} (h : 0 < d) : 0 ≤ drw s d ∧ drw s d < d := ⟨Int.emod_nonneg _ (by omega), Int.emod_lt_of_pos _ h⟩
def gcdS (a b : Int) : Int := ((Nat.gcd a.toNat b.toNat : Nat) : Int)
theorem gcdS_0 (b : Int) (h : 0 ≤ b) : gcdS 0 b = b := by unfold gcdS; rw [show (0 : Int).toNat = 0 from rfl, Nat.gcd_zero_left]; omega
theorem gcdS_s {a b : Int} (ha : 0 ≤ a) (hb : 0 ≤ b) : gcdS (b % a) a = gcdS a b := by
  unfold gcdS
  rw [Int.toNat_emod hb ha, ← Nat.gcd_rec]
theorem gcdS_rng {a b : Int} (ha : 0 < a) (hb : 0 < b) : 0 < gcdS a b ∧ gcdS a b ≤ a := by
  unfold gcdS
  have h1 := Nat.gcd_pos_of_pos_left (m := a.toNat) b.toNat (by omega)
  have h2 := Nat.gcd_le_left (m := a.toNat) b.toNat (by omega)
  omega
def trmS (up low part : Int) : Int := if part = 0 then up / gcdS up low else low / gcdS up low
/-- one picture painted: the colours, out of the seed ahead of it -/
def pcol (s glow c : Int) : Int := if c % 3 = 0 then 20 + drw (sd s (3 + c).toNat) 40 + glow else if c % 3 = 1 then 20 + drw (sd s (3 + c).toNat) 40 else drw (sd s (3 + c).toNat) 60
noncomputable def glwS (M : Mem) (s : Int) : Int := if b2i (nrS M 0 (drw (sd s 1) 401) 3) = 1 then 15 else 0
noncomputable def oneL (M : Mem) (hand s k : Int) : Mem := fun o j =>
  if o = 125 ∧ 12 * M 114 23 ≤ j ∧ j < 12 * M 114 23 + 3 * k then pcol s (glwS M s) (j - 12 * M 114 23)
  else if o = 114 ∧ j = 28 then sd s (2 + 3 * k).toNat else addM M 0 hand (drw (sd s 1) 401) (drw (sd s 2) 4) (-1) (-1) o j
noncomputable def oneS (M : Mem) (hand : Int) : Mem := oneL M hand (M 114 28) 4
noncomputable def pnt (M : Mem) (hand : Int) : Nat → Mem
  | 0 => M
  | n + 1 => if (pnt M hand n) 114 23 < 16 then oneS (pnt M hand n) hand else pnt M hand n
theorem cpy_0 (M : Mem) (a b : Int) : cpy M a 0 b 0 0 = M := by funext o k; simp only [cpy]; grind
theorem cpy_s {M : Mem} {a b k : Int} (h : a ≠ b) (hk : 0 ≤ k) : mu (cpy M a 0 b 0 k) b k (cpy M a 0 b 0 k a k) = cpy M a 0 b 0 (k + 1) := by
  funext o j
  simp only [mu, cpy]
  grind
theorem cpy2_s {M : Mem} {k : Int} (hk : 0 ≤ k) : mu (mu (cpy (cpy M 134 0 139 0 k) 135 0 140 0 k) 139 k (cpy (cpy M 134 0 139 0 k) 135 0 140 0 k 134 k)) 140 k (cpy (cpy M 134 0 139 0 k) 135 0 140 0 k 135 k) = cpy (cpy M 134 0 139 0 (k + 1)) 135 0 140 0 (k + 1) := by
  funext o j
  simp only [mu, cpy]
  grind
theorem cpy2_r {M : Mem} {k : Int} (hk : 0 ≤ k) : mu (mu (cpy (cpy M 139 0 134 0 k) 140 0 135 0 k) 134 k (cpy (cpy M 139 0 134 0 k) 140 0 135 0 k 139 k)) 135 k (cpy (cpy M 139 0 134 0 k) 140 0 135 0 k 140 k) = cpy (cpy M 139 0 134 0 (k + 1)) 140 0 135 0 (k + 1) := by
  funext o j
  simp only [mu, cpy]
  grind

