/-! Bits counted, bits taken away. -/
theorem and32_n {n m : Nat} (h : n < 2 ^ 31) : and32 ((n : Nat) : Int) ((m : Nat) : Int) = ((n &&& m : Nat) : Int) := by
  unfold and32
  rw [iN_nat, iN_nat, fa_and, nI_toInt (Nat.lt_of_le_of_lt Nat.and_le_left h)]
theorem ushr32_n {n : Nat} (h : n < 2 ^ 31) {k : Int} (j : Nat) {d : Nat} (hd : 2 ^ j = d) (hs : (((iN k).toUInt32 &&& Int32.toUInt32 31).toBitVec % 32).toNat = j) : ushr32 ((n : Nat) : Int) k = ((n / d : Nat) : Int) := by
  subst hd
  unfold ushr32
  rw [iN_nat, pk_ushrN (by omega) (iN k) j hs, nI_toInt (Nat.lt_of_le_of_lt (Nat.div_le_self _ _) h)]
theorem land_cat {a b c d : Nat} (hb : b < 256) (hd : d < 256) : (256 * a + b) &&& (256 * c + d) = 256 * (a &&& c) + (b &&& d) := by
  have hbd : b &&& d < 2 ^ 8 := Nat.lt_of_le_of_lt Nat.and_le_left hb
  apply Nat.eq_of_testBit_eq
  intro i
  rw [Nat.testBit_and, show 256 * a + b = 2 ^ 8 * a + b from rfl, show 256 * c + d = 2 ^ 8 * c + d from rfl, show 256 * (a &&& c) + (b &&& d) = 2 ^ 8 * (a &&& c) + (b &&& d) from rfl]
  rw [Nat.testBit_two_pow_mul_add a hb, Nat.testBit_two_pow_mul_add c hd, Nat.testBit_two_pow_mul_add _ hbd]
  split
  · rw [Nat.testBit_and]
  · rw [Nat.testBit_and]
def w1 (x : Nat) : Nat := x - (x / 2 &&& 85)
def w2 (x : Nat) : Nat := (x &&& 51) + (x / 4 &&& 51)
def w3 (x : Nat) : Nat := (x + x / 16) % 16
def c8 (x : Nat) : Nat := x % 2 + x / 2 % 2 + x / 4 % 2 + x / 8 % 2 + x / 16 % 2 + x / 32 % 2 + x / 64 % 2 + x / 128 % 2
theorem w_by : ∀ x : Nat, x < 256 → (x / 2 &&& 85) ≤ x ∧ (x / 2 &&& 5592405) = (x / 2 &&& 85) ∧ (x &&& 3355443) = (x &&& 51) ∧ (x / 4 &&& 3355443) = (x / 4 &&& 51) ∧ (x &&& 986895) = x % 16 ∧ w1 x < 256 ∧ w2 (w1 x) % 16 ≤ 4 ∧ w2 (w1 x) ≤ 68 ∧ w3 (w2 (w1 x)) = c8 x := by decide +kernel
theorem w_lo1 : ∀ e : Nat, e < 2 → ∀ y : Nat, y < 128 → (128 * e + y &&& 85) = (y &&& 85) := by decide +kernel
theorem w_lo2 : ∀ e : Nat, e < 4 → ∀ y : Nat, y < 64 → (64 * e + y &&& 51) = (y &&& 51) := by decide +kernel
def q1 (n : Nat) : Nat := n - (n / 2 &&& 1431655765)
def q2 (n : Nat) : Nat := (n &&& 858993459) + (n / 4 &&& 858993459)
def q3 (n : Nat) : Nat := (n + n / 16) &&& 252645135
theorem q1_e {h l : Nat} (hh : h < 256) (hl : l < 256) : q1 (256 * h + l) = 256 * w1 h + w1 l := by
  have a := w_by h hh
  have b := w_by l hl
  have e : (256 * h + l) / 2 = 256 * (h / 2) + (128 * (h % 2) + l / 2) := by omega
  unfold q1 w1
  rw [e, show 1431655765 = 256 * 5592405 + 85 from rfl, land_cat (by omega) (by decide), a.2.1, w_lo1 (h % 2) (by omega) (l / 2) (by omega)]
  have a1 := a.1
  have b1 := b.1
  omega
theorem q2_e {a b : Nat} (ha : a < 256) (hb : b < 256) : q2 (256 * a + b) = 256 * w2 a + w2 b := by
  have x := w_by a ha
  have e : (256 * a + b) / 4 = 256 * (a / 4) + (64 * (a % 4) + b / 4) := by omega
  unfold q2 w2
  rw [e, show 858993459 = 256 * 3355443 + 51 from rfl, land_cat hb (by decide), land_cat (by omega) (by decide), x.2.2.1, x.2.2.2.1, w_lo2 (a % 4) (by omega) (b / 4) (by omega)]
  omega
theorem q3_e {a b : Nat} (ha : a ≤ 68) (ha2 : a % 16 ≤ 4) (hb : b ≤ 68) : q3 (256 * a + b) = 256 * w3 a + w3 b := by
  have e : 256 * a + b + (256 * a + b) / 16 = 256 * (a + a / 16) + (16 * (a % 16) + b + b / 16) := by omega
  have x := w_by (a + a / 16) (by omega)
  unfold q3 w3
  rw [e, show 252645135 = 256 * 986895 + 15 from rfl, land_cat (by omega) (by decide), x.2.2.2.2.1]
  have y : (16 * (a % 16) + b + b / 16) &&& 15 = (16 * (a % 16) + b + b / 16) % 16 := Nat.and_two_pow_sub_one_eq_mod _ 4
  rw [y]
  omega
def bcS (b : Int) : Int := sm (fun p => bit b p) 16
theorem bit_n (n k : Nat) : bit ((n : Nat) : Int) ((k : Nat) : Int) = ((n / 2 ^ k % 2 : Nat) : Int) := by
  unfold bit
  rw [Int.toNat_natCast, ← p2c]
  rfl
theorem bcS_e (n : Nat) : bcS ((n : Nat) : Int) = ((c8 (n / 256) + c8 (n % 256) : Nat) : Int) := by
  have z : ∀ k : Nat, bit ((n : Nat) : Int) ((k : Nat) : Int) = ((n / 2 ^ k % 2 : Nat) : Int) := bit_n n
  unfold bcS
  simp only [sm, z]
  have f0 : n / 2 ^ 0 % 2 = n % 256 % 2 := by omega
  have f1 : n / 2 ^ 1 % 2 = n % 256 / 2 % 2 := by omega
  have f2 : n / 2 ^ 2 % 2 = n % 256 / 4 % 2 := by omega
  have f3 : n / 2 ^ 3 % 2 = n % 256 / 8 % 2 := by omega
  have f4 : n / 2 ^ 4 % 2 = n % 256 / 16 % 2 := by omega
  have f5 : n / 2 ^ 5 % 2 = n % 256 / 32 % 2 := by omega
  have f6 : n / 2 ^ 6 % 2 = n % 256 / 64 % 2 := by omega
  have f7 : n / 2 ^ 7 % 2 = n % 256 / 128 % 2 := by omega
  have f8 : n / 2 ^ 8 % 2 = n / 256 % 2 := by omega
  have f9 : n / 2 ^ 9 % 2 = n / 256 / 2 % 2 := by omega
  have f10 : n / 2 ^ 10 % 2 = n / 256 / 4 % 2 := by omega
  have f11 : n / 2 ^ 11 % 2 = n / 256 / 8 % 2 := by omega
  have f12 : n / 2 ^ 12 % 2 = n / 256 / 16 % 2 := by omega
  have f13 : n / 2 ^ 13 % 2 = n / 256 / 32 % 2 := by omega
  have f14 : n / 2 ^ 14 % 2 = n / 256 / 64 % 2 := by omega
  have f15 : n / 2 ^ 15 % 2 = n / 256 / 128 % 2 := by omega
  rw [f0, f1, f2, f3, f4, f5, f6, f7, f8, f9, f10, f11, f12, f13, f14, f15]
  clear f0 f1 f2 f3 f4 f5 f6 f7 f8 f9 f10 f11 f12 f13 f14 f15 z
  unfold c8
  generalize n % 256 % 2 = a0
  generalize n % 256 / 2 % 2 = a1
  generalize n % 256 / 4 % 2 = a2
  generalize n % 256 / 8 % 2 = a3
  generalize n % 256 / 16 % 2 = a4
  generalize n % 256 / 32 % 2 = a5
  generalize n % 256 / 64 % 2 = a6
  generalize n % 256 / 128 % 2 = a7
  generalize n / 256 % 2 = a8
  generalize n / 256 / 2 % 2 = a9
  generalize n / 256 / 4 % 2 = a10
  generalize n / 256 / 8 % 2 = a11
  generalize n / 256 / 16 % 2 = a12
  generalize n / 256 / 32 % 2 = a13
  generalize n / 256 / 64 % 2 = a14
  generalize n / 256 / 128 % 2 = a15
  omega
theorem bc_rng (b : Int) : 0 ≤ bcS b ∧ bcS b ≤ 16 := by
  have h := cnt_rng (f := fun p => bit b p) (n := 16) (fun i => bit_01 b i)
  unfold bcS; omega
theorem fin_uv : ∀ u : Nat, u < 9 → ∀ v : Nat, v < 9 → (256 * u + v + (256 * u + v) / 256 + (256 * u + v + (256 * u + v) / 256) / 65536) % 64 = u + v := by decide +kernel
theorem c8_le (x : Nat) : c8 x ≤ 8 := by unfold c8; omega
theorem bc_nat {n : Nat} (hn : n < 65536) : (q3 (q2 (q1 n)) + q3 (q2 (q1 n)) / 256 + (q3 (q2 (q1 n)) + q3 (q2 (q1 n)) / 256) / 65536) &&& 63 = c8 (n / 256) + c8 (n % 256) := by
  have e : n = 256 * (n / 256) + n % 256 := by omega
  have hh : n / 256 < 256 := by omega
  have hl : n % 256 < 256 := by omega
  have a := w_by _ hh
  have b := w_by _ hl
  have z : q3 (q2 (q1 n)) = 256 * c8 (n / 256) + c8 (n % 256) := by
    have z1 := q1_e hh hl
    rw [← e] at z1
    rw [z1, q2_e a.2.2.2.2.2.1 b.2.2.2.2.2.1, q3_e a.2.2.2.2.2.2.2.1 a.2.2.2.2.2.2.1 b.2.2.2.2.2.2.2.1, a.2.2.2.2.2.2.2.2, b.2.2.2.2.2.2.2.2]
  have y : ∀ x : Nat, x &&& 63 = x % 64 := fun x => Nat.and_two_pow_sub_one_eq_mod x 6
  rw [z, y]
  have l1 := c8_le (n / 256)
  have l2 := c8_le (n % 256)
  exact fin_uv _ (by omega) _ (by omega)
theorem bc_ok {b : Int} (h0 : 0 ≤ b) (h1 : b < 65536) :
    and32 (and32 (and32 (b - and32 (ushr32 b 1) 1431655765) 858993459 + and32 (ushr32 (b - and32 (ushr32 b 1) 1431655765) 2) 858993459 + ushr32 (and32 (b - and32 (ushr32 b 1) 1431655765) 858993459 + and32 (ushr32 (b - and32 (ushr32 b 1) 1431655765) 2) 858993459) 4) 252645135 + ushr32 (and32 (and32 (b - and32 (ushr32 b 1) 1431655765) 858993459 + and32 (ushr32 (b - and32 (ushr32 b 1) 1431655765) 2) 858993459 + ushr32 (and32 (b - and32 (ushr32 b 1) 1431655765) 858993459 + and32 (ushr32 (b - and32 (ushr32 b 1) 1431655765) 2) 858993459) 4) 252645135) 8 + ushr32 (and32 (and32 (b - and32 (ushr32 b 1) 1431655765) 858993459 + and32 (ushr32 (b - and32 (ushr32 b 1) 1431655765) 2) 858993459 + ushr32 (and32 (b - and32 (ushr32 b 1) 1431655765) 858993459 + and32 (ushr32 (b - and32 (ushr32 b 1) 1431655765) 2) 858993459) 4) 252645135 + ushr32 (and32 (and32 (b - and32 (ushr32 b 1) 1431655765) 858993459 + and32 (ushr32 (b - and32 (ushr32 b 1) 1431655765) 2) 858993459 + ushr32 (and32 (b - and32 (ushr32 b 1) 1431655765) 858993459 + and32 (ushr32 (b - and32 (ushr32 b 1) 1431655765) 2) 858993459) 4) 252645135) 8) 16) 63 = bcS b := by
  obtain ⟨n, rfl⟩ := Int.eq_ofNat_of_zero_le h0
  have hn : n < 65536 := by omega
  have u1 : and32 (ushr32 ((n : Nat) : Int) 1) 1431655765 = ((n / 2 &&& 1431655765 : Nat) : Int) := by
    rw [ushr32_n (by omega) 1 (d := 2) rfl (by decide)]; exact and32_n (by omega)
  have hle : (n / 2 &&& 1431655765) ≤ n := Nat.le_trans Nat.and_le_left (Nat.div_le_self _ _)
  have e1 : ((n : Nat) : Int) - and32 (ushr32 ((n : Nat) : Int) 1) 1431655765 = ((q1 n : Nat) : Int) := by
    rw [u1]; unfold q1; omega
  have hq1 : q1 n < 65536 := by unfold q1; omega
  rw [e1]
  have e2 : and32 ((q1 n : Nat) : Int) 858993459 + and32 (ushr32 ((q1 n : Nat) : Int) 2) 858993459 = ((q2 (q1 n) : Nat) : Int) := by
    rw [ushr32_n (by omega) 2 (d := 4) rfl (by decide), show (858993459 : Int) = ((858993459 : Nat) : Int) from rfl, and32_n (by omega), and32_n (by omega)]; unfold q2; omega
  have hq2 : q2 (q1 n) < 131072 := by
    have x1 : (q1 n &&& 858993459) ≤ q1 n := Nat.and_le_left
    have x2 : (q1 n / 4 &&& 858993459) ≤ q1 n / 4 := Nat.and_le_left
    unfold q2; omega
  rw [e2]
  generalize hA : q2 (q1 n) = A at *
  have e3 : and32 (((A : Nat) : Int) + ushr32 ((A : Nat) : Int) 4) 252645135 = ((q3 A : Nat) : Int) := by
    rw [ushr32_n (by omega) 4 (d := 16) rfl (by decide), show ((A : Nat) : Int) + ((A / 16 : Nat) : Int) = ((A + A / 16 : Nat) : Int) from rfl, show (252645135 : Int) = ((252645135 : Nat) : Int) from rfl, and32_n (by omega)]; rfl
  have hq3 : q3 A < 262144 := by
    have x1 : (A + A / 16 &&& 252645135) ≤ A + A / 16 := Nat.and_le_left
    unfold q3; omega
  rw [e3]
  have hb := bc_nat hn
  rw [hA] at hb
  generalize q3 A = B at *
  have e4 : ((B : Nat) : Int) + ushr32 ((B : Nat) : Int) 8 = ((B + B / 256 : Nat) : Int) := by rw [ushr32_n (by omega) 8 (d := 256) rfl (by decide)]; rfl
  rw [e4, ushr32_n (by omega) 16 (d := 65536) rfl (by decide), show ((B + B / 256 : Nat) : Int) + (((B + B / 256) / 65536 : Nat) : Int) = ((B + B / 256 + (B + B / 256) / 65536 : Nat) : Int) from rfl, show (63 : Int) = ((63 : Nat) : Int) from rfl, and32_n (by omega), hb, bcS_e n]
/-! a bit of a meet -/
theorem bit_tb {n : Nat} {p : Int} (h : 0 ≤ p) : bit ((n : Nat) : Int) p = 1 ↔ n.testBit p.toNat = true := by
  rw [Nat.testBit_eq_decide_div_mod_eq, decide_eq_true_eq]
  unfold bit
  have e : ((n : Nat) : Int) / 2 ^ p.toNat = ((n / 2 ^ p.toNat : Nat) : Int) := by
    rw [← p2c]; rfl
  rw [e]
  omega
theorem and_rng {a b : Int} (h0 : 0 ≤ a) (h1 : a < 65536) (h2 : 0 ≤ b) : 0 ≤ and32 a b ∧ and32 a b ≤ a := by
  obtain ⟨n, rfl⟩ := Int.eq_ofNat_of_zero_le h0
  obtain ⟨m, rfl⟩ := Int.eq_ofNat_of_zero_le h2
  rw [and32_n (by omega)]
  have := @Nat.and_le_left n m
  omega
theorem and_bit {a b p : Int} (h0 : 0 ≤ a) (h1 : a < 65536) (h2 : 0 ≤ b) (hp : 0 ≤ p) : bit (and32 a b) p = 1 ↔ (bit a p = 1 ∧ bit b p = 1) := by
  obtain ⟨n, rfl⟩ := Int.eq_ofNat_of_zero_le h0
  obtain ⟨m, rfl⟩ := Int.eq_ofNat_of_zero_le h2
  rw [and32_n (by omega), bit_tb hp, bit_tb hp, bit_tb hp, Nat.testBit_and, Bool.and_eq_true]
/-- all bits but one -/
def nbS (p : Int) : Int := xor32 (shl32 1 p) (-1)
theorem nb_e : ∀ k : Nat, k < 16 → (iN (nbS (k : Int))).toBitVec.toNat = 4294967295 - 2 ^ k := by decide +kernel
theorem nb_and {a p : Int} (h0 : 0 ≤ a) (h1 : a < 65536) (hp : 0 ≤ p) (hp2 : p < 16) : (0 ≤ and32 a (nbS p) ∧ and32 a (nbS p) < 65536) ∧ ∀ j : Int, 0 ≤ j → j < 16 → (bit (and32 a (nbS p)) j = 1 ↔ (bit a j = 1 ∧ j ≠ p)) := by
  obtain ⟨n, rfl⟩ := Int.eq_ofNat_of_zero_le h0
  have hk := nb_e p.toNat (by omega)
  rw [Int.toNat_of_nonneg hp] at hk
  have hb : (iN ((n : Nat) : Int) &&& iN (nbS p)).toBitVec.toNat = n &&& (4294967295 - 2 ^ p.toNat) := by
    have e : (iN ((n : Nat) : Int) &&& iN (nbS p)).toBitVec = (iN ((n : Nat) : Int)).toBitVec &&& (iN (nbS p)).toBitVec := rfl
    rw [e, BitVec.toNat_and, hk, iN_nat, pk_tn (by omega)]
  have hle : n &&& (4294967295 - 2 ^ p.toNat) ≤ n := Nat.and_le_left
  have e2 : and32 ((n : Nat) : Int) (nbS p) = ((n &&& (4294967295 - 2 ^ p.toNat) : Nat) : Int) := by
    unfold and32
    show (iN ((n : Nat) : Int) &&& iN (nbS p)).toBitVec.toInt = _
    rw [BitVec.toInt_eq_toNat_of_lt (by rw [hb]; omega), hb]
  refine ⟨by rw [e2]; omega, fun j j0 j1 => ?_⟩
  have t : ∀ k : Nat, k < 16 → ∀ i : Nat, i < 16 → ((4294967295 - 2 ^ k : Nat).testBit i = true ↔ i ≠ k) := by decide +kernel
  rw [e2, bit_tb j0, bit_tb j0, Nat.testBit_and, Bool.and_eq_true, t p.toNat (by omega) j.toNat (by omega)]
  constructor <;> rintro ⟨x, y⟩ <;> exact ⟨x, by omega⟩

