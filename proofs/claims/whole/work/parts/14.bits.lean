/-! Bits of numbers. -/
theorem fa_or (a b : Nat) : nI a ||| nI b = nI (a ||| b) := by
  apply Int32.toBitVec_inj.1
  show BitVec.ofNat 32 a ||| BitVec.ofNat 32 b = BitVec.ofNat 32 (a ||| b)
  apply BitVec.eq_of_getLsbD_eq
  intro i hi
  simp [hi]
theorem fa_and (a b : Nat) : nI a &&& nI b = nI (a &&& b) := by
  apply Int32.toBitVec_inj.1
  show BitVec.ofNat 32 a &&& BitVec.ofNat 32 b = BitVec.ofNat 32 (a &&& b)
  apply BitVec.eq_of_getLsbD_eq
  intro i hi
  simp [hi]
theorem iN_nat (n : Nat) : iN (n : Int) = nI n := Int32.ofInt_eq_ofNat
theorem p2c (k : Nat) : ((2 ^ k : Nat) : Int) = (2 : Int) ^ k := by simp
theorem p2_lt {k : Nat} (h : k < 30) : (2 : Nat) ^ k ≤ 536870912 := Nat.pow_le_pow_right (n := 2) (by decide) (show k ≤ 29 by omega)
theorem or_bit {a : Int} {k : Nat} (h0 : 0 ≤ a) (h1 : a < 2 ^ k) (hk : k < 30) : or32 a (2 ^ k) = a + 2 ^ k := by
  obtain ⟨n, rfl⟩ := Int.eq_ofNat_of_zero_le h0
  rw [← p2c] at h1 ⊢
  have hn : n < 2 ^ k := Int.ofNat_lt.mp h1
  have h2 := p2_lt hk
  have e : nI n ||| nI (2 ^ k) = nI (2 ^ k + n) := by
    rw [fa_or, Nat.or_comm]
    have := Nat.two_pow_add_eq_or_of_lt hn 1
    rw [Nat.mul_one] at this
    rw [this]
  unfold or32
  rw [iN_nat, iN_nat, e, nI_toInt (by omega)]
  omega
theorem shl1 {p : Int} (h0 : 0 ≤ p) (h1 : p < 16) : shl32 1 p = 2 ^ p.toNat := by
  have h : ∀ n : Nat, n < 16 → shl32 1 (n : Int) = 2 ^ n := by decide +kernel
  have := h p.toNat (by omega)
  have e : ((p.toNat : Nat) : Int) = p := by omega
  rw [e] at this
  exact this
/-- a sum of bits stays under the next one -/
theorem sm_bits {f : Int → Int} {c : Int → Prop} (h0 : ∀ i, ¬ c i → f i = 0) (h1 : ∀ i, c i → f i = 2 ^ i.toNat) : ∀ n : Nat, 0 ≤ sm f n ∧ sm f n < 2 ^ n
  | 0 => by simp [sm]
  | n + 1 => by
    have h := sm_bits h0 h1 n
    rw [sm, Int.pow_succ]
    have e : (n : Int).toNat = n := Int.toNat_natCast n
    by_cases hc : c (n : Int)
    · rw [h1 _ hc, e]; omega
    · rw [h0 _ hc]; omega
theorem or_acc {f : Int → Int} {c : Int → Prop} (h0 : ∀ i, ¬ c i → f i = 0) (h1 : ∀ i, c i → f i = 2 ^ i.toNat) {p : Int} (hp : 0 ≤ p) (hp2 : p < 16) (hc : c p) : or32 (sm f p.toNat) (shl32 1 p) = sm f (p + 1).toNat := by
  have h := sm_bits h0 h1 p.toNat
  rw [shl1 hp hp2, or_bit h.1 h.2 (by omega), sm_s _ hp, h1 p hc]
theorem or_0 {a : Int} (h : 0 ≤ a) (h2 : a < 1073741824) : or32 a 0 = a := by
  unfold or32
  have : iN a ||| iN 0 = iN a := by
    obtain ⟨n, rfl⟩ := Int.eq_ofNat_of_zero_le h
    rw [show (0 : Int) = ((0 : Nat) : Int) from rfl, iN_nat, iN_nat, fa_or, Nat.or_zero]
  rw [this, iN_toInt (by constructor <;> omega)]
def bit (b p : Int) : Int := b / 2 ^ p.toNat % 2
theorem bit_01 (b p : Int) : bit b p = 0 ∨ bit b p = 1 := by unfold bit; omega
theorem hold_eq {b p : Int} (h0 : 0 ≤ b) (h1 : b < 65536) (h2 : 0 ≤ p) (h3 : p < 16) : and32 (shr32 b p) 1 = bit b p := by
  have hp : ∀ n : Nat, n < 16 → ((iN (n : Int) &&& 31).toBitVec.smod 32).toNat = n := by decide +kernel
  have hq := hp p.toNat (by omega)
  have e : ((p.toNat : Nat) : Int) = p := by omega
  rw [e] at hq
  have hs : shr32 b p = b / 2 ^ p.toNat := by
    unfold shr32
    rw [pk_shr (iN b) (iN p &&& 31) p.toNat hq, iN_toInt (by constructor <;> omega), Int.shiftRight_eq_div_pow]
    simp
  rw [hs]
  have h4 : 0 ≤ b / 2 ^ p.toNat := Int.ediv_nonneg h0 (Int.le_of_lt (Int.pow_pos (by decide)))
  have h5 : b / 2 ^ p.toNat ≤ b := Int.ediv_le_self _ h0
  unfold bit
  generalize b / 2 ^ p.toNat = x at h4 h5
  obtain ⟨n, rfl⟩ := Int.eq_ofNat_of_zero_le h4
  unfold and32
  rw [iN_nat, show (1 : Int) = ((1 : Nat) : Int) from rfl, iN_nat, fa_and, show (1 : Nat) = 2 ^ 1 - 1 from rfl, Nat.and_two_pow_sub_one_eq_mod, nI_toInt (by omega)]
  omega
theorem sm_bit {f : Int → Int} {c : Int → Prop} (h0 : ∀ i, ¬ c i → f i = 0) (h1 : ∀ i, c i → f i = 2 ^ i.toNat) {p : Int} (hp : 0 ≤ p) : ∀ n : Nat, p < n → bit (sm f n) p = b2i (c p)
  | 0, h => by omega
  | n + 1, h => by
    have hb := sm_bits h0 h1 n
    have e : (n : Int).toNat = n := Int.toNat_natCast n
    have hpos : (0 : Int) < 2 ^ p.toNat := Int.pow_pos (by decide)
    by_cases hpn : p = n
    · subst hpn
      rw [sm]
      unfold bit
      rw [e]
      by_cases hc : c (n : Int)
      · rw [h1 _ hc, e, ← b2i_1 hc]
        have : (sm f n + 2 ^ n) / 2 ^ n = 1 := by
          rw [e] at hpos
          rw [Int.add_ediv_of_dvd_right (Int.dvd_refl _), Int.ediv_self (by omega), Int.ediv_eq_zero_of_lt hb.1 hb.2]
          rfl
        rw [this]; rfl
      · rw [h0 _ hc, ← b2i_0 hc, Int.add_zero, Int.ediv_eq_zero_of_lt hb.1 hb.2]; rfl
    · have ih := sm_bit h0 h1 hp n (by omega)
      rw [sm]
      by_cases hc : c (n : Int)
      · rw [h1 _ hc, e, ← ih]
        unfold bit
        have hd : (2 : Int) ^ p.toNat * 2 ∣ 2 ^ n := by
          rw [← Int.pow_succ]
          refine ⟨2 ^ (n - (p.toNat + 1)), ?_⟩
          rw [← Int.pow_add]
          congr 1
          omega
        obtain ⟨q, hq⟩ := hd
        rw [hq, Int.mul_assoc, Int.add_mul_ediv_left _ _ (by omega)]
        omega
      · rw [h0 _ hc, Int.add_zero]; exact ih
