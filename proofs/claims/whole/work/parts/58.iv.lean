/-! What class and reference have in common. -/
def RSh (M : Mem) (b fb sb eo lo ho : Int) (n mt yr : Int) (R C A L H : Int → Int) : Prop :=
  (M b 5 = n ∧ M b 6 = mt ∧ M b 7 = yr) ∧ (∀ p c, 0 ≤ p → p < n → 0 ≤ c → c < 6 → M (fb + p) c = R (6 * p + c)) ∧ (∀ p c, 0 ≤ p → p < n → 0 ≤ c → c < 12 → M (sb + p) c = C (12 * p + c)) ∧
  (∀ i, 0 ≤ i → i < 6 → M eo i = A i) ∧ (∀ y, 0 ≤ y → y < 401 → M lo y = L y ∧ (L y ≠ -1 → M ho y = H y))
def IS (M : Mem) : Prop := RSh M 24 26 43 59 60 61 (M 114 23) (M 114 26) (M 114 40) (M 124) (M 125) (M 126) (M 134) (M 135)
def IK (M : Mem) : Prop := (M 0 17 = 0 ∧ M 114 46 = -1) ∨ (M 0 17 = 1 ∧ M 114 46 ≠ -1 ∧ RSh M 62 64 81 97 98 99 (M 114 46) (M 114 47) (M 114 48) (M 136) (M 137) (M 138) (M 139) (M 140))
def IT (M : Mem) : Prop := (M 0 13 = M 114 13 ∧ ∀ l c, 0 ≤ l → l < M 114 13 → 0 ≤ c → c < 3 → M (11 + l) c = M 119 (3 * l + c)) ∧
  (M 0 14 = M 114 20 ∧ ∀ i, 0 ≤ i → i < M 114 20 → M 15 i = M 122 i ∧ M 16 i = M 123 i) ∧
  (M 0 15 = M 114 15 ∧ ∀ m k, 0 ≤ m → m < M 114 15 → 0 ≤ k → k < 24 → M (18 + m) k = M 120 (24 * m + k)) ∧
  (M 22 1 = M 114 17 ∧ M 22 2 = M 114 19 ∧ ∀ k, 0 ≤ k → k < M 114 17 → M 23 k = M 121 k)
def ID (M : Mem) : Prop := M 0 16 = M 114 39
def IV (M : Mem) : Prop := WV M ∧ IS M ∧ IT M
theorem IV.w {M : Mem} (h : IV M) : WV M := h.1
theorem IV.hn {M : Mem} (h : IV M) : M 24 5 = M 114 23 ∧ M 24 6 = M 114 26 ∧ M 24 7 = M 114 40 := h.2.1.1
theorem IV.fa {M : Mem} (h : IV M) {p c : Int} (h0 : 0 ≤ p) (h1 : p < M 114 23) (h2 : 0 ≤ c) (h3 : c < 6) : M (26 + p) c = M 124 (6 * p + c) := h.2.1.2.1 p c h0 h1 h2 h3
theorem IV.f0 {M : Mem} (h : IV M) {p : Int} (h0 : 0 ≤ p) (h1 : p < M 114 23) : M (26 + p) 0 = M 124 (6 * p) := by have := h.fa h0 h1 (c := 0) (by omega) (by omega); rw [Int.add_zero] at this; exact this
theorem IV.se {M : Mem} (h : IV M) {p c : Int} (h0 : 0 ≤ p) (h1 : p < M 114 23) (h2 : 0 ≤ c) (h3 : c < 12) : M (43 + p) c = M 125 (12 * p + c) := h.2.1.2.2.1 p c h0 h1 h2 h3
theorem IV.er {M : Mem} (h : IV M) {i : Int} (h0 : 0 ≤ i) (h1 : i < 6) : M 59 i = M 126 i := h.2.1.2.2.2.1 i h0 h1
theorem IV.ic {M : Mem} (h : IV M) {y : Int} (h0 : 0 ≤ y) (h1 : y < 401) : M 60 y = M 134 y ∧ (M 134 y ≠ -1 → M 61 y = M 135 y) := h.2.1.2.2.2.2 y h0 h1
theorem IV.la {M : Mem} (h : IV M) : M 0 13 = M 114 13 := h.2.2.1.1
theorem IV.lr {M : Mem} (h : IV M) {l c : Int} (h0 : 0 ≤ l) (h1 : l < M 114 13) (h2 : 0 ≤ c) (h3 : c < 3) : M (11 + l) c = M 119 (3 * l + c) := h.2.2.1.2 l c h0 h1 h2 h3
theorem IV.pi {M : Mem} (h : IV M) : M 0 14 = M 114 20 := h.2.2.2.1.1
theorem IV.pr {M : Mem} (h : IV M) {i : Int} (h0 : 0 ≤ i) (h1 : i < M 114 20) : M 15 i = M 122 i ∧ M 16 i = M 123 i := h.2.2.2.1.2 i h0 h1
theorem IV.me {M : Mem} (h : IV M) : M 0 15 = M 114 15 := h.2.2.2.2.1.1
theorem IV.mr {M : Mem} (h : IV M) {m k : Int} (h0 : 0 ≤ m) (h1 : m < M 114 15) (h2 : 0 ≤ k) (h3 : k < 24) : M (18 + m) k = M 120 (24 * m + k) := h.2.2.2.2.1.2 m k h0 h1 h2 h3
theorem IV.lw {M : Mem} (h : IV M) : M 22 1 = M 114 17 ∧ M 22 2 = M 114 19 := ⟨h.2.2.2.2.2.1, h.2.2.2.2.2.2.1⟩
theorem IV.bo {M : Mem} (h : IV M) {k : Int} (h0 : 0 ≤ k) (h1 : k < M 114 17) : M 23 k = M 121 k := h.2.2.2.2.2.2.2 k h0 h1
def cntB (M : Mem) (n : Nat) : Int := sm (fun p => if M 124 (6 * p) ≠ 3 then 2 ^ p.toNat else 0) n
noncomputable def nrB (M : Mem) (w : Int) (n : Nat) : Int := sm (fun p => if b2i (M 124 (6 * p) ≠ 3 ∧ nrS M (M 124 (6 * p)) (M 124 (6 * p + 2)) w) = 1 then 2 ^ p.toNat else 0) n
theorem cntB_0 (M : Mem) : ∀ i : Int, ¬ M 124 (6 * i) ≠ 3 → (fun p : Int => if M 124 (6 * p) ≠ 3 then (2 : Int) ^ p.toNat else 0) i = 0 := fun i h => if_neg h
theorem cntB_1 (M : Mem) : ∀ i : Int, M 124 (6 * i) ≠ 3 → (fun p : Int => if M 124 (6 * p) ≠ 3 then (2 : Int) ^ p.toNat else 0) i = 2 ^ i.toNat := fun i h => if_pos h
theorem nrB_0 (M : Mem) (w : Int) : ∀ i : Int, ¬ (M 124 (6 * i) ≠ 3 ∧ nrS M (M 124 (6 * i)) (M 124 (6 * i + 2)) w) → (fun p : Int => if b2i (M 124 (6 * p) ≠ 3 ∧ nrS M (M 124 (6 * p)) (M 124 (6 * p + 2)) w) = 1 then (2 : Int) ^ p.toNat else 0) i = 0 := fun i h => if_neg (by rw [← b2i_0 h]; decide)
theorem nrB_1 (M : Mem) (w : Int) : ∀ i : Int, (M 124 (6 * i) ≠ 3 ∧ nrS M (M 124 (6 * i)) (M 124 (6 * i + 2)) w) → (fun p : Int => if b2i (M 124 (6 * p) ≠ 3 ∧ nrS M (M 124 (6 * p)) (M 124 (6 * p + 2)) w) = 1 then (2 : Int) ^ p.toNat else 0) i = 2 ^ i.toNat := fun i h => if_pos (b2i_1 h).symm
theorem cntB_rng (M : Mem) {n : Nat} (hn : n ≤ 16) : 0 ≤ cntB M n ∧ cntB M n < 65536 := by
  have h := sm_bits (cntB_0 M) (cntB_1 M) n
  have h2 := p2i_le hn
  have h3 : (2 : Int) ^ 16 = 65536 := rfl
  unfold cntB; omega
theorem nrB_rng (M : Mem) (w : Int) {n : Nat} (hn : n ≤ 16) : 0 ≤ nrB M w n ∧ nrB M w n < 65536 := by
  have h := sm_bits (nrB_0 M w) (nrB_1 M w) n
  have h2 := p2i_le hn
  have h3 : (2 : Int) ^ 16 = 65536 := rfl
  unfold nrB; omega
theorem bit_hi {b p : Int} {n : Nat} (h0 : 0 ≤ b) (h1 : b < 2 ^ n) (h : (n : Int) ≤ p) : bit b p = 0 := by
  have h2 := p2i_le (a := n) (b := p.toNat) (by omega)
  unfold bit
  rw [Int.ediv_eq_zero_of_lt h0 (by omega)]; rfl
theorem cntB_bit (M : Mem) {n : Nat} {p : Int} (h0 : 0 ≤ p) : bit (cntB M n) p = 1 ↔ (p < n ∧ M 124 (6 * p) ≠ 3) := by
  by_cases h : p < n
  · have e := sm_bit (cntB_0 M) (cntB_1 M) h0 n h
    have e2 : bit (cntB M n) p = b2i (M 124 (6 * p) ≠ 3) := e
    rw [e2]
    rcases b2i_eq (b := b2i (M 124 (6 * p) ≠ 3)) rfl with q | q
    · exact ⟨fun _ => ⟨h, q.2⟩, fun _ => q.1⟩
    · exact ⟨fun z => absurd z (by rw [q.1]; decide), fun z => absurd z.2 q.2⟩
  · have hb := sm_bits (cntB_0 M) (cntB_1 M) n
    have e : bit (cntB M n) p = 0 := bit_hi hb.1 hb.2 (by omega)
    rw [e]
    exact ⟨fun z => absurd z (by decide), fun z => absurd z.1 h⟩
theorem nrB_bit (M : Mem) (w : Int) {n : Nat} {p : Int} (h0 : 0 ≤ p) : bit (nrB M w n) p = 1 ↔ (p < n ∧ M 124 (6 * p) ≠ 3 ∧ nrS M (M 124 (6 * p)) (M 124 (6 * p + 2)) w) := by
  by_cases h : p < n
  · have e := sm_bit (nrB_0 M w) (nrB_1 M w) h0 n h
    have e2 : bit (nrB M w n) p = b2i (M 124 (6 * p) ≠ 3 ∧ nrS M (M 124 (6 * p)) (M 124 (6 * p + 2)) w) := e
    rw [e2]
    rcases b2i_eq (b := b2i (M 124 (6 * p) ≠ 3 ∧ nrS M (M 124 (6 * p)) (M 124 (6 * p + 2)) w)) rfl with q | q
    · exact ⟨fun _ => ⟨h, q.2⟩, fun _ => q.1⟩
    · exact ⟨fun z => absurd z (by rw [q.1]; decide), fun z => absurd z.2 q.2⟩
  · have hb := sm_bits (nrB_0 M w) (nrB_1 M w) n
    have e : bit (nrB M w n) p = 0 := bit_hi hb.1 hb.2 (by omega)
    rw [e]
    exact ⟨fun z => absurd z (by decide), fun z => absurd z.1 h⟩
theorem sm_skip {f : Int → Int} {k : Int} (hk : 0 ≤ k) (h : f k = 0) : sm f k.toNat = sm f (k + 1).toNat := by rw [sm_s _ hk, h, Int.add_zero]
/-! dates -/
theorem d_skip (M : Mem) (m p : Int) {a : Nat} : ∀ k : Nat, (∀ j : Nat, a ≤ j → j < a + k → ¬ okD M m p (yr0 M p + j)) → dN M m p (a + k) = dN M m p a ∧ dF M m p (a + k) = dF M m p a ∧ dL M m p (a + k) = dL M m p a
  | 0, _ => ⟨rfl, rfl, rfl⟩
  | k + 1, h => by
    have ih := d_skip M m p (a := a) k (fun j x y => h j x (by omega))
    have z := b2i_0 (h (a + k) (by omega) (by omega))
    have e : a + (k + 1) = (a + k) + 1 := rfl
    rw [e, dN, dF, dL, ← z]
    simp only [Int.add_zero]
    exact ⟨ih.1, by rw [if_neg (by decide)]; exact ih.2.1, by rw [if_neg (by decide)]; exact ih.2.2⟩
theorem d_skip0 (M : Mem) (m p : Int) (n : Nat) (h : ∀ j : Nat, j < n → ¬ okD M m p (yr0 M p + j)) : dN M m p n = 0 ∧ dF M m p n = -1 ∧ dL M m p n = -1 := by
  have z := d_skip M m p (a := 0) n (fun j _ y => h j (by omega))
  rw [Nat.zero_add] at z
  exact z
theorem dF_iff (M : Mem) (m p : Int) : ∀ n : Nat, (dN M m p n = 0 ↔ dF M m p n = -1) ∧ (-1 ≤ dF M m p n ∧ dF M m p n ≤ 400) ∧ (-1 ≤ dL M m p n ∧ dL M m p n ≤ 400)
  | 0 => by simp [dN, dF, dL]
  | n + 1 => by
    have ih := dF_iff M m p n
    have hr := dN_rng M m p n
    rw [dN, dF, dL]
    rcases b2i_eq (b := b2i (okD M m p (yr0 M p + n))) rfl with q | q
    · have hy := q.2.1
      rw [q.1, if_pos rfl, if_pos rfl]
      split <;> omega
    · rw [q.1, if_neg (by decide), if_neg (by decide)]; omega
/-- from the first YEAR that can be on -/
def frS (M : Mem) (p : Int) : Int := if M 124 (6 * p + 5) = -1 then max 0 (yr0 M p) else max (max 0 (yr0 M p)) (M 122 (M 124 (6 * p + 5)))
def toS (M : Mem) (p : Int) : Int := min 400 (M 124 (6 * p + 2) + M 124 (6 * p + 3))
theorem ok_lo {M : Mem} {m p y : Int} (h : y < frS M p) (h2 : yr0 M p ≤ y) : ¬ okD M m p y := by
  rintro ⟨a, b, -⟩
  unfold frS at h
  split at h <;> omega
theorem ok_hi {M : Mem} {m p y : Int} (h : toS M p < y) (h2 : y ≤ M 124 (6 * p + 2) + M 124 (6 * p + 3)) : ¬ okD M m p y := by
  rintro ⟨a, -⟩
  unfold toS at h
  omega
theorem ok_mid {M : Mem} {m p y : Int} (h : frS M p ≤ y) (h2 : y ≤ toS M p) : okD M m p y ↔ (M 134 y = -1 ∨ (M 134 y ≤ highS M m p ∧ lowS M m p ≤ M 135 y)) := by
  unfold okD dtP
  unfold frS at h
  unfold toS at h2
  constructor
  · intro q; exact q.2.2
  · intro q
    refine ⟨?_, ?_, q⟩
    · split at h <;> omega
    · split at h
      · exact Or.inl (by assumption)
      · exact Or.inr (by omega)
theorem d_beg {M : Mem} {m p : Int} (h : yr0 M p ≤ frS M p) : dN M m p (frS M p - yr0 M p).toNat = 0 ∧ dF M m p (frS M p - yr0 M p).toNat = -1 ∧ dL M m p (frS M p - yr0 M p).toNat = -1 :=
  d_skip0 M m p _ (fun j hj => ok_lo (by omega) (by omega))
theorem d_end {M : Mem} {m p y a b d : Int} (hs : 0 ≤ M 124 (6 * p + 3)) (h : yr0 M p ≤ frS M p) (h1 : frS M p ≤ y) (h2 : toS M p < y) (h3 : y = frS M p ∨ y ≤ toS M p + 1) (ha : a = dN M m p (y - yr0 M p).toNat) (hb : b = dF M m p (y - yr0 M p).toNat) (hd : d = dL M m p (y - yr0 M p).toNat) :
    a = dN M m p (nY M p) ∧ b = dF M m p (nY M p) ∧ d = dL M m p (nY M p) := by
  have e : yr0 M p = M 124 (6 * p + 2) - M 124 (6 * p + 3) := rfl
  have hY : (nY M p : Int) = 2 * M 124 (6 * p + 3) + 1 := by unfold nY; omega
  by_cases c : (y - yr0 M p).toNat ≤ nY M p
  · have z := d_skip M m p (a := (y - yr0 M p).toNat) (nY M p - (y - yr0 M p).toNat) (fun j x w => ok_hi (by omega) (by omega))
    rw [show (y - yr0 M p).toNat + (nY M p - (y - yr0 M p).toNat) = nY M p by omega] at z
    rw [z.1, z.2.1, z.2.2]
    exact ⟨ha, hb, hd⟩
  · have hy : y = frS M p := by
      rcases h3 with q | q
      · exact q
      · unfold toS at q; omega
    have z := d_beg (m := m) h
    rw [← hy] at z
    have w := d_skip0 M m p (nY M p) (fun j hj => ok_lo (by omega) (by omega))
    rw [w.1, w.2.1, w.2.2, ha, hb, hd]
    exact z
theorem d_one {M : Mem} {m p y : Int} (h : yr0 M p ≤ y) (ho : okD M m p y) : dN M m p (y + 1 - yr0 M p).toNat = dN M m p (y - yr0 M p).toNat + 1 ∧ dF M m p (y + 1 - yr0 M p).toNat = (if dF M m p (y - yr0 M p).toNat = -1 then y else dF M m p (y - yr0 M p).toNat) ∧ dL M m p (y + 1 - yr0 M p).toNat = y := by
  have z := d_step M m p h
  have i := (dF_iff M m p (y - yr0 M p).toNat).1
  rw [z.1, z.2.1, z.2.2, ← b2i_1 ho, if_pos rfl, if_pos rfl]
  refine ⟨rfl, ?_, rfl⟩
  by_cases q : dF M m p (y - yr0 M p).toNat = -1
  · rw [if_pos q, if_pos (i.mpr q)]
  · rw [if_neg q, if_neg (fun w => q (i.mp w))]
theorem d_non {M : Mem} {m p y : Int} (h : yr0 M p ≤ y) (ho : ¬ okD M m p y) : dN M m p (y + 1 - yr0 M p).toNat = dN M m p (y - yr0 M p).toNat ∧ dF M m p (y + 1 - yr0 M p).toNat = dF M m p (y - yr0 M p).toNat ∧ dL M m p (y + 1 - yr0 M p).toNat = dL M m p (y - yr0 M p).toNat := by
  have z := d_step M m p h
  rw [z.1, z.2.1, z.2.2, ← b2i_0 ho, if_neg (by decide), if_neg (by decide), Int.add_zero]
  exact ⟨rfl, rfl, rfl⟩

