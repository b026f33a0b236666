/-! What the reference's numbers are: bounds (WM), and what its private methods tell, as plain functions of M. -/
def WSh (la pi n mt yr : Int) (R C A L H : Int → Int) : Prop :=
  (0 ≤ n ∧ n ≤ 16) ∧ (0 ≤ mt ∧ mt ≤ 6) ∧ (0 ≤ yr ∧ yr ≤ 40) ∧
  (∀ p, 0 ≤ p → p < n → (0 ≤ R (6 * p) ∧ R (6 * p) ≤ 4) ∧ (0 ≤ R (6 * p + 1) ∧ R (6 * p + 1) ≤ 4) ∧ (0 ≤ R (6 * p + 2) ∧ R (6 * p + 2) ≤ 400) ∧ (0 ≤ R (6 * p + 3) ∧ R (6 * p + 3) ≤ 20) ∧ (-1 ≤ R (6 * p + 4) ∧ R (6 * p + 4) < la) ∧ (-1 ≤ R (6 * p + 5) ∧ R (6 * p + 5) < pi)) ∧
  (∀ p c, 0 ≤ p → p < n → 0 ≤ c → c < 12 → 0 ≤ C (12 * p + c) ∧ C (12 * p + c) ≤ 99) ∧
  (∀ i, 0 ≤ i → i < 6 → 0 ≤ A i ∧ A i ≤ 400) ∧
  (∀ y, 0 ≤ y → y < 401 → -1 ≤ L y ∧ L y ≤ 5 ∧ -1 ≤ H y ∧ H y ≤ 5)
def WTab (M : Mem) : Prop :=
  (0 ≤ M 114 13 ∧ M 114 13 ≤ 4) ∧ (∀ i, 0 ≤ i → i < 12 → -20 ≤ M 119 i ∧ M 119 i ≤ 20) ∧
  (0 ≤ M 114 15 ∧ M 114 15 ≤ 4) ∧ (∀ i, 0 ≤ i → i < 96 → 0 ≤ M 120 i ∧ M 120 i ≤ 4) ∧
  (0 ≤ M 114 17 ∧ M 114 17 ≤ 5) ∧ (∀ i, 0 ≤ i → i < 5 → 0 ≤ M 121 i ∧ M 121 i ≤ 999) ∧ (0 ≤ M 114 19 ∧ M 114 19 ≤ 99) ∧
  (0 ≤ M 114 20 ∧ M 114 20 ≤ 4) ∧ (∀ i, 0 ≤ i → i < 4 → (0 ≤ M 122 i ∧ M 122 i ≤ 400) ∧ 0 ≤ M 123 i ∧ M 123 i ≤ 9)
def WPage (M : Mem) : Prop := (0 ≤ M 114 1 ∧ M 114 1 ≤ 40) ∧ ∀ i, 0 ≤ i → i < M 114 1 → 1 ≤ M 115 i ∧ M 115 i ≤ 126
def WPic (M : Mem) : Prop := WSh (M 114 13) (M 114 20) (M 114 23) (M 114 26) (M 114 40) (M 124) (M 125) (M 126) (M 134) (M 135)
def WKept (M : Mem) : Prop := -1 ≤ M 114 46 ∧ M 114 46 ≤ 16 ∧ (M 114 46 ≠ -1 → WSh (M 114 13) (M 114 20) (M 114 46) (M 114 47) (M 114 48) (M 136) (M 137) (M 138) (M 139) (M 140))
def WDone (M : Mem) : Prop := 0 ≤ M 114 39 ∧ M 114 39 ≤ 30
/-- what values rest on -/
def WV (M : Mem) : Prop := WTab M ∧ WPic M
theorem WV.lam {M : Mem} (h : WV M) : (0 ≤ M 114 13 ∧ M 114 13 ≤ 4) ∧ ∀ i, 0 ≤ i → i < 12 → -20 ≤ M 119 i ∧ M 119 i ≤ 20 := ⟨h.1.1, h.1.2.1⟩
theorem WV.mea {M : Mem} (h : WV M) : (0 ≤ M 114 15 ∧ M 114 15 ≤ 4) ∧ ∀ i, 0 ≤ i → i < 96 → 0 ≤ M 120 i ∧ M 120 i ≤ 4 := ⟨h.1.2.2.1, h.1.2.2.2.1⟩
theorem WV.law {M : Mem} (h : WV M) : (0 ≤ M 114 17 ∧ M 114 17 ≤ 5) ∧ (∀ i, 0 ≤ i → i < 5 → 0 ≤ M 121 i ∧ M 121 i ≤ 999) ∧ 0 ≤ M 114 19 ∧ M 114 19 ≤ 99 := ⟨h.1.2.2.2.2.1, h.1.2.2.2.2.2.1, h.1.2.2.2.2.2.2.1⟩
theorem WV.pig {M : Mem} (h : WV M) : (0 ≤ M 114 20 ∧ M 114 20 ≤ 4) ∧ ∀ i, 0 ≤ i → i < 4 → (0 ≤ M 122 i ∧ M 122 i ≤ 400) ∧ 0 ≤ M 123 i ∧ M 123 i ≤ 9 := h.1.2.2.2.2.2.2.2
theorem WV.n {M : Mem} (h : WV M) : (0 ≤ M 114 23 ∧ M 114 23 ≤ 16) ∧ (0 ≤ M 114 26 ∧ M 114 26 ≤ 6) ∧ (0 ≤ M 114 40 ∧ M 114 40 ≤ 40) := ⟨h.2.1, h.2.2.1, h.2.2.2.1⟩
theorem WV.row {M : Mem} (h : WV M) {p : Int} (h0 : 0 ≤ p) (h1 : p < M 114 23) : (0 ≤ M 124 (6 * p) ∧ M 124 (6 * p) ≤ 4) ∧ (0 ≤ M 124 (6 * p + 1) ∧ M 124 (6 * p + 1) ≤ 4) ∧ (0 ≤ M 124 (6 * p + 2) ∧ M 124 (6 * p + 2) ≤ 400) ∧ (0 ≤ M 124 (6 * p + 3) ∧ M 124 (6 * p + 3) ≤ 20) ∧ (-1 ≤ M 124 (6 * p + 4) ∧ M 124 (6 * p + 4) < M 114 13) ∧ (-1 ≤ M 124 (6 * p + 5) ∧ M 124 (6 * p + 5) < M 114 20) := h.2.2.2.2.1 p h0 h1
theorem WV.col {M : Mem} (h : WV M) {p c : Int} (h0 : 0 ≤ p) (h1 : p < M 114 23) (h2 : 0 ≤ c) (h3 : c < 12) : 0 ≤ M 125 (12 * p + c) ∧ M 125 (12 * p + c) ≤ 99 := h.2.2.2.2.2.1 p c h0 h1 h2 h3
theorem WV.mts {M : Mem} (h : WV M) {i : Int} (h0 : 0 ≤ i) (h1 : i < 6) : 0 ≤ M 126 i ∧ M 126 i ≤ 400 := h.2.2.2.2.2.2.1 i h0 h1
theorem WV.ice {M : Mem} (h : WV M) {y : Int} (h0 : 0 ≤ y) (h1 : y < 401) : -1 ≤ M 134 y ∧ M 134 y ≤ 5 ∧ -1 ≤ M 135 y ∧ M 135 y ≤ 5 := h.2.2.2.2.2.2.2 y h0 h1
def colS (c : Int) : Int := if c = 114 then 0 else if c = 103 then 1 else if c = 98 then 2 else -1
def btw (v : Int) : Int := if v < 0 then 0 else if 99 < v then 99 else v
theorem btw_rng (v : Int) : 0 ≤ btw v ∧ btw v ≤ 99 := by unfold btw; split <;> (try split) <;> omega
def rgt (M : Mem) (p c : Int) : Int :=
  if 0 < c % 3 ∨ M 124 (6 * p + 5) = -1 then btw (if M 124 (6 * p + 4) = -1 then M 125 (12 * p + c) else M 125 (12 * p + c) - M 119 (3 * M 124 (6 * p + 4) + c % 3))
  else btw (btw (if M 124 (6 * p + 4) = -1 then M 125 (12 * p + c) else M 125 (12 * p + c) - M 119 (3 * M 124 (6 * p + 4) + c % 3)) + M 123 (M 124 (6 * p + 5)) * ((500 - M 124 (6 * p + 2)) / 50))
theorem rgt_rng (M : Mem) (p c : Int) : 0 ≤ rgt M p c ∧ rgt M p c ≤ 99 := by unfold rgt; split <;> exact btw_rng _
/-- f 0 + .. + f (n - 1) -/
def sm (f : Int → Int) : Nat → Int
  | 0 => 0
  | n + 1 => sm f n + f (n : Int)
theorem sm_0 (f : Int → Int) : sm f (0 : Int).toNat = 0 := rfl
theorem sm_s (f : Int → Int) {i : Int} (h : 0 ≤ i) : sm f (i + 1).toNat = sm f i.toNat + f i := by
  have e : (i + 1).toNat = i.toNat + 1 := by omega
  have e2 : ((i.toNat : Nat) : Int) = i := by omega
  rw [e, sm, e2]
theorem sm_congr {f g : Int → Int} : ∀ {n : Nat}, (∀ i : Int, 0 ≤ i → i < n → f i = g i) → sm f n = sm g n
  | 0, _ => rfl
  | n + 1, h => by rw [sm, sm, sm_congr (fun i a b => h i a (by omega)), h n (by omega) (by omega)]
theorem sm_bd {f : Int → Int} {a b : Int} : ∀ {n : Nat}, (∀ i : Int, 0 ≤ i → i < n → a ≤ f i ∧ f i ≤ b) → n * a ≤ sm f n ∧ sm f n ≤ n * b
  | 0, _ => by simp [sm]
  | n + 1, h => by
    have h1 := sm_bd (f := f) (a := a) (b := b) (n := n) (fun i x y => h i x (by omega))
    have h2 := h n (by omega) (by omega)
    have e1 : ((n + 1 : Nat) : Int) * a = n * a + a := by rw [Int.natCast_add, Int.add_mul]; simp
    have e2 : ((n + 1 : Nat) : Int) * b = n * b + b := by rw [Int.natCast_add, Int.add_mul]; simp
    rw [sm, e1, e2]
    omega
def smS (M : Mem) (m p w : Int) : Int := sm (fun k => M 120 (24 * m + 12 * w + k) * rgt M p k) 12
theorem mul_bd {a b A B : Int} (h0 : 0 ≤ a) (h1 : a ≤ A) (h2 : 0 ≤ b) (h3 : b ≤ B) : 0 ≤ a * b ∧ a * b ≤ A * B :=
  ⟨Int.mul_nonneg h0 h2, Int.mul_le_mul h1 h3 h2 (by omega)⟩
theorem smS_part {M : Mem} (h : WV M) {m p w k : Int} (h0 : 0 ≤ m) (h1 : m < 4) (h2 : 0 ≤ w) (h3 : w < 2) (h4 : 0 ≤ k) (h5 : k < 12) : 0 ≤ M 120 (24 * m + 12 * w + k) * rgt M p k ∧ M 120 (24 * m + 12 * w + k) * rgt M p k ≤ 396 := by
  have a := h.mea.2 (24 * m + 12 * w + k) (by omega) (by omega)
  have b := rgt_rng M p k
  have c := mul_bd a.1 a.2 b.1 b.2
  omega
theorem smS_upto {M : Mem} (h : WV M) {m p w : Int} (h0 : 0 ≤ m) (h1 : m < 4) (h2 : 0 ≤ w) (h3 : w < 2) {n : Nat} (hn : n ≤ 12) : 0 ≤ sm (fun k => M 120 (24 * m + 12 * w + k) * rgt M p k) n ∧ sm (fun k => M 120 (24 * m + 12 * w + k) * rgt M p k) n ≤ 4752 := by
  have := sm_bd (f := fun k => M 120 (24 * m + 12 * w + k) * rgt M p k) (a := 0) (b := 396) (n := n) (fun i x y => smS_part h h0 h1 h2 h3 x (by omega))
  omega
theorem smS_rng {M : Mem} (h : WV M) {m p w : Int} (h0 : 0 ≤ m) (h1 : m < 4) (h2 : 0 ≤ w) (h3 : w < 2) : 0 ≤ smS M m p w ∧ smS M m p w ≤ 4752 := smS_upto h h0 h1 h2 h3 (n := 12) (by omega)
def vlu (M : Mem) (m p : Int) : Int := 100 * smS M m p 0 / (if smS M m p 1 < 1 then 1 else smS M m p 1)
theorem vlu_rng {M : Mem} (h : WV M) {m p : Int} (h0 : 0 ≤ m) (h1 : m < 4) : 0 ≤ vlu M m p ∧ vlu M m p ≤ 475200 := by
  have a := smS_rng h (p := p) h0 h1 (w := 0) (by omega) (by omega)
  have b := smS_rng h (p := p) h0 h1 (w := 1) (by omega) (by omega)
  unfold vlu
  have hd : 0 < (if smS M m p 1 < 1 then 1 else smS M m p 1) := by split <;> omega
  constructor
  · exact Int.ediv_nonneg (by omega) (by omega)
  · have := Int.ediv_le_self (a := 100 * smS M m p 0) (if smS M m p 1 < 1 then 1 else smS M m p 1) (by omega)
    omega
def clsS (M : Mem) (v : Int) : Int := sm (fun k => if M 121 k ≤ v then 1 else 0) (M 114 17).toNat
theorem cnt_rng {f : Int → Int} {n : Nat} (h : ∀ i : Int, f i = 0 ∨ f i = 1) : 0 ≤ sm f n ∧ sm f n ≤ n := by
  have := sm_bd (f := f) (a := 0) (b := 1) (n := n) (fun i _ _ => by rcases h i with q | q <;> omega)
  omega
theorem clsS_rng (M : Mem) (v : Int) (h : 0 ≤ M 114 17) : 0 ≤ clsS M v ∧ clsS M v ≤ M 114 17 := by
  have := cnt_rng (f := fun k => if M 121 k ≤ v then 1 else 0) (n := (M 114 17).toNat) (fun i => by split <;> simp)
  unfold clsS
  omega
def lowS (M : Mem) (m p : Int) : Int := clsS M (vlu M m p - M 114 19)
def highS (M : Mem) (m p : Int) : Int := clsS M (vlu M m p + M 114 19)
/-- some mountain went off 0 to so many years ahead -/
def nrK (M : Mem) (kind year w : Int) (n : Nat) : Prop := ∃ i : Int, 0 ≤ i ∧ i < (n : Int) ∧ 0 ≤ year - M 126 i ∧ year - M 126 i ≤ (if kind = 4 then w + 5 else w)
theorem nrK_0 (M : Mem) (kind year w : Int) : ¬ nrK M kind year w 0 := fun ⟨i, a, b, _⟩ => by omega
theorem nrK_s (M : Mem) (kind year w : Int) {i : Int} (h : 0 ≤ i) : nrK M kind year w (i + 1).toNat ↔ nrK M kind year w i.toNat ∨ (0 ≤ year - M 126 i ∧ year - M 126 i ≤ (if kind = 4 then w + 5 else w)) := by
  constructor
  · rintro ⟨j, a, b, c, d⟩
    by_cases e : j = i
    · subst e; exact Or.inr ⟨c, d⟩
    · exact Or.inl ⟨j, a, by omega, c, d⟩
  · rintro (⟨j, a, b, c, d⟩ | ⟨c, d⟩)
    · exact ⟨j, a, by omega, c, d⟩
    · exact ⟨i, h, by omega, c, d⟩
def nrS (M : Mem) (kind year w : Int) : Prop := nrK M kind year w (M 114 26).toNat

