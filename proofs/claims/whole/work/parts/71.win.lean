/-! Choices: the other side, how far sums go. -/
theorem sm_neg (f : Int → Int) : ∀ n : Nat, sm (fun i => -(f i)) n = -(sm f n)
  | 0 => rfl
  | n + 1 => by rw [sm, sm, sm_neg f n]; omega
theorem sm_mul (c : Int) (f : Int → Int) : ∀ n : Nat, sm (fun i => c * f i) n = c * sm f n
  | 0 => by rw [sm, sm, Int.mul_zero]
  | n + 1 => by rw [sm, sm, sm_mul c f n, Int.mul_add]
theorem sm_mono {f g : Int → Int} : ∀ {n : Nat}, (∀ i : Int, 0 ≤ i → i < n → f i ≤ g i) → sm f n ≤ sm g n
  | 0, _ => Int.le_refl _
  | n + 1, h => by
    have h1 := sm_mono (f := f) (g := g) (n := n) (fun i a b => h i a (by omega))
    have h2 := h n (by omega) (by omega)
    rw [sm, sm]; omega
theorem sm_ext {f : Int → Int} {i : Nat} (h : ∀ j : Int, (i : Int) ≤ j → f j = 0) : ∀ k : Nat, sm f (i + k) = sm f i
  | 0 => rfl
  | k + 1 => by
    show sm f (i + k) + f ((i + k : Nat) : Int) = _
    rw [sm_ext h k, h _ (by omega), Int.add_zero]
theorem sm_anti {x : Int → Int → Int} (h : ∀ i j, x i j = -(x j i)) : ∀ n : Nat, sm (fun i => sm (fun j => x i j) n) n = 0
  | 0 => rfl
  | n + 1 => by
    have ih := sm_anti h n
    show sm (fun i => sm (fun j => x i j) n + x i n) n + (sm (fun j => x n j) n + x n n) = 0
    rw [sm_add, ih]
    have e : sm (fun j => x n j) n = -(sm (fun i => x i n) n) := by
      rw [← sm_neg]; exact sm_congr (fun j _ _ => h n j)
    have d := h n n
    rw [e]; omega
theorem sgn_odd (a b : Int) : sgn (a - b) = -(sgn (b - a)) := by unfold sgn; (repeat' split) <;> omega
def mI (mb hd : Int → Int) (g j : Int) : Int := if mb j = 1 ∧ hd j = g then 1 else 0
theorem win {n : Nat} {mb hd vl W : Int → Int} {g : Int} (hW : ∀ j, W j = 0 ∨ (W j = 1 ∧ mb j = 1 ∧ hd j = g)) :
    -(sm W n * (cP mb hd g n - sm W n)) ≤ sm (fun i => W i * agP n mb hd vl i) n ∧ sm (fun i => W i * agP n mb hd vl i) n ≤ sm W n * (cP mb hd g n - sm W n) := by
  have hm : ∀ j, 0 ≤ mI mb hd g j - W j := fun j => by
    unfold mI
    rcases hW j with h | ⟨h, h2⟩
    · rw [h]; split <;> omega
    · rw [h, if_pos h2]; omega
  have A : ∀ i : Int, 0 ≤ i → i < n → W i * agP n mb hd vl i = sm (fun j => W i * W j * sgn (vl i - vl j)) n + W i * sm (fun j => (mI mb hd g j - W j) * sgn (vl i - vl j)) n := fun i _ _ => by
    rcases hW i with h | ⟨h, hm1, hg1⟩
    · rw [h, Int.zero_mul, Int.zero_mul, Int.add_zero]
      exact (sm_zero (fun j _ _ => by rw [Int.zero_mul, Int.zero_mul])).symm
    · rw [h, Int.one_mul, Int.one_mul, ← sm_add]
      unfold agP
      refine sm_congr (fun j _ _ => ?_)
      rw [Int.one_mul, ← Int.add_mul, show W j + (mI mb hd g j - W j) = mI mb hd g j by omega]
      unfold mI
      rw [hg1]
      split
      · rw [Int.one_mul]
      · rw [Int.zero_mul]
  have S : sm (fun i => W i * agP n mb hd vl i) n = sm (fun i => W i * sm (fun j => (mI mb hd g j - W j) * sgn (vl i - vl j)) n) n := by
    rw [sm_congr A, sm_add, sm_anti (x := fun i j => W i * W j * sgn (vl i - vl j)) (fun i j => by
      show W i * W j * sgn (vl i - vl j) = -(W j * W i * sgn (vl j - vl i))
      rw [sgn_odd, Int.mul_neg, Int.mul_comm (W i) (W j)]), Int.zero_add]
  have R : sm (fun j => mI mb hd g j - W j) n = cP mb hd g n - sm W n := by
    have e : sm (fun j => mI mb hd g j + -(W j)) n = sm (mI mb hd g) n + sm (fun j => -(W j)) n := sm_add _ _ n
    rw [sm_neg] at e
    have e2 : sm (mI mb hd g) n = cP mb hd g n := rfl
    rw [e2] at e
    have e3 : sm (fun j => mI mb hd g j - W j) n = sm (fun j => mI mb hd g j + -(W j)) n := sm_congr (fun j _ _ => Int.sub_eq_add_neg)
    omega
  have B : ∀ i : Int, -(cP mb hd g n - sm W n) ≤ sm (fun j => (mI mb hd g j - W j) * sgn (vl i - vl j)) n ∧ sm (fun j => (mI mb hd g j - W j) * sgn (vl i - vl j)) n ≤ cP mb hd g n - sm W n := fun i => by
    have p : ∀ j : Int, -(mI mb hd g j - W j) ≤ (mI mb hd g j - W j) * sgn (vl i - vl j) ∧ (mI mb hd g j - W j) * sgn (vl i - vl j) ≤ mI mb hd g j - W j := fun j => by
      have h0 := hm j
      unfold sgn
      split
      · rw [Int.mul_one]; omega
      · split
        · rw [Int.mul_neg, Int.mul_one]; omega
        · rw [Int.mul_zero]; omega
    have u := sm_mono (n := n) (fun j _ _ => (p j).2)
    have l := sm_mono (n := n) (fun j _ _ => (p j).1)
    rw [sm_neg] at l
    rw [R] at u l
    exact ⟨l, u⟩
  have C : ∀ i : Int, -((cP mb hd g n - sm W n) * W i) ≤ W i * sm (fun j => (mI mb hd g j - W j) * sgn (vl i - vl j)) n ∧ W i * sm (fun j => (mI mb hd g j - W j) * sgn (vl i - vl j)) n ≤ (cP mb hd g n - sm W n) * W i := fun i => by
    have b := B i
    rcases hW i with h | ⟨h, -⟩
    · rw [h, Int.mul_zero, Int.zero_mul]; omega
    · rw [h, Int.mul_one, Int.one_mul]; exact b
  have u := sm_mono (n := n) (fun j _ _ => (C j).2)
  have l := sm_mono (n := n) (fun j _ _ => (C j).1)
  rw [sm_neg, sm_mul] at l
  rw [sm_mul] at u
  rw [S, Int.mul_comm (sm W n)]
  exact ⟨l, u⟩
theorem tot0 (n : Nat) (mb hd vl : Int → Int) (g : Int) : sm (fun j => if mb j = 1 ∧ hd j = g then agP n mb hd vl j else 0) n = 0 := by
  have h := win (n := n) (mb := mb) (hd := hd) (vl := vl) (W := mI mb hd g) (g := g) (fun j => by
    unfold mI
    by_cases c : mb j = 1 ∧ hd j = g
    · rw [if_pos c]; exact Or.inr ⟨rfl, c⟩
    · rw [if_neg c]; exact Or.inl rfl)
  have e : sm (mI mb hd g) n = cP mb hd g n := rfl
  rw [e, Int.sub_self, Int.mul_zero] at h
  have e2 : sm (fun j => if mb j = 1 ∧ hd j = g then agP n mb hd vl j else 0) n = sm (fun i => mI mb hd g i * agP n mb hd vl i) n := sm_congr (fun j _ _ => by
    unfold mI
    split
    · rw [Int.one_mul]
    · rw [Int.zero_mul])
  omega
/-- to choose those that are not chosen -/
theorem FP_cmp {mb hd a : Int → Int} {g : Int} {d : Int → Int} : ∀ (i : Nat) (k s : Int), FP mb hd a g d i k s = FP mb hd (fun j => -(a j)) g d i (cP mb hd g i - k) (s - sm (fun j => if mb j = 1 ∧ hd j = g then a j else 0) i)
  | 0, k, s => by
    have e : cP mb hd g 0 = 0 := rfl
    rw [FP, FP, e, sm, Int.sub_zero]
    by_cases c : k = 0
    · rw [if_pos c, if_pos (by omega)]
    · rw [if_neg c, if_neg (by omega)]
  | i + 1, k, s => by
    rw [FP, FP, cP_s, sm]
    by_cases c : mb (i : Int) = 1 ∧ hd (i : Int) = g
    · rw [if_pos c, if_pos c, if_pos c, if_pos c, FP_cmp i k s, FP_cmp i (k - 1) (s - a i), Int.add_comm]
      congr 2 <;> omega
    · rw [if_neg c, if_neg c, if_neg c, if_neg c, FP_cmp i k s, Int.add_zero, Int.add_zero]
theorem FP_wit {mb hd a : Int → Int} {g : Int} {d : Int → Int} : ∀ (i : Nat) (k s : Int), FP mb hd a g d i k s ≠ 0 → ∃ W : Int → Int, (∀ j, W j = 0 ∨ (W j = 1 ∧ mb j = 1 ∧ hd j = g)) ∧ (∀ j : Int, (i : Int) ≤ j → W j = 0) ∧ sm W i = k ∧ d (s - sm (fun j => W j * a j) i) ≠ 0
  | 0, k, s, h => by
    rw [FP] at h
    by_cases c : k = 0
    · rw [if_pos c] at h
      exact ⟨fun _ => 0, fun _ => Or.inl rfl, fun _ _ => rfl, c.symm, by rw [sm, Int.sub_zero]; exact h⟩
    · rw [if_neg c] at h; exact absurd rfl h
  | i + 1, k, s, h => by
    rw [FP] at h
    have keep : FP mb hd a g d i k s ≠ 0 → ∃ W : Int → Int, (∀ j, W j = 0 ∨ (W j = 1 ∧ mb j = 1 ∧ hd j = g)) ∧ (∀ j : Int, ((i + 1 : Nat) : Int) ≤ j → W j = 0) ∧ sm W (i + 1) = k ∧ d (s - sm (fun j => W j * a j) (i + 1)) ≠ 0 := fun q => by
      obtain ⟨W, w1, w2, w3, w4⟩ := FP_wit i k s q
      have z := w2 i (Int.le_refl _)
      refine ⟨W, w1, fun j hj => w2 j (by omega), by rw [sm, z, Int.add_zero]; exact w3, ?_⟩
      rw [sm, z, Int.zero_mul, Int.add_zero]; exact w4
    by_cases c : mb (i : Int) = 1 ∧ hd (i : Int) = g
    · rw [if_pos c] at h
      by_cases q : FP mb hd a g d i k s = 0
      · have q2 : FP mb hd a g d i (k - 1) (s - a i) ≠ 0 := fun z => h (by rw [q, z]; rfl)
        obtain ⟨W, w1, w2, w3, w4⟩ := FP_wit i (k - 1) (s - a i) q2
        have e1 : sm (fun j => if j = (i : Int) then 1 else W j) i = sm W i := sm_congr (fun j _ b => if_neg (by omega))
        have e2 : sm (fun j => (if j = (i : Int) then 1 else W j) * a j) i = sm (fun j => W j * a j) i := sm_congr (fun j _ b => by rw [if_neg (show ¬ j = (i : Int) by omega)])
        refine ⟨fun j => if j = (i : Int) then 1 else W j, fun j => ?_, fun j hj => ?_, ?_, ?_⟩
        · by_cases e : j = (i : Int)
          · exact Or.inr ⟨if_pos e, by rw [e]; exact c⟩
          · exact (w1 j).imp (fun q => (if_neg e).trans q) (fun q => ⟨(if_neg e).trans q.1, q.2⟩)
        · exact (if_neg (show ¬ j = (i : Int) by omega)).trans (w2 j (by omega))
        · show sm (fun j => if j = (i : Int) then 1 else W j) i + (if (i : Int) = i then 1 else W i) = k
          rw [e1, if_pos rfl]; omega
        · show d (s - (sm (fun j => (if j = (i : Int) then 1 else W j) * a j) i + (if (i : Int) = i then 1 else W i) * a i)) ≠ 0
          rw [e2, if_pos rfl, Int.one_mul, show s - (sm (fun j => W j * a j) i + a i) = s - a i - sm (fun j => W j * a j) i by omega]; exact w4
      · exact keep q
    · rw [if_neg c] at h; exact keep h
theorem FP_win {n : Nat} {mb hd vl : Int → Int} {g B sd : Int} {d : Int → Int} (hd0 : ∀ s, s < -B ∨ B < s → d s = 0) (hs : sd = 1 ∨ sd = -1) {i : Nat} (hi : i ≤ n) {k s : Int} (h : FP mb hd (fun j => sd * agP n mb hd vl j) g d i k s ≠ 0) :
    (0 ≤ k ∧ k ≤ cP mb hd g n) ∧ -(B + k * (cP mb hd g n - k)) ≤ s ∧ s ≤ B + k * (cP mb hd g n - k) := by
  obtain ⟨W, w1, w2, w3, w4⟩ := FP_wit i k s h
  have e1 := sm_ext (f := W) w2 (n - i)
  rw [show i + (n - i) = n by omega, w3] at e1
  have e2 := sm_ext (f := fun j => W j * (sd * agP n mb hd vl j)) (i := i) (fun j hj => by rw [w2 j hj, Int.zero_mul]) (n - i)
  rw [show i + (n - i) = n by omega] at e2
  rw [← e2] at w4
  have e3 : sm (fun j => W j * (sd * agP n mb hd vl j)) n = sd * sm (fun j => W j * agP n mb hd vl j) n := by
    rw [← sm_mul]
    exact sm_congr (fun j _ _ => by rw [Int.mul_left_comm])
  have b := win (n := n) (vl := vl) w1
  rw [e1] at b
  have r : ¬ (s - sm (fun j => W j * (sd * agP n mb hd vl j)) n < -B ∨ B < s - sm (fun j => W j * (sd * agP n mb hd vl j)) n) := fun q => w4 (hd0 _ q)
  rw [e3] at r
  have k0 : 0 ≤ k := by
    rw [← e1]; exact sm_nn (fun j => by rcases w1 j with q | q <;> omega) n
  have k1 : k ≤ cP mb hd g n := by
    rw [← e1]
    exact sm_mono (fun j _ _ => by
      show W j ≤ mI mb hd g j
      unfold mI
      rcases w1 j with q | ⟨q, q2⟩
      · rw [q]; split <;> omega
      · rw [q, if_pos q2]; omega)
  refine ⟨⟨k0, k1⟩, ?_⟩
  rcases hs with q | q
  · rw [q, Int.one_mul] at r; omega
  · rw [q, Int.neg_mul, Int.one_mul] at r; omega
theorem mono_kc {k f c : Int} (h1 : k ≤ f) (h2 : 2 * f ≤ c) : k * (c - k) ≤ f * (c - f) := by
  have h := Int.mul_nonneg (show 0 ≤ f - k by omega) (show 0 ≤ c - f - k by omega)
  have e : (f - k) * (c - f - k) = f * (c - f) - k * (c - k) := by grind
  omega
def RS (mb hd nr : Int → Int) (n : Nat) : Nat → Int
  | 0 => 0
  | g + 1 => RS mb hd nr n g + kP mb hd nr g n * (cP mb hd g n - kP mb hd nr g n)
def CS (mb hd : Int → Int) (n : Nat) : Nat → Int
  | 0 => 0
  | g + 1 => CS mb hd n g + cP mb hd g n
theorem CS_rng (mb hd : Int → Int) (n g : Nat) : 0 ≤ CS mb hd n g ∧ CS mb hd n g ≤ n := by
  have e : ∀ g : Nat, CS mb hd n g = KP mb hd one1 n g := by
    intro g
    induction g with
    | zero => rfl
    | succ g ih =>
      rw [CS, KP, ih]
      congr 1
      refine sm_congr (fun i _ _ => ?_)
      by_cases c : mb i = 1 ∧ hd i = (g : Int)
      · rw [if_pos c, if_pos ⟨c.1, c.2, rfl⟩]
      · rw [if_neg c, if_neg (fun q => c ⟨q.1, q.2.1⟩)]
  rw [e g]
  exact KP_rng mb hd one1 g n
theorem RS_sq (mb hd nr : Int → Int) (n : Nat) : ∀ g : Nat, 0 ≤ RS mb hd nr n g ∧ 4 * RS mb hd nr n g ≤ CS mb hd n g * CS mb hd n g
  | 0 => by rw [RS, CS]; omega
  | g + 1 => by
    have ih := RS_sq mb hd nr n g
    have hc := (CS_rng mb hd n g).1
    have hk := kP_rng mb hd nr g n
    rw [RS, CS]
    generalize CS mb hd n g = C at *
    generalize cP mb hd g n = c at *
    generalize kP mb hd nr g n = k at *
    generalize RS mb hd nr n g = R at *
    have h1 := Int.mul_nonneg hk.1 (show 0 ≤ c - k by omega)
    have h2 := Int.mul_nonneg hc (show 0 ≤ c by omega)
    have h3 : 4 * (k * (c - k)) ≤ c * c := by
      rcases (by omega : 0 ≤ c - 2 * k ∨ 0 ≤ 2 * k - c) with q | q
      · have h := Int.mul_nonneg q q
        have e : (c - 2 * k) * (c - 2 * k) = c * c - 4 * (k * (c - k)) := by grind
        omega
      · have h := Int.mul_nonneg q q
        have e : (2 * k - c) * (2 * k - c) = c * c - 4 * (k * (c - k)) := by grind
        omega
    have e : (C + c) * (C + c) = C * C + 2 * (C * c) + c * c := by grind
    refine ⟨by omega, ?_⟩
    rw [e]; omega
theorem RS_64 (mb hd nr : Int → Int) {n : Nat} (hn : n ≤ 16) (g : Nat) : 0 ≤ RS mb hd nr n g ∧ RS mb hd nr n g ≤ 64 := by
  have h := RS_sq mb hd nr n g
  have c := CS_rng mb hd n g
  have h2 := Int.mul_le_mul (a := CS mb hd n g) (b := CS mb hd n g) (c := 16) (d := 16) (by omega) (by omega) (by omega) (by omega)
  omega
theorem one_ag (n : Nat) (mb hd vl : Int → Int) : (fun j => 1 * agP n mb hd vl j) = agP n mb hd vl := by funext j; rw [Int.one_mul]
theorem neg_ag (n : Nat) (mb hd vl : Int → Int) : (fun j => (-1) * agP n mb hd vl j) = fun j => -(agP n mb hd vl j) := by funext j; rw [Int.neg_mul, Int.one_mul]
theorem DP_win {n : Nat} (mb hd vl nr : Int → Int) : ∀ (g : Nat) (s : Int), (s < -(RS mb hd nr n g) ∨ RS mb hd nr n g < s) → DP n mb hd vl nr g s = 0
  | 0, s, h => by
    have : RS mb hd nr n 0 = 0 := rfl
    rw [DP, del, if_neg (by omega)]
  | g + 1, s, h => by
    rw [DP]
    refine Classical.byContradiction fun q => ?_
    rw [← one_ag] at q
    have w := FP_win (DP_win mb hd vl nr g) (Or.inl rfl) (Nat.le_refl n) q
    rw [RS] at h
    omega
/-- the side with fewer -/
theorem DP_side {n : Nat} {mb hd vl nr : Int → Int} {g : Nat} {f sd : Int} (h : (sd = 1 ∧ f = kP mb hd nr g n) ∨ (sd = -1 ∧ f = cP mb hd g n - kP mb hd nr g n)) (s : Int) : FP mb hd (fun j => sd * agP n mb hd vl j) g (DP n mb hd vl nr g) n f s = DP n mb hd vl nr (g + 1) s := by
  rw [DP]
  rcases h with ⟨h1, h2⟩ | ⟨h1, h2⟩
  · rw [h1, h2, one_ag]
  · rw [h1, h2, neg_ag, FP_cmp n (kP mb hd nr g n) s, tot0, Int.sub_zero]
theorem DP_same {n : Nat} {mb hd vl nr : Int → Int} {g : Nat} (h : kP mb hd nr g n = 0 ∨ kP mb hd nr g n = cP mb hd g n) (s : Int) : DP n mb hd vl nr (g + 1) s = DP n mb hd vl nr g s := by
  rcases h with h | h
  · have z := DP_side (n := n) (mb := mb) (hd := hd) (nr := nr) (g := g) (vl := vl) (f := 0) (sd := 1) (Or.inl ⟨rfl, h.symm⟩) s
    rw [← z, FP_0]
  · have z := DP_side (n := n) (mb := mb) (hd := hd) (nr := nr) (g := g) (vl := vl) (f := 0) (sd := -1) (Or.inr ⟨rfl, by omega⟩) s
    rw [← z, FP_0]
theorem BP_mono (mb hd : Int → Int) (g : Int) (i : Nat) : ∀ k : Nat, BP mb hd g i ≤ BP mb hd g (i + k)
  | 0 => Int.le_refl _
  | k + 1 => by
    have h := BP_mono mb hd g i k
    have p := BP_pos mb hd g (i + k)
    show _ ≤ BP mb hd g ((i + k) + 1)
    rw [BP]
    split <;> omega
theorem FD_rng {n : Nat} (hn : n ≤ 16) (mb hd vl nr a : Int → Int) (g : Nat) {i : Nat} (hi : i ≤ n) (k s : Int) : 0 ≤ FP mb hd a g (DP n mb hd vl nr g) i k s ∧ FP mb hd a g (DP n mb hd vl nr g) i k s ≤ 65536 := by
  have h1 := FP_pos (mb := mb) (hd := hd) (a := a) (g := (g : Int)) (DP_pos n mb hd vl nr g) i k s
  have h2 := FP_bd (mb := mb) (hd := hd) (a := a) (g := (g : Int)) (fun s => ⟨DP_pos n mb hd vl nr g s, DP_le n mb hd vl nr g s⟩) i k s
  have h3 := BP_mono mb hd g i (n - i)
  rw [show i + (n - i) = n by omega] at h3
  have h4 := TB_bd mb hd (g + 1) n
  have h5 := TB_pos mb hd n g
  have h6 := p2i_le hn
  have h7 : (2 : Int) ^ 16 = 65536 := rfl
  have h8 := Int.mul_le_mul_of_nonneg_left h3 (show 0 ≤ TB mb hd n g by omega)
  rw [TB] at h4
  omega

