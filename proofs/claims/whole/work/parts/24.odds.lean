/-! Choices counted by their sums. A profile: slots with flags: mb 1 there, hd hand, vl value, nr 1 near. -/
def sgn (x : Int) : Int := if 0 < x then 1 else if x < 0 then -1 else 0
theorem sgn_rng (x : Int) : -1 ≤ sgn x ∧ sgn x ≤ 1 := by unfold sgn; split <;> (try split) <;> omega
theorem sgn_0 : sgn 0 = 0 := rfl
def agP (n : Nat) (mb hd vl : Int → Int) (i : Int) : Int := sm (fun j => if mb j = 1 ∧ hd j = hd i then sgn (vl i - vl j) else 0) n
def stP (n : Nat) (mb hd vl nr : Int → Int) : Int := sm (fun i => if mb i = 1 ∧ nr i = 1 then agP n mb hd vl i else 0) n
def FP (mb hd a : Int → Int) (g : Int) (d : Int → Int) : Nat → Int → Int → Int
  | 0, k, s => if k = 0 then d s else 0
  | i + 1, k, s => if mb i = 1 ∧ hd i = g then FP mb hd a g d i k s + FP mb hd a g d i (k - 1) (s - a i) else FP mb hd a g d i k s
def kP (mb hd nr : Int → Int) (g : Int) (n : Nat) : Int := sm (fun i => if mb i = 1 ∧ hd i = g ∧ nr i = 1 then 1 else 0) n
def cP (mb hd : Int → Int) (g : Int) (n : Nat) : Int := sm (fun i => if mb i = 1 ∧ hd i = g then 1 else 0) n
def del (s : Int) : Int := if s = 0 then 1 else 0
def DP (n : Nat) (mb hd vl nr : Int → Int) : Nat → Int → Int
  | 0, s => del s
  | g + 1, s => FP mb hd (agP n mb hd vl) g (DP n mb hd vl nr g) n (kP mb hd nr g n) s
theorem sm_add (f g : Int → Int) : ∀ n : Nat, sm (fun i => f i + g i) n = sm f n + sm g n
  | 0 => rfl
  | n + 1 => by rw [sm, sm, sm, sm_add f g n]; omega
theorem sm_zero {f : Int → Int} {n : Nat} (h : ∀ i : Int, 0 ≤ i → i < n → f i = 0) : sm f n = 0 := by
  have := sm_bd (f := f) (a := 0) (b := 0) (n := n) (fun i a b => by rw [h i a b]; omega)
  omega
theorem sm_one {f : Int → Int} {p : Int} (hp : 0 ≤ p) : ∀ {n : Nat}, p < n → (∀ i : Int, 0 ≤ i → i < n → i ≠ p → f i = 0) → sm f n = f p
  | 0, h, _ => by omega
  | n + 1, h, h2 => by
    rw [sm]
    by_cases e : p = n
    · rw [sm_zero (fun i a b => h2 i a (by omega) (by omega)), e]; omega
    · rw [sm_one hp (by omega) (fun i a b c => h2 i a (by omega) c), h2 n (by omega) (by omega) (fun q => e q.symm)]; omega
theorem sm_but {f : Int → Int} (hf : ∀ i : Int, -1 ≤ f i ∧ f i ≤ 1) {p : Int} (hp : 0 ≤ p) (hz : f p = 0) : ∀ {n : Nat}, p < n → -((n : Int) - 1) ≤ sm f n ∧ sm f n ≤ n - 1
  | 0, h => by omega
  | n + 1, h => by
    rw [sm]
    have h1 := hf n
    by_cases e : p = n
    · have h2 := sm_bd (f := f) (a := -1) (b := 1) (n := n) (fun i _ _ => hf i)
      rw [← e, hz]; omega
    · have := sm_but hf hp hz (n := n) (by omega)
      omega
theorem agP_rng {n : Nat} {mb hd vl : Int → Int} {i : Int} (h0 : 0 ≤ i) (h1 : i < n) : -((n : Int) - 1) ≤ agP n mb hd vl i ∧ agP n mb hd vl i ≤ n - 1 := by
  refine sm_but (fun j => ?_) h0 ?_ h1
  · have := sgn_rng (vl i - vl j)
    split <;> omega
  · rw [Int.sub_self]; split <;> rfl
theorem FP_neg {mb hd a : Int → Int} {g : Int} {d : Int → Int} : ∀ (i : Nat) {k : Int} (s : Int), k < 0 → FP mb hd a g d i k s = 0
  | 0, k, s, h => by rw [FP, if_neg (by omega)]
  | i + 1, k, s, h => by
    rw [FP, FP_neg i s h, FP_neg i (s - a i) (by omega : k - 1 < 0)]
    split <;> rfl
theorem FP_0 {mb hd a : Int → Int} {g : Int} {d : Int → Int} : ∀ (i : Nat) (s : Int), FP mb hd a g d i 0 s = d s
  | 0, s => by rw [FP, if_pos rfl]
  | i + 1, s => by
    rw [FP, FP_0 i s, FP_neg i (s - a i) (by omega : (0 : Int) - 1 < 0)]
    split <;> omega
theorem cP_s (mb hd : Int → Int) (g : Int) (i : Nat) : cP mb hd g (i + 1) = cP mb hd g i + (if mb i = 1 ∧ hd i = g then 1 else 0) := rfl
theorem kP_s (mb hd nr : Int → Int) (g : Int) (i : Nat) : kP mb hd nr g (i + 1) = kP mb hd nr g i + (if mb i = 1 ∧ hd i = g ∧ nr i = 1 then 1 else 0) := rfl
theorem cP_rng (mb hd : Int → Int) (g : Int) (n : Nat) : 0 ≤ cP mb hd g n ∧ cP mb hd g n ≤ n := cnt_rng (fun i => by split <;> simp)
theorem kP_rng (mb hd nr : Int → Int) (g : Int) : ∀ n : Nat, 0 ≤ kP mb hd nr g n ∧ kP mb hd nr g n ≤ cP mb hd g n
  | 0 => by simp [kP, cP, sm]
  | n + 1 => by
    have h := kP_rng mb hd nr g n
    rw [kP_s, cP_s]
    by_cases c : mb (n : Int) = 1 ∧ hd (n : Int) = g
    · rw [if_pos c]; split <;> omega
    · rw [if_neg c, if_neg (fun q => c ⟨q.1, q.2.1⟩)]; omega
theorem FP_cnt {mb hd a : Int → Int} {g : Int} {d : Int → Int} : ∀ (i : Nat) {k : Int} (s : Int), cP mb hd g i < k → FP mb hd a g d i k s = 0
  | 0, k, s, h => by
    have : cP mb hd g 0 = 0 := rfl
    rw [FP, if_neg (by omega)]
  | i + 1, k, s, h => by
    rw [cP_s] at h
    rw [FP]
    by_cases c : mb (i : Int) = 1 ∧ hd (i : Int) = g
    · rw [if_pos c] at h ⊢
      rw [FP_cnt i s (by omega), FP_cnt i (s - a i) (by omega)]; rfl
    · rw [if_neg c] at h ⊢
      exact FP_cnt i s (by omega)
theorem FP_pos {mb hd a : Int → Int} {g : Int} {d : Int → Int} (hd0 : ∀ s, 0 ≤ d s) : ∀ (i : Nat) (k s : Int), 0 ≤ FP mb hd a g d i k s
  | 0, k, s => by rw [FP]; split; exact hd0 s; omega
  | i + 1, k, s => by
    have h1 := FP_pos (mb := mb) (hd := hd) (a := a) (g := g) hd0 i k s
    have h2 := FP_pos (mb := mb) (hd := hd) (a := a) (g := g) hd0 i (k - 1) (s - a i)
    rw [FP]; split <;> omega
/-- a choice of k has a sum no further than its base and k steps -/
theorem FP_supp {mb hd a : Int → Int} {g : Int} {d : Int → Int} {A B : Int} (hA : 0 ≤ A) (hB : ∀ s, s < -B ∨ B < s → d s = 0) : ∀ (i : Nat), (∀ j : Int, 0 ≤ j → j < i → -A ≤ a j ∧ a j ≤ A) → ∀ (k s : Int), (s < -(B + A * k) ∨ B + A * k < s) → FP mb hd a g d i k s = 0
  | 0, _, k, s, h => by
    rw [FP]
    by_cases e : k = 0
    · subst e; rw [if_pos rfl]; exact hB s (by omega)
    · rw [if_neg e]
  | i + 1, ha, k, s, h => by
    have h1 := FP_supp (mb := mb) (hd := hd) (g := g) hA hB i (fun j x y => ha j x (by omega)) k s h
    have hi := ha i (by omega) (by omega)
    have e : A * (k - 1) = A * k - A := by rw [Int.mul_sub, Int.mul_one]
    have h2 := FP_supp (mb := mb) (hd := hd) (g := g) hA hB i (fun j x y => ha j x (by omega)) (k - 1) (s - a i) (by omega)
    rw [FP, h1, h2]
    split <;> rfl
/-- how large a count can be -/
def BP (mb hd : Int → Int) (g : Int) : Nat → Int
  | 0 => 1
  | i + 1 => if mb i = 1 ∧ hd i = g then 2 * BP mb hd g i else BP mb hd g i
theorem BP_pos (mb hd : Int → Int) (g : Int) : ∀ i : Nat, 1 ≤ BP mb hd g i
  | 0 => by rw [BP]; omega
  | i + 1 => by have := BP_pos mb hd g i; rw [BP]; split <;> omega
theorem FP_bd {mb hd a : Int → Int} {g : Int} {d : Int → Int} {B : Int} (hB : ∀ s, 0 ≤ d s ∧ d s ≤ B) : ∀ (i : Nat) (k s : Int), FP mb hd a g d i k s ≤ B * BP mb hd g i
  | 0, k, s => by
    have h := hB s
    rw [FP, BP, Int.mul_one]
    split <;> omega
  | i + 1, k, s => by
    have h1 := FP_bd (mb := mb) (hd := hd) (a := a) (g := g) hB i k s
    have h2 := FP_bd (mb := mb) (hd := hd) (a := a) (g := g) hB i (k - 1) (s - a i)
    rw [FP, BP]
    by_cases c : mb (i : Int) = 1 ∧ hd (i : Int) = g
    · rw [if_pos c, if_pos c]
      have e : B * (2 * BP mb hd g i) = B * BP mb hd g i + B * BP mb hd g i := by rw [Int.mul_left_comm]; omega
      omega
    · rw [if_neg c, if_neg c]; exact h1
def TB (mb hd : Int → Int) (i : Nat) : Nat → Int
  | 0 => 1
  | g + 1 => TB mb hd i g * BP mb hd g i
theorem TB_pos (mb hd : Int → Int) (i : Nat) : ∀ g : Nat, 1 ≤ TB mb hd i g
  | 0 => by rw [TB]; omega
  | g + 1 => by
    have h1 := TB_pos mb hd i g
    have h2 := BP_pos mb hd g i
    have := Int.mul_le_mul h1 h2 (by omega) (by omega)
    rw [TB]; omega
theorem TB_mono (mb hd : Int → Int) (i : Nat) {g : Nat} : ∀ k : Nat, TB mb hd i g ≤ TB mb hd i (g + k)
  | 0 => Int.le_refl _
  | k + 1 => by
    have h1 := TB_mono mb hd i (g := g) k
    have h2 := BP_pos mb hd ((g + k : Nat) : Int) i
    have h3 := TB_pos mb hd i (g + k)
    have := Int.mul_le_mul (a := TB mb hd i (g + k)) (b := 1) (c := TB mb hd i (g + k)) (d := BP mb hd ((g + k : Nat) : Int) i) (by omega) h2 (by omega) (by omega)
    show _ ≤ TB mb hd i (g + k) * BP mb hd ((g + k : Nat) : Int) i
    omega
theorem TB_step (mb hd : Int → Int) (i : Nat) : ∀ g : Nat, TB mb hd (i + 1) g ≤ 2 * TB mb hd i g ∧ ((∀ h : Nat, h < g → ¬ (mb i = 1 ∧ hd i = h)) → TB mb hd (i + 1) g = TB mb hd i g)
  | 0 => ⟨by rw [TB, TB]; omega, fun _ => rfl⟩
  | g + 1 => by
    obtain ⟨h1, h2⟩ := TB_step mb hd i g
    have hb := BP_pos mb hd g i
    have ht := TB_pos mb hd i g
    have ht2 := TB_pos mb hd (i + 1) g
    rw [TB, TB, BP]
    by_cases c : mb (i : Int) = 1 ∧ hd (i : Int) = (g : Int)
    · rw [if_pos c]
      have e := h2 (fun h hh q => by omega)
      rw [e]
      refine ⟨by rw [Int.mul_left_comm]; omega, fun hn => absurd c (hn g (by omega))⟩
    · rw [if_neg c]
      refine ⟨?_, fun hn => by rw [h2 (fun h hh => hn h (by omega))]⟩
      have := Int.mul_le_mul_of_nonneg_right h1 (show 0 ≤ BP mb hd g i by omega)
      rw [Int.mul_assoc] at this
      exact this
theorem TB_bd (mb hd : Int → Int) (g : Nat) : ∀ i : Nat, TB mb hd i g ≤ 2 ^ i
  | 0 => by
    have : ∀ g : Nat, TB mb hd 0 g = 1 := by
      intro g
      induction g with
      | zero => rfl
      | succ g ih => rw [TB, ih, BP]; rfl
    rw [this g]; simp
  | i + 1 => by
    have h1 := TB_bd mb hd g i
    have h2 := (TB_step mb hd i g).1
    rw [Int.pow_succ]
    omega
theorem DP_pos (n : Nat) (mb hd vl nr : Int → Int) : ∀ (g : Nat) (s : Int), 0 ≤ DP n mb hd vl nr g s
  | 0, s => by rw [DP, del]; split <;> omega
  | g + 1, s => by rw [DP]; exact FP_pos (DP_pos n mb hd vl nr g) _ _ _
theorem DP_le (n : Nat) (mb hd vl nr : Int → Int) : ∀ (g : Nat) (s : Int), DP n mb hd vl nr g s ≤ TB mb hd n g
  | 0, s => by rw [DP, del, TB]; split <;> omega
  | g + 1, s => by
    rw [DP, TB]
    exact FP_bd (fun s => ⟨DP_pos n mb hd vl nr g s, DP_le n mb hd vl nr g s⟩) _ _ _
theorem DP_bd {n : Nat} (hn : n ≤ 16) (mb hd vl nr : Int → Int) (g : Nat) (s : Int) : 0 ≤ DP n mb hd vl nr g s ∧ DP n mb hd vl nr g s ≤ 65536 := by
  have h1 := DP_le n mb hd vl nr g s
  have h2 := TB_bd mb hd g n
  have h3 := p2i_le hn
  have h4 : (2 : Int) ^ 16 = 65536 := rfl
  exact ⟨DP_pos n mb hd vl nr g s, by omega⟩
/-- all chosen of the hands ahead -/
def KP (mb hd nr : Int → Int) (n : Nat) : Nat → Int
  | 0 => 0
  | g + 1 => KP mb hd nr n g + kP mb hd nr g n
theorem KP_rng (mb hd nr : Int → Int) (g : Nat) : ∀ n : Nat, 0 ≤ KP mb hd nr n g ∧ KP mb hd nr n g ≤ n
  | 0 => by
    have : ∀ g : Nat, KP mb hd nr 0 g = 0 := by
      intro g
      induction g with
      | zero => rfl
      | succ g ih => rw [KP, ih]; rfl
    rw [this g]; simp
  | n + 1 => by
    have h := KP_rng mb hd nr g n
    have key : ∀ g : Nat, (KP mb hd nr n g ≤ KP mb hd nr (n + 1) g ∧ KP mb hd nr (n + 1) g ≤ KP mb hd nr n g + 1) ∧ ((∀ h : Nat, h < g → hd n ≠ h) → KP mb hd nr (n + 1) g = KP mb hd nr n g) := by
      intro g
      induction g with
      | zero => exact ⟨⟨by rw [KP, KP]; omega, by rw [KP, KP]; omega⟩, fun _ => rfl⟩
      | succ g ih =>
        rw [KP, KP, kP_s]
        by_cases c : mb (n : Int) = 1 ∧ hd (n : Int) = (g : Int) ∧ nr (n : Int) = 1
        · rw [if_pos c]
          have e := ih.2 (fun h hh q => by omega)
          rw [e]
          exact ⟨by omega, fun hn => absurd c.2.1 (hn g (by omega))⟩
        · rw [if_neg c]
          refine ⟨by omega, fun hn => ?_⟩
          rw [ih.2 (fun h hh => hn h (by omega))]
          omega
    have := (key g).1
    omega
theorem DP_supp {n : Nat} (hn : n ≤ 16) (mb hd vl nr : Int → Int) : ∀ (g : Nat) (s : Int), (s < -(15 * KP mb hd nr n g) ∨ 15 * KP mb hd nr n g < s) → DP n mb hd vl nr g s = 0
  | 0, s, h => by
    have : KP mb hd nr n 0 = 0 := rfl
    rw [DP, del, if_neg (by omega)]
  | g + 1, s, h => by
    have hk := kP_rng mb hd nr g n
    rw [KP] at h
    rw [DP]
    refine FP_supp (A := 15) (B := 15 * KP mb hd nr n g) (by omega) (DP_supp hn mb hd vl nr g) n (fun j a b => ?_) _ _ (by omega)
    have := agP_rng (n := n) (mb := mb) (hd := hd) (vl := vl) a b
    omega
/-- one distribution laid over another -/
def cv (d w : Int → Int) (u : Int) : Int := sm (fun j => d (j - 256) * w (u - (j - 256))) 513
theorem FP_cv {mb hd a : Int → Int} {g : Int} {d : Int → Int} (hd0 : ∀ s, s < -256 ∨ 256 < s → d s = 0) : ∀ (i : Nat) (k u : Int), FP mb hd a g d i k u = cv d (FP mb hd a g del i k) u
  | 0, k, u => by
    unfold cv
    by_cases e : k = 0
    · subst e
      rw [FP, if_pos rfl]
      by_cases hu : u < -256 ∨ 256 < u
      · rw [hd0 u hu]
        refine (sm_zero (fun j h0 h1 => ?_)).symm
        rw [FP, if_pos rfl, del, if_neg (by omega), Int.mul_zero]
      · rw [sm_one (p := u + 256) (by omega) (by omega) (fun j h0 h1 h2 => by rw [FP, if_pos rfl, del, if_neg (by omega), Int.mul_zero])]
        rw [FP, if_pos rfl, del, if_pos (by omega), Int.mul_one]
        congr 1; omega
    · rw [FP, if_neg e]
      exact (sm_zero (fun j h0 h1 => by rw [FP, if_neg e, Int.mul_zero])).symm
  | i + 1, k, u => by
    have h1 := FP_cv (mb := mb) (hd := hd) (a := a) (g := g) hd0 i k u
    have h2 := FP_cv (mb := mb) (hd := hd) (a := a) (g := g) hd0 i (k - 1) (u - a i)
    rw [FP]
    unfold cv at h1 h2 ⊢
    by_cases c : mb (i : Int) = 1 ∧ hd (i : Int) = g
    · rw [if_pos c, h1, h2, ← sm_add]
      refine sm_congr (fun j h0 h1 => ?_)
      rw [FP, if_pos c, Int.mul_add]
      congr 3
      omega
    · rw [if_neg c, h1]
      exact sm_congr (fun j h0 h1 => by rw [FP, if_neg c])
/-- the choice that is counts -/
def tP (mb hd nr a : Int → Int) (g : Int) (n : Nat) : Int := sm (fun i => if mb i = 1 ∧ hd i = g ∧ nr i = 1 then a i else 0) n
theorem FP_one {mb hd nr a : Int → Int} {g : Int} {d : Int → Int} (hd0 : ∀ s, 0 ≤ d s) (s0 : Int) : ∀ i : Nat, d s0 ≤ FP mb hd a g d i (kP mb hd nr g i) (s0 + tP mb hd nr a g i)
  | 0 => by
    have e1 : kP mb hd nr g 0 = 0 := rfl
    have e2 : tP mb hd nr a g 0 = 0 := rfl
    rw [FP, e1, e2, if_pos rfl, Int.add_zero]; exact Int.le_refl _
  | i + 1 => by
    have h := FP_one (mb := mb) (hd := hd) (nr := nr) (a := a) (g := g) hd0 s0 i
    have e1 := kP_s mb hd nr g i
    have e2 : tP mb hd nr a g (i + 1) = tP mb hd nr a g i + (if mb i = 1 ∧ hd i = g ∧ nr i = 1 then a i else 0) := rfl
    rw [FP]
    by_cases c : mb (i : Int) = 1 ∧ hd (i : Int) = g
    · rw [if_pos c]
      by_cases c2 : nr (i : Int) = 1
      · rw [if_pos ⟨c.1, c.2, c2⟩] at e1 e2
        have p1 := FP_pos (mb := mb) (hd := hd) (a := a) (g := g) hd0 i (kP mb hd nr g (i + 1)) (s0 + tP mb hd nr a g (i + 1))
        rw [e1, e2] at p1 ⊢
        rw [show kP mb hd nr g i + 1 - 1 = kP mb hd nr g i by omega, show s0 + (tP mb hd nr a g i + a i) - a i = s0 + tP mb hd nr a g i by omega]
        omega
      · rw [if_neg (fun q => c2 q.2.2)] at e1 e2
        have p1 := FP_pos (mb := mb) (hd := hd) (a := a) (g := g) hd0 i (kP mb hd nr g (i + 1) - 1) (s0 + tP mb hd nr a g (i + 1) - a i)
        rw [e1, e2, Int.add_zero, Int.add_zero] at p1 ⊢
        omega
    · rw [if_neg (fun q => c ⟨q.1, q.2.1⟩)] at e1 e2
      rw [if_neg c, e1, e2, Int.add_zero, Int.add_zero]
      exact h
def TT5 (mb hd nr a : Int → Int) (n : Nat) : Nat → Int
  | 0 => 0
  | g + 1 => TT5 mb hd nr a n g + tP mb hd nr a g n
theorem DP_one (n : Nat) (mb hd vl nr : Int → Int) : ∀ g : Nat, 1 ≤ DP n mb hd vl nr g (TT5 mb hd nr (agP n mb hd vl) n g)
  | 0 => by
    have : TT5 mb hd nr (agP n mb hd vl) n 0 = 0 := rfl
    rw [this, DP, del, if_pos rfl]; omega
  | g + 1 => by
    have h := DP_one n mb hd vl nr g
    have h2 := FP_one (mb := mb) (hd := hd) (nr := nr) (a := agP n mb hd vl) (g := (g : Int)) (d := DP n mb hd vl nr g) (DP_pos n mb hd vl nr g) (TT5 mb hd nr (agP n mb hd vl) n g) n
    rw [DP, TT5]
    omega
theorem st_TT5 (n : Nat) (mb hd vl nr : Int → Int) (hh : ∀ i : Int, 0 ≤ i → i < n → mb i = 1 → 0 ≤ hd i ∧ hd i ≤ 4) : TT5 mb hd nr (agP n mb hd vl) n 5 = stP n mb hd vl nr := by
  have key : ∀ k : Nat, k ≤ n → TT5 mb hd nr (agP n mb hd vl) k 5 = sm (fun i => if mb i = 1 ∧ nr i = 1 then agP n mb hd vl i else 0) k := by
    intro k
    induction k with
    | zero => intro _; rfl
    | succ k ih =>
      intro hk
      have h := ih (by omega)
      have e : ∀ g : Int, tP mb hd nr (agP n mb hd vl) g (k + 1) = tP mb hd nr (agP n mb hd vl) g k + (if mb k = 1 ∧ hd k = g ∧ nr k = 1 then agP n mb hd vl k else 0) := fun g => rfl
      simp only [TT5] at h ⊢
      rw [e, e, e, e, e, sm, ← h]
      have h4 := hh k (by omega) (by omega)
      by_cases c : mb (k : Int) = 1 ∧ nr (k : Int) = 1
      · have h5 := h4 c.1
        rw [if_pos c]
        rcases (by omega : hd (k : Int) = 0 ∨ hd (k : Int) = 1 ∨ hd (k : Int) = 2 ∨ hd (k : Int) = 3 ∨ hd (k : Int) = 4) with q | q | q | q | q <;> simp [q, c.1, c.2] <;> omega
      · rw [if_neg c]
        have z : ∀ g : Int, ¬ (mb (k : Int) = 1 ∧ hd (k : Int) = g ∧ nr (k : Int) = 1) := fun g q => c ⟨q.1, q.2.2⟩
        rw [if_neg (z _), if_neg (z _), if_neg (z _), if_neg (z _), if_neg (z _)]
        omega
  exact key n (Nat.le_refl _)
/-- all choices; those whose sum is at least what it is -/
def lowP (n : Nat) (mb hd vl nr : Int → Int) : Int := sm (fun j => DP n mb hd vl nr 5 (j - 256)) 513
def upP (n : Nat) (mb hd vl nr : Int → Int) : Int := sm (fun j => if stP n mb hd vl nr ≤ j - 256 then DP n mb hd vl nr 5 (j - 256) else 0) 513

