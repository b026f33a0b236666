/-! The calls that change. -/
theorem lg_pos {w : Int} : ∀ {n : Nat}, lg w n → ∀ j : Int, 0 ≤ j → j < lm w n → 1 ≤ byt w j ∧ byt w j ≤ 126
  | 0, _, j, a, b => by have e : lm w 0 = 0 := rfl; omega
  | n + 1, h, j, a, b => by
    have h0 : lg w n := fun k x y => h k x (by omega)
    have hn := h n (by omega) (by omega)
    have s : lm w (n + 1) = lm w n + (if 0 < byt w n then 1 else 0) := rfl
    have r := lm_rng w n
    by_cases c : 0 < byt w n
    · rw [if_pos c] at s
      have e : lm w ((n : Int)).toNat = n := by
        rcases hn.2 with q | q
        · omega
        · exact q
      rw [Int.toNat_natCast] at e
      by_cases d : j = n
      · subst d; exact ⟨by omega, hn.1⟩
      · exact lg_pos h0 j a (by omega)
    · rw [if_neg c] at s; exact lg_pos h0 j a (by omega)
theorem sm_upd {f g : Int → Int} {y : Int} (h : ∀ j, j ≠ y → f j = g j) (h0 : 0 ≤ y) : ∀ {n : Nat}, y < n → sm f n = sm g n + (f y - g y)
  | 0, q => by omega
  | n + 1, q => by
    rw [sm, sm]
    by_cases e : y = n
    · have z : sm f n = sm g n := sm_congr (fun i a b => h i (by omega))
      rw [z, e]; omega
    · rw [sm_upd h h0 (n := n) (by omega), h n (fun w => e w.symm)]; omega
theorem oe_blank {M M1 : Mem} { r1 : Int} (x : IVA M)  (hc : (fun r M' => r = M 114 1 ∧ M' = mu M 1 1 0) r1 M1) : EQ M M1 := by
  obtain ⟨-, f1⟩ := hc
  rw [f1]; exact (EQ.rf M).pu _ _ (by omega)
theorem op_blank {M M1 M2 : Mem} { r1 r2 : Int} (x : IVA M)  (hc : (fun r M' => r = M 114 1 ∧ M' = mu M 1 1 0) r1 M1) (hd : (fun r M' => r = M1 114 1 ∧ M' = mu M1 114 1 0) r2 M2) : r1 = r2 ∧ IVA M2 := by
  obtain ⟨e1, f1⟩ := hc
  obtain ⟨e2, f2⟩ := hd
  subst f1
  have cg : ∀ o k : Int, ¬ (o = 1 ∧ k = 1) → ¬ (o = 114 ∧ k = 1) → M2 o k = M o k := fun o k n1 n2 => by
    rw [f2]
    show (if o = 114 ∧ k = 1 then 0 else if o = 1 ∧ k = 1 then 0 else M o k) = _
    rw [if_neg n2, if_neg n1]
  have c1 : M2 1 1 = 0 := by rw [f2]; rfl
  have c2 : M2 114 1 = 0 := by rw [f2]; rfl
  refine ⟨by rw [e1, e2]; rfl, x.1.cg (fun o k z => cg o k (by unfold ZA at z; omega) (by unfold ZA at z; omega)), x.2.1.cg (fun o k z => cg o k (by unfold ZB at z; omega) (by unfold ZB at z; omega)), ⟨⟨by rw [c2]; decide, fun i a b => by rw [c2] at b; omega⟩, by rw [c1, c2], fun i a b => by rw [c2] at b; omega⟩, x.2.2.2.1.cg (fun o k z => cg o k (by unfold ZD at z; omega) (by unfold ZD at z; omega)), x.2.2.2.2.1.cg (fun o k z => cg o k (by unfold ZE at z; omega) (by unfold ZE at z; omega)), IvF.cg (fun k => cg 118 k (by omega) (by omega)) x.2.2.2.2.2⟩
theorem oe_letters {M M1 : Mem} {w r1 : Int} (x : IVA M) (hc : (fun r M' => r = (if b2i (lg w 8) = 1 then (if M 114 1 + lm w 8 ≤ 40 then M 114 1 + lm w 8 else -104) else -102) ∧ M' = (if b2i (lg w 8) = 1 ∧ M 114 1 + lm w 8 ≤ 40 then letX M w (lm w 8) else M)) r1 M1) : EQ M M1 := by
  obtain ⟨-, f1⟩ := hc
  rw [f1]
  split
  · intro o ho
    funext k
    show (if o = 2 ∧ _ then _ else if o = 1 ∧ k = 1 then _ else M o k) = _
    rw [if_neg (by omega), if_neg (by omega)]
  · exact EQ.rf M
theorem op_letters {M M1 M2 : Mem} {w r1 r2 : Int} (x : IVA M) (hc : (fun r M' => r = (if b2i (lg w 8) = 1 then (if M 114 1 + lm w 8 ≤ 40 then M 114 1 + lm w 8 else -104) else -102) ∧ M' = (if b2i (lg w 8) = 1 ∧ M 114 1 + lm w 8 ≤ 40 then letX M w (lm w 8) else M)) r1 M1) (hd : (fun r M' => r = (if b2i (lg w 8) = 1 then (if M1 114 1 + lm w 8 ≤ 40 then M1 114 1 + lm w 8 else -104) else -102) ∧ M' = (if b2i (lg w 8) = 1 ∧ M1 114 1 + lm w 8 ≤ 40 then letL M1 w (lm w 8) else M1)) r2 M2) : r1 = r2 ∧ IVA M2 := by
  have q := oe_letters x hc
  obtain ⟨e1, f1⟩ := hc
  obtain ⟨e2, f2⟩ := hd
  rw [q 114 (by omega)] at e2 f2
  refine ⟨by rw [e1, e2], ?_⟩
  by_cases c : b2i (lg w 8) = 1 ∧ M 114 1 + lm w 8 ≤ 40
  · rw [if_pos c] at f1 f2
    subst f1
    have hlg : lg w 8 := by
      rcases b2i_eq (b := b2i (lg w 8)) rfl with y | y
      · exact y.2
      · rw [y.1] at c; exact absurd c.1 (by decide)
    have lp := lg_pos hlg
    have lr := lm_rng w 8
    have g1 := x.ig.1
    have p1 := x.pg.1
    have cf : ∀ o k : Int, M2 o k = if o = 115 ∧ M 114 1 ≤ k ∧ k < M 114 1 + lm w 8 then byt w (k - M 114 1) else if o = 114 ∧ k = 1 then M 114 1 + lm w 8 else if o = 2 ∧ M 114 1 ≤ k ∧ k < M 114 1 + lm w 8 then byt w (k - M 114 1) else if o = 1 ∧ k = 1 then M 114 1 + lm w 8 else M o k := fun o k => by
      have e := congrFun (q 114 (by omega)) 1
      rw [f2]
      unfold letL
      rw [e]
      unfold letX
      rw [g1]
    have c1 : M2 1 1 = M 114 1 + lm w 8 := by rw [cf, if_neg (by omega), if_neg (by omega), if_neg (by omega), if_pos ⟨rfl, rfl⟩]
    have c2 : M2 114 1 = M 114 1 + lm w 8 := by rw [cf, if_neg (by omega), if_pos ⟨rfl, rfl⟩]
    have cg : ∀ o k : Int, ¬ (o = 115 ∨ o = 2 ∨ (o = 114 ∧ k = 1) ∨ (o = 1 ∧ k = 1)) → M2 o k = M o k := fun o k n => by
      rw [cf, if_neg (by omega), if_neg (by omega), if_neg (by omega), if_neg (by omega)]
    refine ⟨x.1.cg (fun o k z => cg o k (by unfold ZA at z; omega)), x.2.1.cg (fun o k z => cg o k (by unfold ZB at z; omega)), ⟨⟨by rw [c2]; omega, fun i a b => ?_⟩, by rw [c1, c2], fun i a b => ?_⟩, x.2.2.2.1.cg (fun o k z => cg o k (by unfold ZD at z; omega)), x.2.2.2.2.1.cg (fun o k z => cg o k (by unfold ZE at z; omega)), IvF.cg (fun k => cg 118 k (by omega)) x.2.2.2.2.2⟩
    · rw [c2] at b
      rw [cf]
      by_cases d : M 114 1 ≤ i
      · rw [if_pos ⟨rfl, d, b⟩]; exact lp _ (by omega) (by omega)
      · rw [if_neg (by omega), if_neg (by omega), if_neg (by omega), if_neg (by omega)]; exact x.pg.2 i a (by omega)
    · rw [c2] at b
      rw [cf, cf]
      by_cases d : M 114 1 ≤ i
      · rw [if_neg (by omega), if_neg (by omega), if_pos ⟨rfl, d, b⟩, if_pos ⟨rfl, d, b⟩]
      · rw [if_neg (by omega), if_neg (by omega), if_neg (by omega), if_neg (by omega), if_neg (by omega), if_neg (by omega), if_neg (by omega), if_neg (by omega)]; exact x.ig.2 i a (by omega)
  · rw [if_neg c] at f1 f2
    rw [f2, f1]; exact x
theorem oe_pigment {M M1 : Mem} {a b r1 : Int} (x : IVA M) (ia : i32 a) (ib : i32 b) (hc : (fun r M' => r = (if (0 ≤ a ∧ a ≤ 400) ∧ (0 ≤ b ∧ b ≤ 9) then (if M 114 20 = 4 then -104 else M 114 20) else -102) ∧ M' = (if ((0 ≤ a ∧ a ≤ 400) ∧ (0 ≤ b ∧ b ≤ 9)) ∧ M 114 20 ≠ 4 then mu (mu (mu M 15 (M 114 20) a) 16 (M 114 20) b) 0 14 (M 114 20 + 1) else M)) r1 M1) : EQ M M1 := by
  obtain ⟨-, f1⟩ := hc
  rw [f1]
  split
  · exact (((EQ.rf M).pu _ _ (by omega)).pu _ _ (by omega)).pu _ _ (by omega)
  · exact EQ.rf M
theorem op_pigment {M M1 M2 : Mem} {a b r1 r2 : Int} (x : IVA M) (ia : i32 a) (ib : i32 b) (hc : (fun r M' => r = (if (0 ≤ a ∧ a ≤ 400) ∧ (0 ≤ b ∧ b ≤ 9) then (if M 114 20 = 4 then -104 else M 114 20) else -102) ∧ M' = (if ((0 ≤ a ∧ a ≤ 400) ∧ (0 ≤ b ∧ b ≤ 9)) ∧ M 114 20 ≠ 4 then mu (mu (mu M 15 (M 114 20) a) 16 (M 114 20) b) 0 14 (M 114 20 + 1) else M)) r1 M1) (hd : (fun r M' => r = (if (0 ≤ a ∧ a ≤ 400) ∧ (0 ≤ b ∧ b ≤ 9) then (if M1 114 20 = 4 then -104 else M1 114 20) else -102) ∧ M' = (if ((0 ≤ a ∧ a ≤ 400) ∧ (0 ≤ b ∧ b ≤ 9)) ∧ M1 114 20 ≠ 4 then mu (mu (mu M1 122 (M1 114 20) a) 123 (M1 114 20) b) 114 20 (M1 114 20 + 1) else M1)) r2 M2) : r1 = r2 ∧ IVA M2 := by
  have q := oe_pigment x ia ib hc
  obtain ⟨e1, f1⟩ := hc
  obtain ⟨e2, f2⟩ := hd
  rw [q 114 (by omega)] at e2 f2
  refine ⟨by rw [e1, e2], ?_⟩
  by_cases c : ((0 ≤ a ∧ a ≤ 400) ∧ (0 ≤ b ∧ b ≤ 9)) ∧ M 114 20 ≠ 4
  · rw [if_pos c] at f1 f2
    subst f1
    obtain ⟨⟨t1, t2, t3, t4, t5, t6, t7, t8, t9⟩, ⟨a1, a2⟩, ⟨a3, a4⟩, ⟨a5, a6⟩, a7, a8, a9⟩ := x.1
    have cf : ∀ o k : Int, M2 o k = if o = 114 ∧ k = 20 then M 114 20 + 1 else if o = 123 ∧ k = M 114 20 then b else if o = 122 ∧ k = M 114 20 then a else if o = 0 ∧ k = 14 then M 114 20 + 1 else if o = 16 ∧ k = M 114 20 then b else if o = 15 ∧ k = M 114 20 then a else M o k := fun o k => by rw [f2]; rfl
    have cg : ∀ o k : Int, ¬ (o = 122 ∨ o = 123 ∨ (o = 114 ∧ k = 20) ∨ (o = 0 ∧ k = 14) ∨ o = 15 ∨ o = 16) → M2 o k = M o k := fun o k n => by
      rw [cf, if_neg (by omega), if_neg (by omega), if_neg (by omega), if_neg (by omega), if_neg (by omega), if_neg (by omega)]
    have c20 : M2 114 20 = M 114 20 + 1 := by rw [cf, if_pos ⟨rfl, rfl⟩]
    have r : ∀ o : Int, (119 ≤ o ∧ o ≤ 121) → M2 o = M o := fun o ho => funext fun k => cg o k (by omega)
    have f : ∀ k : Int, (k = 13 ∨ k = 15 ∨ k = 17 ∨ k = 19) → M2 114 k = M 114 k := fun k hk => cg 114 k (by omega)
    refine ⟨⟨?_, ?_⟩, x.2.1.up (fun o k z n => cg o k (by unfold ZB at z; omega)) (by rw [f 13 (by omega)]; exact Int.le_refl _) (by omega), x.2.2.1.cg (fun o k z => cg o k (by unfold ZC at z; omega)), x.2.2.2.1.cg (fun o k z => cg o k (by unfold ZD at z; omega)), x.2.2.2.2.1.up (fun o k z n => cg o k (by unfold ZE at z; omega)) (by rw [f 13 (by omega)]; exact Int.le_refl _) (by omega), IvF.cg (fun k => cg 118 k (by omega)) x.2.2.2.2.2⟩
    · unfold WTab
      rw [r 119 (by omega), r 120 (by omega), r 121 (by omega), f 13 (by omega), f 15 (by omega), f 17 (by omega), f 19 (by omega), c20]
      refine ⟨t1, t2, t3, t4, t5, t6, t7, by omega, fun i i0 i1 => ?_⟩
      have z := t9 i i0 i1
      rw [cf, cf]
      by_cases d : i = M 114 20
      · rw [if_neg (by omega), if_neg (by omega), if_pos ⟨rfl, d⟩, if_neg (by omega), if_pos ⟨rfl, d⟩]; omega
      · rw [if_neg (by omega), if_neg (by omega), if_neg (by omega), if_neg (by omega), if_neg (by omega), if_neg (by omega), if_neg (by omega), if_neg (by omega), if_neg (by omega), if_neg (by omega), if_neg (by omega), if_neg (by omega)]; exact z
    · unfold IT
      rw [r 119 (by omega), r 120 (by omega), r 121 (by omega), f 13 (by omega), f 15 (by omega), f 17 (by omega), f 19 (by omega), c20, cg 0 13 (by omega), cg 0 15 (by omega), cg 22 1 (by omega), cg 22 2 (by omega)]
      refine ⟨⟨a1, fun l c l0 l1 c0 c1 => by rw [cg _ _ (by omega)]; exact a2 l c l0 l1 c0 c1⟩, ⟨by rw [cf, if_neg (by omega), if_neg (by omega), if_neg (by omega), if_pos ⟨rfl, rfl⟩], fun i i0 i1 => ?_⟩, ⟨a5, fun m k m0 m1 k0 k1 => by rw [cg _ _ (by omega)]; exact a6 m k m0 m1 k0 k1⟩, a7, a8, fun k k0 k1 => by rw [cg _ _ (by omega)]; exact a9 k k0 k1⟩
      rw [cf 15, cf 16, cf 122, cf 123]
      by_cases d : i = M 114 20
      · simp [d]
      · have z := a4 i i0 (by omega)
        simp [d]; exact z
  · rw [if_neg c] at f1 f2
    rw [f2, f1]; exact x

