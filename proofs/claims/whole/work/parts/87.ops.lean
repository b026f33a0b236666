/-! The calls that change the show. -/
theorem b2i_p {q : Prop} (h : b2i q = 1) : q := by
  rcases b2i_eq (b := b2i q) rfl with y | y
  · exact y.2
  · rw [y.1] at h; exact absurd h (by decide)
theorem oe_mountain {M M1 : Mem} {a r1 : Int} (x : IVA M) (ia : i32 a) (hc : (fun r M' => r = (if 0 ≤ a ∧ a ≤ 400 then (if M 114 26 = 6 then -104 else M 114 26) else -102) ∧ M' = (if (0 ≤ a ∧ a ≤ 400) ∧ M 114 26 ≠ 6 then mu (mu M 59 (M 24 6) a) 24 6 (M 24 6 + 1) else M)) r1 M1) : EQ M M1 := by
  obtain ⟨-, f1⟩ := hc
  rw [f1]
  split
  · exact ((EQ.rf M).pu _ _ (by omega)).pu _ _ (by omega)
  · exact EQ.rf M
theorem op_mountain {M M1 M2 : Mem} {a r1 r2 : Int} (x : IVA M) (ia : i32 a) (hc : (fun r M' => r = (if 0 ≤ a ∧ a ≤ 400 then (if M 114 26 = 6 then -104 else M 114 26) else -102) ∧ M' = (if (0 ≤ a ∧ a ≤ 400) ∧ M 114 26 ≠ 6 then mu (mu M 59 (M 24 6) a) 24 6 (M 24 6 + 1) else M)) r1 M1) (hd : (fun r M' => r = (if 0 ≤ a ∧ a ≤ 400 then (if M1 114 26 = 6 then -104 else M1 114 26) else -102) ∧ M' = (if (0 ≤ a ∧ a ≤ 400) ∧ M1 114 26 ≠ 6 then mu (mu M1 126 (M1 114 26) a) 114 26 (M1 114 26 + 1) else M1)) r2 M2) : r1 = r2 ∧ IVA M2 := by
  have qE := oe_mountain x ia hc
  obtain ⟨e1, f1⟩ := hc
  obtain ⟨e2, f2⟩ := hd
  rw [qE 114 (by omega)] at e2 f2
  have n6 := x.iv.hn.2.1
  refine ⟨by rw [e1, e2], ?_⟩
  by_cases c : (0 ≤ a ∧ a ≤ 400) ∧ M 114 26 ≠ 6
  · rw [if_pos c] at f1 f2
    rw [n6] at f1
    subst f1
    obtain ⟨w, s, u⟩ := x.2.1
    have hn := w.1
    obtain ⟨w1, w2, w3, w4, w5, w6, w7⟩ := w
    obtain ⟨⟨s1, s2, s3⟩, s4, s5, s6, s7⟩ := s
    have cf : ∀ o k : Int, M2 o k = if o = 114 ∧ k = 26 then M 114 26 + 1 else if o = 126 ∧ k = M 114 26 then a else if o = 24 ∧ k = 6 then M 114 26 + 1 else if o = 59 ∧ k = M 114 26 then a else M o k := fun o k => by rw [f2]; rfl
    have cg : ∀ o k : Int, ¬ (o = 126 ∨ (o = 114 ∧ k = 26) ∨ (o = 24 ∧ k = 6) ∨ o = 59) → M2 o k = M o k := fun o k n => by
      rw [cf, if_neg (by omega), if_neg (by omega), if_neg (by omega), if_neg (by omega)]
    have c26 : M2 114 26 = M 114 26 + 1 := by rw [cf, if_pos ⟨rfl, rfl⟩]
    have c6 : M2 24 6 = M 114 26 + 1 := by rw [cf, if_neg (by omega), if_neg (by omega), if_pos ⟨rfl, rfl⟩]
    have r : ∀ o : Int, o = 124 ∨ o = 125 ∨ o = 134 ∨ o = 135 → M2 o = M o := fun o ho => funext fun k => cg o k (by omega)
    have f : ∀ k : Int, k = 13 ∨ k = 20 ∨ k = 23 ∨ k = 40 → M2 114 k = M 114 k := fun k hk => cg 114 k (by omega)
    refine ⟨x.1.cg (fun o k z => cg o k (by unfold ZA at z; omega)), ⟨?_, ?_, ?_⟩, x.2.2.1.cg (fun o k z => cg o k (by unfold ZC at z; omega)), x.2.2.2.1.cg (fun o k z => cg o k (by unfold ZD at z; omega)), x.2.2.2.2.1.cg (fun o k z => cg o k (by unfold ZE at z; omega)), IvF.cg (fun k => cg 118 k (by omega)) x.2.2.2.2.2⟩
    · unfold WPic
      rw [r 124 (by omega), r 125 (by omega), r 134 (by omega), r 135 (by omega), f 13 (by omega), f 20 (by omega), f 23 (by omega), f 40 (by omega), c26]
      refine ⟨w1, by omega, w3, w4, w5, fun i i0 i1 => ?_, w7⟩
      have z := w6 i i0 i1
      rw [cf]
      by_cases d : i = M 114 26
      · rw [if_neg (by omega), if_pos ⟨rfl, d⟩]; omega
      · rw [if_neg (by omega), if_neg (by omega), if_neg (by omega), if_neg (by omega)]; exact z
    · unfold IS
      rw [r 124 (by omega), r 125 (by omega), r 134 (by omega), r 135 (by omega), f 23 (by omega), f 40 (by omega), c26]
      refine ⟨⟨by rw [cg _ _ (by omega)]; exact s1, c6, by rw [cg _ _ (by omega)]; exact s3⟩, fun p c p0 p1 c0 c1 => by rw [cg _ _ (by omega)]; exact s4 p c p0 p1 c0 c1, fun p c p0 p1 c0 c1 => by rw [cg _ _ (by omega)]; exact s5 p c p0 p1 c0 c1, fun i i0 i1 => ?_, fun y y0 y1 => by rw [cg _ _ (by omega), cg _ _ (by omega)]; exact s7 y y0 y1⟩
      have z := s6 i i0 i1
      rw [cf, cf]
      by_cases d : i = M 114 26
      · rw [if_neg (by omega), if_neg (by omega), if_neg (by omega), if_pos ⟨rfl, d⟩, if_neg (by omega), if_pos ⟨rfl, d⟩]
      · rw [if_neg (by omega), if_neg (by omega), if_neg (by omega), if_neg (by omega), if_neg (by omega), if_neg (by omega), if_neg (by omega), if_neg (by omega)]; exact z
    · rw [r 134 (by omega), f 40 (by omega)]; exact u
  · rw [if_neg c] at f1 f2
    rw [f2, f1]; exact x
theorem oe_colour {M M1 : Mem} {q pt cl v r1 : Int} (x : IVA M) (iq : i32 q) (ipt : i32 pt) (icl : i32 cl) (iv : i32 v) (hc : (fun r M' => r = (if 0 ≤ q ∧ q < M 114 23 then (if (0 ≤ pt ∧ pt ≤ 3) ∧ (0 ≤ cl ∧ cl ≤ 2) ∧ (0 ≤ v ∧ v ≤ 99) then M 125 (12 * q + 3 * pt + cl) else -102) else -101) ∧ M' = (if ((0 ≤ q ∧ q < M 114 23) ∧ (0 ≤ pt ∧ pt ≤ 3) ∧ (0 ≤ cl ∧ cl ≤ 2) ∧ (0 ≤ v ∧ v ≤ 99)) then mu M (43 + q) (pt * 3 + cl) v else M)) r1 M1) : EQ M M1 := by
  obtain ⟨-, f1⟩ := hc
  rw [f1]
  have hn := x.w.n
  split
  · rename_i c
    exact (EQ.rf M).pu _ _ (by omega)
  · exact EQ.rf M
theorem op_colour {M M1 M2 : Mem} {q pt cl v r1 r2 : Int} (x : IVA M) (iq : i32 q) (ipt : i32 pt) (icl : i32 cl) (iv : i32 v) (hc : (fun r M' => r = (if 0 ≤ q ∧ q < M 114 23 then (if (0 ≤ pt ∧ pt ≤ 3) ∧ (0 ≤ cl ∧ cl ≤ 2) ∧ (0 ≤ v ∧ v ≤ 99) then M 125 (12 * q + 3 * pt + cl) else -102) else -101) ∧ M' = (if ((0 ≤ q ∧ q < M 114 23) ∧ (0 ≤ pt ∧ pt ≤ 3) ∧ (0 ≤ cl ∧ cl ≤ 2) ∧ (0 ≤ v ∧ v ≤ 99)) then mu M (43 + q) (pt * 3 + cl) v else M)) r1 M1) (hd : (fun r M' => r = (if 0 ≤ q ∧ q < M1 114 23 then (if (0 ≤ pt ∧ pt ≤ 3) ∧ (0 ≤ cl ∧ cl ≤ 2) ∧ (0 ≤ v ∧ v ≤ 99) then M1 125 (12 * q + 3 * pt + cl) else -102) else -101) ∧ M' = (if (0 ≤ q ∧ q < M1 114 23) ∧ (0 ≤ pt ∧ pt ≤ 3) ∧ (0 ≤ cl ∧ cl ≤ 2) ∧ (0 ≤ v ∧ v ≤ 99) then mu M1 125 (12 * q + 3 * pt + cl) v else M1)) r2 M2) : r1 = r2 ∧ IVA M2 := by
  have qE := oe_colour x iq ipt icl iv hc
  obtain ⟨e1, f1⟩ := hc
  obtain ⟨e2, f2⟩ := hd
  rw [qE 114 (by omega), qE 125 (by omega)] at e2
  rw [qE 114 (by omega)] at f2
  refine ⟨by rw [e1, e2], ?_⟩
  by_cases c : (0 ≤ q ∧ q < M 114 23) ∧ (0 ≤ pt ∧ pt ≤ 3) ∧ (0 ≤ cl ∧ cl ≤ 2) ∧ (0 ≤ v ∧ v ≤ 99)
  · rw [if_pos c] at f1 f2
    subst f1
    obtain ⟨w, s, u⟩ := x.2.1
    have hn := w.1
    obtain ⟨w1, w2, w3, w4, w5, w6, w7⟩ := w
    obtain ⟨⟨s1, s2, s3⟩, s4, s5, s6, s7⟩ := s
    have cf : ∀ o k : Int, M2 o k = if o = 125 ∧ k = 12 * q + 3 * pt + cl then v else if o = 43 + q ∧ k = pt * 3 + cl then v else M o k := fun o k => by rw [f2]; rfl
    have cg : ∀ o k : Int, ¬ (o = 125 ∨ (43 ≤ o ∧ o ≤ 58)) → M2 o k = M o k := fun o k n => by
      rw [cf, if_neg (by omega), if_neg (by omega)]
    have r : ∀ o : Int, o = 124 ∨ o = 126 ∨ o = 134 ∨ o = 135 → M2 o = M o := fun o ho => funext fun k => cg o k (by omega)
    have f : ∀ k : Int, M2 114 k = M 114 k := fun k => cg 114 k (by omega)
    refine ⟨x.1.cg (fun o k z => cg o k (by unfold ZA at z; omega)), ⟨?_, ?_, ?_⟩, x.2.2.1.cg (fun o k z => cg o k (by unfold ZC at z; omega)), x.2.2.2.1.cg (fun o k z => cg o k (by unfold ZD at z; omega)), x.2.2.2.2.1.cg (fun o k z => cg o k (by unfold ZE at z; omega)), IvF.cg (fun k => cg 118 k (by omega)) x.2.2.2.2.2⟩
    · unfold WPic
      rw [r 124 (by omega), r 126 (by omega), r 134 (by omega), r 135 (by omega), f 13, f 20, f 23, f 40, f 26]
      refine ⟨w1, w2, w3, w4, fun p d p0 p1 d0 d1 => ?_, w6, w7⟩
      have z := w5 p d p0 p1 d0 d1
      rw [cf]
      by_cases e : 12 * p + d = 12 * q + 3 * pt + cl
      · rw [if_pos ⟨rfl, e⟩]; omega
      · rw [if_neg (by omega), if_neg (by omega)]; exact z
    · unfold IS
      rw [r 124 (by omega), r 126 (by omega), r 134 (by omega), r 135 (by omega), f 23, f 40, f 26]
      refine ⟨⟨by rw [cg _ _ (by omega)]; exact s1, by rw [cg _ _ (by omega)]; exact s2, by rw [cg _ _ (by omega)]; exact s3⟩, fun p c p0 p1 c0 c1 => by rw [cg _ _ (by omega)]; exact s4 p c p0 p1 c0 c1, fun p d p0 p1 d0 d1 => ?_, fun i i0 i1 => by rw [cg _ _ (by omega)]; exact s6 i i0 i1, fun y y0 y1 => by rw [cg _ _ (by omega), cg _ _ (by omega)]; exact s7 y y0 y1⟩
      have z := s5 p d p0 p1 d0 d1
      rw [cf, cf]
      by_cases e : p = q ∧ d = pt * 3 + cl
      · rw [if_neg (by omega), if_pos (by omega), if_pos (by omega)]
      · rw [if_neg (by omega), if_neg (by omega), if_neg (by omega), if_neg (by omega)]; exact z
    · rw [r 134 (by omega), f 40]; exact u
  · rw [if_neg c] at f1 f2
    rw [f2, f1]; exact x
theorem oe_picture {M M1 : Mem} {kind hand year span lamp pig r1 : Int} (x : IVA M) (ikind : i32 kind) (ihand : i32 hand) (iyear : i32 year) (ispan : i32 span) (ilamp : i32 lamp) (ipig : i32 pig) (hc : (fun r M' => r = (if b2i (picRng kind hand year span) = 1 then (if b2i (picUnk M lamp pig) = 1 then (if M 114 23 = 16 then -104 else M 114 23) else -101) else -102) ∧ M' = (if b2i (picRng kind hand year span ∧ picUnk M lamp pig ∧ M 114 23 ≠ 16) = 1 then hgX M kind hand year span lamp pig else M)) r1 M1) : EQ M M1 := by
  obtain ⟨-, f1⟩ := hc
  have hn := x.w.n
  have n5 := x.iv.hn.1
  rw [f1]
  split
  · rename_i c
    have c' := (b2i_p c).2.2
    intro o ho
    funext k
    unfold hgX
    rw [if_neg (by omega), if_neg (by omega), if_neg (by omega)]
  · exact EQ.rf M
theorem op_picture {M M1 M2 : Mem} {kind hand year span lamp pig r1 r2 : Int} (x : IVA M) (ikind : i32 kind) (ihand : i32 hand) (iyear : i32 year) (ispan : i32 span) (ilamp : i32 lamp) (ipig : i32 pig) (hc : (fun r M' => r = (if b2i (picRng kind hand year span) = 1 then (if b2i (picUnk M lamp pig) = 1 then (if M 114 23 = 16 then -104 else M 114 23) else -101) else -102) ∧ M' = (if b2i (picRng kind hand year span ∧ picUnk M lamp pig ∧ M 114 23 ≠ 16) = 1 then hgX M kind hand year span lamp pig else M)) r1 M1) (hd : (fun r M' => r = (if b2i (picRng kind hand year span) = 1 then (if b2i (picUnk M1 lamp pig) = 1 then (if M1 114 23 = 16 then -104 else M1 114 23) else -101) else -102) ∧ M' = (if b2i (picRng kind hand year span ∧ picUnk M1 lamp pig ∧ M1 114 23 ≠ 16) = 1 then addM M1 kind hand year span lamp pig else M1)) r2 M2) : r1 = r2 ∧ IVA M2 := by
  have qE := oe_picture x ikind ihand iyear ispan ilamp ipig hc
  obtain ⟨e1, f1⟩ := hc
  obtain ⟨e2, f2⟩ := hd
  have pu : picUnk M1 lamp pig = picUnk M lamp pig := by unfold picUnk; rw [qE 114 (by omega)]
  have e23 := congrFun (qE 114 (by omega)) 23
  rw [pu, e23] at e2 f2
  refine ⟨by rw [e1, e2], ?_⟩
  have n5 := x.iv.hn.1
  by_cases c : b2i (picRng kind hand year span ∧ picUnk M lamp pig ∧ M 114 23 ≠ 16) = 1
  · rw [if_pos c] at f1 f2
    obtain ⟨cr, cu, c16⟩ := b2i_p c
    unfold picRng at cr
    unfold picUnk at cu
    obtain ⟨w, s, u⟩ := x.2.1
    have hn := w.1
    obtain ⟨w1, w2, w3, w4, w5, w6, w7⟩ := w
    obtain ⟨⟨s1, s2, s3⟩, s4, s5, s6, s7⟩ := s
    have cf : ∀ o k : Int, M2 o k = if o = 114 ∧ k = 23 then M 114 23 + 1 else if o = 124 ∧ 6 * M 114 23 ≤ k ∧ k < 6 * M 114 23 + 6 then (if k = 6 * M 114 23 then kind else if k = 6 * M 114 23 + 1 then hand else if k = 6 * M 114 23 + 2 then year else if k = 6 * M 114 23 + 3 then (if kind = 1 ∨ kind = 2 then 0 else span) else if k = 6 * M 114 23 + 4 then lamp else pig) else if o = 125 ∧ 12 * M 114 23 ≤ k ∧ k < 12 * M 114 23 + 12 then 0 else if o = 26 + M 114 23 ∧ 0 ≤ k ∧ k < 6 then (if k = 0 then kind else if k = 1 then hand else if k = 2 then year else if k = 3 then (if kind = 1 ∨ kind = 2 then 0 else span) else if k = 4 then lamp else pig) else if o = 43 + M 114 23 ∧ 0 ≤ k ∧ k < 12 then 0 else if o = 24 ∧ k = 5 then M 114 23 + 1 else M o k := fun o k => by
      rw [f2]
      unfold addM addL
      simp only [mu]
      rw [e23, f1]
      unfold hgX
      rw [n5]
    have cg : ∀ o k : Int, ¬ (o = 124 ∨ o = 125 ∨ (o = 114 ∧ k = 23) ∨ (26 ≤ o ∧ o ≤ 41) ∨ (43 ≤ o ∧ o ≤ 58) ∨ (o = 24 ∧ k = 5)) → M2 o k = M o k := fun o k n => by
      rw [cf, if_neg (by omega), if_neg (by omega), if_neg (by omega), if_neg (by omega), if_neg (by omega), if_neg (by omega)]
    have c23 : M2 114 23 = M 114 23 + 1 := by rw [cf, if_pos ⟨rfl, rfl⟩]
    have c5 : M2 24 5 = M 114 23 + 1 := by rw [cf, if_neg (by omega), if_neg (by omega), if_neg (by omega), if_neg (by omega), if_neg (by omega), if_pos ⟨rfl, rfl⟩]
    have r : ∀ o : Int, o = 126 ∨ o = 134 ∨ o = 135 → M2 o = M o := fun o ho => funext fun k => cg o k (by omega)
    have f : ∀ k : Int, k = 13 ∨ k = 20 ∨ k = 26 ∨ k = 40 → M2 114 k = M 114 k := fun k hk => cg 114 k (by omega)
    refine ⟨x.1.cg (fun o k z => cg o k (by unfold ZA at z; omega)), ⟨?_, ?_, ?_⟩, x.2.2.1.cg (fun o k z => cg o k (by unfold ZC at z; omega)), x.2.2.2.1.cg (fun o k z => cg o k (by unfold ZD at z; omega)), x.2.2.2.2.1.cg (fun o k z => cg o k (by unfold ZE at z; omega)), IvF.cg (fun k => cg 118 k (by omega)) x.2.2.2.2.2⟩
    · unfold WPic
      rw [r 126 (by omega), r 134 (by omega), r 135 (by omega), f 13 (by omega), f 20 (by omega), f 26 (by omega), f 40 (by omega), c23]
      refine ⟨by omega, w2, w3, fun p p0 p1 => ?_, fun p d p0 p1 d0 d1 => ?_, w6, w7⟩
      · by_cases d : p = M 114 23
        · have v0 : M2 124 (6 * p) = kind := by rw [cf, if_neg (by omega), if_pos (by omega), if_pos (by omega)]
          have v1 : M2 124 (6 * p + 1) = hand := by rw [cf, if_neg (by omega), if_pos (by omega), if_neg (by omega), if_pos (by omega)]
          have v2 : M2 124 (6 * p + 2) = year := by rw [cf, if_neg (by omega), if_pos (by omega), if_neg (by omega), if_neg (by omega), if_pos (by omega)]
          have v3 : M2 124 (6 * p + 3) = (if kind = 1 ∨ kind = 2 then 0 else span) := by rw [cf, if_neg (by omega), if_pos (by omega), if_neg (by omega), if_neg (by omega), if_neg (by omega), if_pos (by omega)]
          have v4 : M2 124 (6 * p + 4) = lamp := by rw [cf, if_neg (by omega), if_pos (by omega), if_neg (by omega), if_neg (by omega), if_neg (by omega), if_neg (by omega), if_pos (by omega)]
          have v5 : M2 124 (6 * p + 5) = pig := by rw [cf, if_neg (by omega), if_pos (by omega), if_neg (by omega), if_neg (by omega), if_neg (by omega), if_neg (by omega), if_neg (by omega)]
          have v6 : 0 ≤ (if kind = 1 ∨ kind = 2 then 0 else span) ∧ (if kind = 1 ∨ kind = 2 then 0 else span) ≤ 20 := by split <;> omega
          rw [v0, v1, v2, v3, v4, v5]
          exact ⟨by omega, by omega, by omega, v6, by omega, by omega⟩
        · have y : ∀ j : Int, 0 ≤ j → j < 6 → M2 124 (6 * p + j) = M 124 (6 * p + j) := fun j j0 j1 => by
            rw [cf, if_neg (by omega), if_neg (by omega), if_neg (by omega), if_neg (by omega), if_neg (by omega), if_neg (by omega)]
          have y0 := y 0 (by omega) (by omega)
          rw [Int.add_zero] at y0
          rw [y0, y 1 (by omega) (by omega), y 2 (by omega) (by omega), y 3 (by omega) (by omega), y 4 (by omega) (by omega), y 5 (by omega) (by omega)]
          exact w4 p p0 (by omega)
      · rw [cf]
        by_cases e : p = M 114 23
        · rw [if_neg (by omega), if_neg (by omega), if_pos (by omega)]; omega
        · rw [if_neg (by omega), if_neg (by omega), if_neg (by omega), if_neg (by omega), if_neg (by omega), if_neg (by omega)]; exact w5 p d p0 (by omega) d0 d1
    · unfold IS
      rw [r 126 (by omega), r 134 (by omega), r 135 (by omega), f 26 (by omega), f 40 (by omega), c23]
      refine ⟨⟨c5, by rw [cg _ _ (by omega)]; exact s2, by rw [cg _ _ (by omega)]; exact s3⟩, fun p d p0 p1 d0 d1 => ?_, fun p d p0 p1 d0 d1 => ?_, fun i i0 i1 => by rw [cg _ _ (by omega)]; exact s6 i i0 i1, fun y y0 y1 => by rw [cg _ _ (by omega), cg _ _ (by omega)]; exact s7 y y0 y1⟩
      · by_cases e : p = M 114 23
        · rw [cf (26 + p), cf 124, if_neg (by omega), if_neg (by omega), if_neg (by omega), if_pos (show 26 + p = 26 + M 114 23 ∧ 0 ≤ d ∧ d < 6 by omega), if_neg (show ¬ ((124 : Int) = 114 ∧ 6 * p + d = 23) by omega), if_pos (show (124 : Int) = 124 ∧ 6 * M 114 23 ≤ 6 * p + d ∧ 6 * p + d < 6 * M 114 23 + 6 by omega)]
          rcases (by omega : d = 0 ∨ d = 1 ∨ d = 2 ∨ d = 3 ∨ d = 4 ∨ d = 5) with g | g | g | g | g | g
          · rw [if_pos g, if_pos (by omega)]
          · rw [if_neg (by omega), if_pos g, if_neg (by omega), if_pos (by omega)]
          · rw [if_neg (by omega), if_neg (by omega), if_pos g, if_neg (by omega), if_neg (by omega), if_pos (by omega)]
          · rw [if_neg (show ¬ d = 0 by omega), if_neg (show ¬ d = 1 by omega), if_neg (show ¬ d = 2 by omega), if_pos g, if_neg (show ¬ 6 * p + d = 6 * M 114 23 by omega), if_neg (show ¬ 6 * p + d = 6 * M 114 23 + 1 by omega), if_neg (show ¬ 6 * p + d = 6 * M 114 23 + 2 by omega), if_pos (show 6 * p + d = 6 * M 114 23 + 3 by omega)]
          · rw [if_neg (show ¬ d = 0 by omega), if_neg (show ¬ d = 1 by omega), if_neg (show ¬ d = 2 by omega), if_neg (show ¬ d = 3 by omega), if_pos g, if_neg (show ¬ 6 * p + d = 6 * M 114 23 by omega), if_neg (show ¬ 6 * p + d = 6 * M 114 23 + 1 by omega), if_neg (show ¬ 6 * p + d = 6 * M 114 23 + 2 by omega), if_neg (show ¬ 6 * p + d = 6 * M 114 23 + 3 by omega), if_pos (show 6 * p + d = 6 * M 114 23 + 4 by omega)]
          · rw [if_neg (show ¬ d = 0 by omega), if_neg (show ¬ d = 1 by omega), if_neg (show ¬ d = 2 by omega), if_neg (show ¬ d = 3 by omega), if_neg (show ¬ d = 4 by omega), if_neg (show ¬ 6 * p + d = 6 * M 114 23 by omega), if_neg (show ¬ 6 * p + d = 6 * M 114 23 + 1 by omega), if_neg (show ¬ 6 * p + d = 6 * M 114 23 + 2 by omega), if_neg (show ¬ 6 * p + d = 6 * M 114 23 + 3 by omega), if_neg (show ¬ 6 * p + d = 6 * M 114 23 + 4 by omega)]
        · rw [cf (26 + p), cf 124, if_neg (by omega), if_neg (by omega), if_neg (by omega), if_neg (by omega), if_neg (by omega), if_neg (by omega), if_neg (by omega), if_neg (by omega), if_neg (by omega), if_neg (by omega), if_neg (by omega), if_neg (by omega)]
          exact s4 p d p0 (by omega) d0 d1
      · by_cases e : p = M 114 23
        · rw [cf (43 + p), cf 125, if_neg (by omega), if_neg (by omega), if_neg (by omega), if_neg (by omega), if_pos (by omega), if_neg (by omega), if_neg (by omega), if_pos (by omega)]
        · rw [cf (43 + p), cf 125, if_neg (by omega), if_neg (by omega), if_neg (by omega), if_neg (by omega), if_neg (by omega), if_neg (by omega), if_neg (by omega), if_neg (by omega), if_neg (by omega), if_neg (by omega), if_neg (by omega), if_neg (by omega)]
          exact s5 p d p0 (by omega) d0 d1
    · rw [r 134 (by omega), f 40 (by omega)]; exact u
  · rw [if_neg c] at f1 f2
    rw [f2, f1]; exact x

