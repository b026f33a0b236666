/-! ICE, the image, painting. -/
theorem icX_at (M : Mem) (y a b o k : Int) : icX M y a b o k = if o = 60 ∧ k = y then a else if a ≠ -1 ∧ o = 61 ∧ k = y then b else if o = 24 ∧ k = 7 then (if a = -1 then (if M 60 y = -1 then M 24 7 else M 24 7 - 1) else (if M 60 y = -1 then M 24 7 + 1 else M 24 7)) else M o k := by
  unfold icX fgX tlX
  by_cases ca : a = -1
  · rw [if_pos ca]
    by_cases cm : M 60 y = -1
    · rw [if_pos cm]; simp only [mu]; grind
    · rw [if_neg cm]; simp only [mu]; grind
  · rw [if_neg ca]
    by_cases cm : M 60 y = -1
    · rw [if_pos cm]; simp only [mu]; grind
    · rw [if_neg cm]; simp only [mu]; grind
theorem oe_ice {M M1 : Mem} {y a b r1 : Int} (x : IVA M) (iy : i32 y) (ia : i32 a) (ib : i32 b) (hc : (fun r M' => r = (if b2i (iceOut y a b) = 1 then -102 else if b2i (iceFul M y a) = 1 then -104 else M 114 40 + ((if a = -1 then 0 else 1) - (if M 134 y = -1 then 0 else 1))) ∧ M' = (if b2i (iceOut y a b) = 1 then M else if b2i (iceFul M y a) = 1 then M else icX M y a b)) r1 M1) : EQ M M1 := by
  obtain ⟨-, f1⟩ := hc
  rw [f1]
  split
  · exact EQ.rf M
  · split
    · exact EQ.rf M
    · intro o ho
      funext k
      rw [icX_at, if_neg (by omega), if_neg (by omega), if_neg (by omega)]
theorem op_ice {M M1 M2 : Mem} {y a b r1 r2 : Int} (x : IVA M) (iy : i32 y) (ia : i32 a) (ib : i32 b) (hc : (fun r M' => r = (if b2i (iceOut y a b) = 1 then -102 else if b2i (iceFul M y a) = 1 then -104 else M 114 40 + ((if a = -1 then 0 else 1) - (if M 134 y = -1 then 0 else 1))) ∧ M' = (if b2i (iceOut y a b) = 1 then M else if b2i (iceFul M y a) = 1 then M else icX M y a b)) r1 M1) (hd : (fun r M' => r = (if b2i (iceOut y a b) = 1 then -102 else if b2i (iceFul M1 y a) = 1 then -104 else M1 114 40 + ((if a = -1 then 0 else 1) - (if M1 134 y = -1 then 0 else 1))) ∧ M' = (if b2i (iceOut y a b) = 1 then M1 else if b2i (iceFul M1 y a) = 1 then M1 else iceM M1 y a b)) r2 M2) : r1 = r2 ∧ IVA M2 := by
  have qE := oe_ice x iy ia ib hc
  obtain ⟨e1, f1⟩ := hc
  obtain ⟨e2, f2⟩ := hd
  have pu : iceFul M1 y a = iceFul M y a := by unfold iceFul; rw [qE 114 (by omega), qE 134 (by omega)]
  have e40 := congrFun (qE 114 (by omega)) 40
  have e134 := qE 134 (by omega)
  rw [pu, e40, e134] at e2
  rw [pu] at f2
  refine ⟨by rw [e1, e2], ?_⟩
  by_cases c1 : b2i (iceOut y a b) = 1
  · rw [if_pos c1] at f1 f2
    rw [f2, f1]; exact x
  by_cases c2 : b2i (iceFul M y a) = 1
  · rw [if_neg c1, if_pos c2] at f1 f2
    rw [f2, f1]; exact x
  rw [if_neg c1, if_neg c2] at f1 f2
  have nO : ¬ iceOut y a b := fun z => c1 (b2i_1 z).symm
  have nF : ¬ iceFul M y a := fun z => c2 (b2i_1 z).symm
  unfold iceOut at nO
  unfold iceFul at nF
  have hy : 0 ≤ y ∧ y ≤ 400 := by omega
  have ha : -1 ≤ a ∧ a ≤ 5 := by omega
  have hb : a ≠ -1 → a ≤ b ∧ b ≤ 5 := by omega
  have hfl : a ≠ -1 → M 134 y = -1 → M 114 40 ≠ 40 := fun p q r => nF ⟨p, q, r⟩
  clear nO nF
  have e60 := x.iv.ic hy.1 (by omega)
  have n7 := x.iv.hn.2.2
  obtain ⟨w, s, u⟩ := x.2.1
  have hn := w.1
  obtain ⟨w1, w2, w3, w4, w5, w6, w7⟩ := w
  obtain ⟨⟨s1, s2, s3⟩, s4, s5, s6, s7⟩ := s
  unfold IceN at u
  have hge := sm_ge (f := fun j => if M 134 j = -1 then 0 else 1) (fun i => by show 0 ≤ (if M 134 i = -1 then (0 : Int) else 1); split <;> omega) hy.1 (n := 401) (by omega)
  rw [← u] at hge
  obtain ⟨N, hN⟩ : ∃ z, z = M 114 40 + ((if a = -1 then 0 else 1) - (if M 134 y = -1 then 0 else 1)) := ⟨_, rfl⟩
  have hN0 : 0 ≤ N ∧ N ≤ 40 := by
    have hge' : (if M 134 y = -1 then (0 : Int) else 1) ≤ M 114 40 := hge
    by_cases p : a = -1
    · rw [if_pos p] at hN
      by_cases q : M 134 y = -1
      · rw [if_pos q] at hN; omega
      · rw [if_neg q] at hN hge'; omega
    · rw [if_neg p] at hN
      have := hfl p
      by_cases q : M 134 y = -1
      · rw [if_pos q] at hN; have := hfl p q; omega
      · rw [if_neg q] at hN; omega
  have cf : ∀ o k : Int, M2 o k = if o = 135 ∧ k = y then (if a = -1 then -1 else b) else if o = 134 ∧ k = y then a else if o = 114 ∧ k = 40 then N else if o = 60 ∧ k = y then a else if a ≠ -1 ∧ o = 61 ∧ k = y then b else if o = 24 ∧ k = 7 then (if a = -1 then (if M 60 y = -1 then M 24 7 else M 24 7 - 1) else (if M 60 y = -1 then M 24 7 + 1 else M 24 7)) else M o k := fun o k => by
    rw [f2]
    unfold iceM
    simp only [mu]
    rw [e40, e134, ← hN, f1, icX_at]
  have cg : ∀ o k : Int, ¬ (o = 134 ∨ o = 135 ∨ (o = 114 ∧ k = 40) ∨ o = 60 ∨ o = 61 ∨ (o = 24 ∧ k = 7)) → M2 o k = M o k := fun o k n => by
    rw [cf, if_neg (by omega), if_neg (by omega), if_neg (by omega), if_neg (by omega), if_neg (by omega), if_neg (by omega)]
  have c40 : M2 114 40 = N := by rw [cf, if_neg (by omega), if_neg (by omega), if_pos ⟨rfl, rfl⟩]
  have c7 : M2 24 7 = N := by
    rw [cf, if_neg (by omega), if_neg (by omega), if_neg (by omega), if_neg (by omega), if_neg (by omega), if_pos ⟨rfl, rfl⟩, hN, n7, e60.1]
    by_cases p : a = -1
    · rw [if_pos p, if_pos p]
      by_cases q : M 134 y = -1
      · rw [if_pos q, if_pos q]; omega
      · rw [if_neg q, if_neg q]; omega
    · rw [if_neg p, if_neg p]
      by_cases q : M 134 y = -1
      · rw [if_pos q, if_pos q]; omega
      · rw [if_neg q, if_neg q]; omega
  have d134 : ∀ k, M2 134 k = if k = y then a else M 134 k := fun k => by
    rw [cf, if_neg (by omega)]
    by_cases d : k = y
    · rw [if_pos ⟨rfl, d⟩, if_pos d]
    · rw [if_neg (by omega), if_neg (by omega), if_neg (by omega), if_neg (by omega), if_neg (by omega), if_neg d]
  have d135 : ∀ k, M2 135 k = if k = y then (if a = -1 then -1 else b) else M 135 k := fun k => by
    rw [cf]
    by_cases d : k = y
    · rw [if_pos ⟨rfl, d⟩, if_pos d]
    · rw [if_neg (by omega), if_neg (by omega), if_neg (by omega), if_neg (by omega), if_neg (by omega), if_neg (by omega), if_neg d]
  have d60 : ∀ k, M2 60 k = if k = y then a else M 60 k := fun k => by
    rw [cf, if_neg (by omega), if_neg (by omega), if_neg (by omega)]
    by_cases d : k = y
    · rw [if_pos ⟨rfl, d⟩, if_pos d]
    · rw [if_neg (by omega), if_neg (by omega), if_neg (by omega), if_neg d]
  have d61 : ∀ k, M2 61 k = if a ≠ -1 ∧ k = y then b else M 61 k := fun k => by
    rw [cf, if_neg (by omega), if_neg (by omega), if_neg (by omega), if_neg (by omega)]
    by_cases d : a ≠ -1 ∧ k = y
    · rw [if_pos ⟨d.1, rfl, d.2⟩, if_pos d]
    · rw [if_neg (by omega), if_neg (by omega), if_neg d]
  have r : ∀ o : Int, o = 124 ∨ o = 125 ∨ o = 126 → M2 o = M o := fun o ho => funext fun k => cg o k (by omega)
  have f : ∀ k : Int, k = 13 ∨ k = 20 ∨ k = 23 ∨ k = 26 → M2 114 k = M 114 k := fun k hk => cg 114 k (by omega)
  refine ⟨x.1.cg (fun o k z => cg o k (by unfold ZA at z; omega)), ⟨?_, ?_, ?_⟩, x.2.2.1.cg (fun o k z => cg o k (by unfold ZC at z; omega)), x.2.2.2.1.cg (fun o k z => cg o k (by unfold ZD at z; omega)), x.2.2.2.2.1.cg (fun o k z => cg o k (by unfold ZE at z; omega)), IvF.cg (fun k => cg 118 k (by omega)) x.2.2.2.2.2⟩
  · unfold WPic
    rw [r 124 (by omega), r 125 (by omega), r 126 (by omega), f 13 (by omega), f 20 (by omega), f 23 (by omega), f 26 (by omega), c40]
    refine ⟨w1, w2, hN0, w4, w5, w6, fun k k0 k1 => ?_⟩
    have z := w7 k k0 k1
    rw [d134, d135]
    by_cases d : k = y
    · rw [if_pos d, if_pos d]
      by_cases p : a = -1
      · rw [if_pos p]; omega
      · rw [if_neg p]; have := hb p; omega
    · rw [if_neg d, if_neg d]; exact z
  · unfold IS
    rw [r 124 (by omega), r 125 (by omega), r 126 (by omega), f 23 (by omega), f 26 (by omega), c40]
    refine ⟨⟨by rw [cg _ _ (by omega)]; exact s1, by rw [cg _ _ (by omega)]; exact s2, c7⟩, fun p c p0 p1 c0 c1 => by rw [cg _ _ (by omega)]; exact s4 p c p0 p1 c0 c1, fun p c p0 p1 c0 c1 => by rw [cg _ _ (by omega)]; exact s5 p c p0 p1 c0 c1, fun i i0 i1 => by rw [cg _ _ (by omega)]; exact s6 i i0 i1, fun k k0 k1 => ?_⟩
    have z := s7 k k0 k1
    rw [d60, d61, d134, d135]
    by_cases d : k = y
    · rw [if_pos d, if_pos d]
      refine ⟨rfl, fun p => ?_⟩
      rw [if_pos ⟨p, d⟩, if_pos d, if_neg p]
    · rw [if_neg d, if_neg d, if_neg (fun q => d q.2), if_neg d]; exact z
  · unfold IceN
    rw [c40]
    have e := sm_upd (f := fun j => if M2 134 j = -1 then 0 else 1) (g := fun j => if M 134 j = -1 then 0 else 1) (y := y) (fun j hj => by
      show (if M2 134 j = -1 then (0 : Int) else 1) = if M 134 j = -1 then 0 else 1
      rw [d134, if_neg hj]) hy.1 (n := 401) (by omega)
    rw [e, ← u, hN]
    show _ = M 114 40 + ((if M2 134 y = -1 then (0 : Int) else 1) - (if M 134 y = -1 then 0 else 1))
    rw [d134, if_pos rfl]
theorem EQ.oneS {A B : Mem} (h : EQ A B) (hand : Int) : EQ (oneS A hand) (oneS B hand) := fun o ho => by
  funext j
  have g : glwS B (B 114 28) = glwS A (A 114 28) := by unfold glwS; rw [h.e_nrS, h 114 (by omega)]
  unfold Jvm.Pilot.CRedSkiesLaw_law_r6391_9f1a8b.oneS oneL addM addL
  simp only [mu]
  rw [g, h 114 (by omega), h o ho]
theorem EQ.pnt {A B : Mem} (h : EQ A B) (hand : Int) : ∀ k : Nat, EQ (pnt A hand k) (pnt B hand k)
  | 0 => h
  | k + 1 => by
    have ih := EQ.pnt h hand k
    rw [Jvm.Pilot.CRedSkiesLaw_law_r6391_9f1a8b.pnt, Jvm.Pilot.CRedSkiesLaw_law_r6391_9f1a8b.pnt, ih 114 (by omega)]
    split
    · exact ih.oneS hand
    · exact ih
theorem pnt_WV {M : Mem} {hand : Int} (hh : 0 ≤ hand ∧ hand ≤ 4) (hW : WV M) : ∀ k : Nat, WV (pnt M hand k)
  | 0 => hW
  | k + 1 => by
    rw [pnt]
    split
    · exact one_WV (pnt_WV hh hW k) hh (by assumption) _
    · exact pnt_WV hh hW k
theorem oe_paint {M M1 : Mem} {hand much seed r1 : Int} (x : IVA M) (ihand : i32 hand) (imuch : i32 much) (iseed : i32 seed) (hc : (fun r M' => r = (if ((0 ≤ hand ∧ hand ≤ 4) ∧ (1 ≤ much ∧ much ≤ 8) ∧ 0 ≤ seed) then (pnt (mu M 114 28 seed) hand much.toNat) 114 23 else -102) ∧ (((0 ≤ hand ∧ hand ≤ 4) ∧ (1 ≤ much ∧ much ≤ 8) ∧ 0 ≤ seed) → SHr M' (pnt (mu M 114 28 seed) hand much.toNat) ∧ FP6 M M') ∧ (¬ ((0 ≤ hand ∧ hand ≤ 4) ∧ (1 ≤ much ∧ much ≤ 8) ∧ 0 ≤ seed) → M' = M)) r1 M1) : EQ M M1 := by
  obtain ⟨-, f1, f2⟩ := hc
  by_cases c : (0 ≤ hand ∧ hand ≤ 4) ∧ (1 ≤ much ∧ much ≤ 8) ∧ 0 ≤ seed
  · exact fun o ho => (f1 c).2.row (by omega)
  · rw [f2 c]; exact EQ.rf M
theorem op_paint {M M1 M2 : Mem} {hand much seed r1 r2 : Int} (x : IVA M) (ihand : i32 hand) (imuch : i32 much) (iseed : i32 seed) (hc : (fun r M' => r = (if ((0 ≤ hand ∧ hand ≤ 4) ∧ (1 ≤ much ∧ much ≤ 8) ∧ 0 ≤ seed) then (pnt (mu M 114 28 seed) hand much.toNat) 114 23 else -102) ∧ (((0 ≤ hand ∧ hand ≤ 4) ∧ (1 ≤ much ∧ much ≤ 8) ∧ 0 ≤ seed) → SHr M' (pnt (mu M 114 28 seed) hand much.toNat) ∧ FP6 M M') ∧ (¬ ((0 ≤ hand ∧ hand ≤ 4) ∧ (1 ≤ much ∧ much ≤ 8) ∧ 0 ≤ seed) → M' = M)) r1 M1) (hd : (fun r M' => r = (if (0 ≤ hand ∧ hand ≤ 4) ∧ (1 ≤ much ∧ much ≤ 8) ∧ 0 ≤ seed then (pnt (mu M1 114 28 seed) hand much.toNat) 114 23 else -102) ∧ M' = (if (0 ≤ hand ∧ hand ≤ 4) ∧ (1 ≤ much ∧ much ≤ 8) ∧ 0 ≤ seed then pnt (mu M1 114 28 seed) hand much.toNat else M1)) r2 M2) : r1 = r2 ∧ IVA M2 := by
  have qE := oe_paint x ihand imuch iseed hc
  obtain ⟨e1, f1, g1_⟩ := hc
  obtain ⟨e2, f2⟩ := hd
  have qP := (qE.up 114 28 (v := seed) rfl).pnt hand much.toNat
  rw [qP 114 (by omega)] at e2
  refine ⟨by rw [e1, e2], ?_⟩
  by_cases c : (0 ≤ hand ∧ hand ≤ 4) ∧ (1 ≤ much ∧ much ≤ 8) ∧ 0 ≤ seed
  · rw [if_pos c] at f2
    obtain ⟨hs, hf⟩ := f1 c
    have r : ∀ o : Int, o ≠ 114 → o ≠ 124 → o ≠ 125 → M2 o = M1 o := fun o h1 h2 h3 => by rw [f2, pnt_row _ _ h1 h2 h3, mu_o _ _ _ h1]
    have f : ∀ j : Int, j ≠ 23 → j ≠ 28 → M2 114 j = M1 114 j := fun j h1 h2 => by rw [f2, pnt_fld _ _ h1 h2, mu_k _ _ _ h2]
    have cg : ∀ o k : Int, ¬ (o = 124 ∨ o = 125 ∨ (o = 114 ∧ (k = 23 ∨ k = 28)) ∨ (26 ≤ o ∧ o ≤ 58) ∨ (o = 24 ∧ k = 5) ∨ o = 113) → M2 o k = M o k := fun o k n => by
      rw [← hf o k (by omega)]
      by_cases d : o = 114
      · rw [d]; exact f k (by omega) (by omega)
      · rw [r o d (by omega) (by omega)]
    have hW1 : WV (mu M1 114 28 seed) := SM.WV ((SM.rfl' M1).mu _ (by unfold scrM; omega)) (qE.WV x.w)
    have hW2 : WV M2 := by rw [f2]; exact pnt_WV c.1 hW1 _
    have hn := hW2.n
    have u := x.2.1.2.2
    refine ⟨x.1.cg (fun o k z => cg o k (by unfold ZA at z; omega)), ⟨hW2.2, ?_, ?_⟩, x.2.2.1.cg (fun o k z => cg o k (by unfold ZC at z; omega)), x.2.2.2.1.cg (fun o k z => cg o k (by unfold ZD at z; omega)), x.2.2.2.2.1.cg (fun o k z => cg o k (by unfold ZE at z; omega)), IvF.cg (fun k => cg 118 k (by omega)) x.2.2.2.2.2⟩
    · unfold SHr at hs
      rw [← qP 114 (by omega), ← qP 124 (by omega), ← qP 125 (by omega), ← qP 126 (by omega), ← qP 134 (by omega), ← qP 135 (by omega), ← f2] at hs
      unfold IS
      exact RSh.cg2 (by omega) hs (fun k a b => by rw [r 24 (by omega) (by omega) (by omega)]) (fun p k a b => by rw [r _ (by omega) (by omega) (by omega)]) (fun p k a b => by rw [r _ (by omega) (by omega) (by omega)]) (fun k => by rw [r _ (by omega) (by omega) (by omega)]) (fun k => by rw [r _ (by omega) (by omega) (by omega)]) (fun k => by rw [r _ (by omega) (by omega) (by omega)])
    · have h134 : M2 134 = M 134 := funext fun k => cg 134 k (by omega)
      rw [h134, cg 114 40 (by omega)]; exact u
  · rw [if_neg c] at f2
    rw [f2, g1_ c]; exact x

