/-! The image kept and restored. -/
theorem WSh.cp {la pi n mt yr : Int} {R C A L H R' C' A' L' H' : Int → Int} (h : WSh la pi n mt yr R C A L H) (hR : ∀ k, 0 ≤ k → k < 96 → R' k = R k) (hC : ∀ k, 0 ≤ k → k < 192 → C' k = C k) (hA : ∀ k, 0 ≤ k → k < 6 → A' k = A k) (hL : ∀ k, 0 ≤ k → k < 401 → L' k = L k) (hH : ∀ k, 0 ≤ k → k < 401 → H' k = H k) : WSh la pi n mt yr R' C' A' L' H' := by
  obtain ⟨a, b, c, d, e, f, g⟩ := h
  refine ⟨a, b, c, fun p p0 p1 => ?_, fun p k p0 p1 k0 k1 => by rw [hC _ (by omega) (by omega)]; exact e p k p0 p1 k0 k1, fun i i0 i1 => by rw [hA i i0 i1]; exact f i i0 i1, fun y y0 y1 => by rw [hL y y0 y1, hH y y0 y1]; exact g y y0 y1⟩
  rw [hR (6 * p) (by omega) (by omega), hR (6 * p + 1) (by omega) (by omega), hR (6 * p + 2) (by omega) (by omega), hR (6 * p + 3) (by omega) (by omega), hR (6 * p + 4) (by omega) (by omega), hR (6 * p + 5) (by omega) (by omega)]
  exact d p p0 p1
theorem RSh.cp {M M2 : Mem} {b fb sb eo lo ho b' fb' sb' eo' lo' ho' n mt yr : Int} {R C A L H R' C' A' L' H' : Int → Int} (hn : n ≤ 16) (h : RSh M b fb sb eo lo ho n mt yr R C A L H) (h5 : M2 b' 5 = M b 5) (h6 : M2 b' 6 = M b 6) (h7 : M2 b' 7 = M b 7)
    (hf : ∀ p c, 0 ≤ p → p < n → 0 ≤ c → c < 6 → M2 (fb' + p) c = M (fb + p) c) (hs : ∀ p c, 0 ≤ p → p < n → 0 ≤ c → c < 12 → M2 (sb' + p) c = M (sb + p) c) (he : ∀ k, 0 ≤ k → k < 6 → M2 eo' k = M eo k) (hl : ∀ k, 0 ≤ k → k < 401 → M2 lo' k = M lo k) (hh : ∀ k, 0 ≤ k → k < 401 → M2 ho' k = M ho k)
    (hR : ∀ k, 0 ≤ k → k < 96 → R' k = R k) (hC : ∀ k, 0 ≤ k → k < 192 → C' k = C k) (hA : ∀ k, 0 ≤ k → k < 6 → A' k = A k) (hL : ∀ k, 0 ≤ k → k < 401 → L' k = L k) (hH : ∀ k, 0 ≤ k → k < 401 → H' k = H k) : RSh M2 b' fb' sb' eo' lo' ho' n mt yr R' C' A' L' H' := by
  obtain ⟨⟨a1, a2, a3⟩, a4, a5, a6, a7⟩ := h
  exact ⟨⟨h5.trans a1, h6.trans a2, h7.trans a3⟩, fun p c p0 p1 c0 c1 => by rw [hf p c p0 p1 c0 c1, hR _ (by omega) (by omega)]; exact a4 p c p0 p1 c0 c1, fun p c p0 p1 c0 c1 => by rw [hs p c p0 p1 c0 c1, hC _ (by omega) (by omega)]; exact a5 p c p0 p1 c0 c1, fun i i0 i1 => by rw [he i i0 i1, hA i i0 i1]; exact a6 i i0 i1, fun y y0 y1 => by rw [hl y y0 y1, hh y y0 y1, hL y y0 y1, hH y y0 y1]; exact a7 y y0 y1⟩
theorem oe_image {M M1 : Mem} { r1 : Int} (x : IVA M)  (hc : (fun r M' => r = M 114 23 ∧ M' = (mu (tfX M 62 24 64 81 97 98 99 26 43 59 60 61) 0 17 1)) r1 M1) : EQ M M1 := by
  obtain ⟨-, f1⟩ := hc
  have hn := x.w.n
  have n1 := x.iv.hn
  intro o ho
  funext k
  rw [f1]
  simp only [tfX, mu, cpy, tkX]
  rw [if_neg (by omega), if_neg (by omega), if_neg (by omega), if_neg (by omega), if_neg (by omega), if_neg (by omega), if_neg (by omega), if_neg (by omega), if_neg (by omega)]
theorem op_image {M M1 M2 : Mem} { r1 r2 : Int} (x : IVA M)  (hc : (fun r M' => r = M 114 23 ∧ M' = (mu (tfX M 62 24 64 81 97 98 99 26 43 59 60 61) 0 17 1)) r1 M1) (hd : (fun r M' => r = M1 114 23 ∧ M' = mu (mu (mu (cpy (cpy (cpy (cpy (cpy M1 124 0 136 0 96) 125 0 137 0 192) 126 0 138 0 6) 134 0 139 0 401) 135 0 140 0 401) 114 47 (M1 114 26)) 114 48 (M1 114 40)) 114 46 (M1 114 23)) r2 M2) : r1 = r2 ∧ IVA M2 := by
  have qE := oe_image x  hc
  obtain ⟨e1, f1⟩ := hc
  obtain ⟨e2, f2⟩ := hd
  have hn := x.w.n
  have n1 := x.iv.hn
  refine ⟨by rw [e1, e2, qE 114 (by omega)], ?_⟩
  have main : IVA M2 := by
    obtain ⟨w, s, u⟩ := x.2.1
    have hn := w.1
    obtain ⟨w1, w2, w3, w4, w5, w6, w7⟩ := w
    obtain ⟨⟨s1, s2, s3⟩, s4, s5, s6, s7⟩ := s
    have k7 : M1 62 7 = M 24 7 := by rw [f1]; simp only [tfX, mu, cpy, tkX]; rw [if_neg (by omega), if_pos (by first | omega | exact ⟨trivial, by omega, by omega⟩ | exact ⟨trivial, trivial⟩)]
    have k6 : M1 62 6 = M 24 6 := by rw [f1]; simp only [tfX, mu, cpy, tkX]; rw [if_neg (by omega), if_neg (by omega), if_pos (by first | omega | exact ⟨trivial, by omega, by omega⟩ | exact ⟨trivial, trivial⟩)]
    have k5 : M1 62 5 = M 24 5 := by rw [f1]; simp only [tfX, mu, cpy, tkX]; rw [if_neg (by omega), if_neg (by omega), if_neg (by omega), if_pos (by first | omega | exact ⟨trivial, by omega, by omega⟩ | exact ⟨trivial, trivial⟩)]
    have kf : ∀ p c : Int, 0 ≤ p → p < M 24 5 → 0 ≤ c → c < 6 → M1 (64 + p) c = M (26 + p) c := fun p c p0 p1 c0 c1 => by rw [f1]; simp only [tfX, mu, cpy, tkX]; rw [if_neg (by omega), if_neg (by omega), if_neg (by omega), if_neg (by omega), if_neg (by omega), if_neg (by omega), if_neg (by omega), if_pos (by first | omega | exact ⟨trivial, by omega, by omega⟩ | exact ⟨trivial, trivial⟩), show 26 + (64 + p - 64) = 26 + p by omega]
    have ks : ∀ p c : Int, 0 ≤ p → p < M 24 5 → 0 ≤ c → c < 12 → M1 (81 + p) c = M (43 + p) c := fun p c p0 p1 c0 c1 => by rw [f1]; simp only [tfX, mu, cpy, tkX]; rw [if_neg (by omega), if_neg (by omega), if_neg (by omega), if_neg (by omega), if_neg (by omega), if_neg (by omega), if_neg (by omega), if_neg (by omega), if_pos (by first | omega | exact ⟨trivial, by omega, by omega⟩ | exact ⟨trivial, trivial⟩), show 43 + (81 + p - 81) = 43 + p by omega]
    have ke : ∀ k : Int, 0 ≤ k → k < 6 → M1 97 k = M 59 k := fun k a b => by rw [f1]; simp only [tfX, mu, cpy, tkX]; rw [if_neg (by omega), if_neg (by omega), if_neg (by omega), if_neg (by omega), if_neg (by omega), if_neg (by omega), if_pos (by first | omega | exact ⟨trivial, by omega, by omega⟩ | exact ⟨trivial, trivial⟩), if_neg (by omega), if_neg (by omega), show 0 + (k - 0) = k by omega]
    have kl : ∀ k : Int, 0 ≤ k → k < 401 → M1 98 k = M 60 k := fun k a b => by rw [f1]; simp only [tfX, mu, cpy, tkX]; rw [if_neg (by omega), if_neg (by omega), if_neg (by omega), if_neg (by omega), if_neg (by omega), if_pos (by first | omega | exact ⟨trivial, by omega, by omega⟩ | exact ⟨trivial, trivial⟩), if_neg (by omega), if_neg (by omega), if_neg (by omega), show 0 + (k - 0) = k by omega]
    have kh : ∀ k : Int, 0 ≤ k → k < 401 → M1 99 k = M 61 k := fun k a b => by rw [f1]; simp only [tfX, mu, cpy, tkX]; rw [if_neg (by omega), if_neg (by omega), if_neg (by omega), if_neg (by omega), if_pos (by first | omega | exact ⟨trivial, by omega, by omega⟩ | exact ⟨trivial, trivial⟩), if_neg (by omega), if_neg (by omega), if_neg (by omega), if_neg (by omega), show 0 + (k - 0) = k by omega]
    have p136 : ∀ k : Int, 0 ≤ k → k < 96 → M2 136 k = M 124 k := fun k a b => by rw [f2]; simp only [mu, cpy]; rw [if_neg (by omega), if_neg (by omega), if_neg (by omega), if_neg (by omega), if_neg (by omega), if_neg (by omega), if_neg (by omega), if_pos (by first | omega | exact ⟨trivial, by omega, by omega⟩ | exact ⟨trivial, trivial⟩), show 0 + (k - 0) = k by omega, qE 124 (by omega)]
    have p137 : ∀ k : Int, 0 ≤ k → k < 192 → M2 137 k = M 125 k := fun k a b => by rw [f2]; simp only [mu, cpy]; rw [if_neg (by omega), if_neg (by omega), if_neg (by omega), if_neg (by omega), if_neg (by omega), if_neg (by omega), if_pos (by first | omega | exact ⟨trivial, by omega, by omega⟩ | exact ⟨trivial, trivial⟩), if_neg (by omega), show 0 + (k - 0) = k by omega, qE 125 (by omega)]
    have p138 : ∀ k : Int, 0 ≤ k → k < 6 → M2 138 k = M 126 k := fun k a b => by rw [f2]; simp only [mu, cpy]; rw [if_neg (by omega), if_neg (by omega), if_neg (by omega), if_neg (by omega), if_neg (by omega), if_pos (by first | omega | exact ⟨trivial, by omega, by omega⟩ | exact ⟨trivial, trivial⟩), if_neg (by omega), if_neg (by omega), show 0 + (k - 0) = k by omega, qE 126 (by omega)]
    have p139 : ∀ k : Int, 0 ≤ k → k < 401 → M2 139 k = M 134 k := fun k a b => by rw [f2]; simp only [mu, cpy]; rw [if_neg (by omega), if_neg (by omega), if_neg (by omega), if_neg (by omega), if_pos (by first | omega | exact ⟨trivial, by omega, by omega⟩ | exact ⟨trivial, trivial⟩), if_neg (by omega), if_neg (by omega), if_neg (by omega), show 0 + (k - 0) = k by omega, qE 134 (by omega)]
    have p140 : ∀ k : Int, 0 ≤ k → k < 401 → M2 140 k = M 135 k := fun k a b => by rw [f2]; simp only [mu, cpy]; rw [if_neg (by omega), if_neg (by omega), if_neg (by omega), if_pos (by first | omega | exact ⟨trivial, by omega, by omega⟩ | exact ⟨trivial, trivial⟩), if_neg (by omega), if_neg (by omega), if_neg (by omega), if_neg (by omega), show 0 + (k - 0) = k by omega, qE 135 (by omega)]
    have q46 : M2 114 46 = M 114 23 := by rw [f2]; simp only [mu, cpy]; rw [if_pos (by first | omega | exact ⟨trivial, by omega, by omega⟩ | exact ⟨trivial, trivial⟩), qE 114 (by omega)]
    have q48 : M2 114 48 = M 114 40 := by rw [f2]; simp only [mu, cpy]; rw [if_neg (by omega), if_pos (by first | omega | exact ⟨trivial, by omega, by omega⟩ | exact ⟨trivial, trivial⟩), qE 114 (by omega)]
    have q47 : M2 114 47 = M 114 26 := by rw [f2]; simp only [mu, cpy]; rw [if_neg (by omega), if_neg (by omega), if_pos (by first | omega | exact ⟨trivial, by omega, by omega⟩ | exact ⟨trivial, trivial⟩), qE 114 (by omega)]
    have m2 : ∀ o k : Int, ¬ (o = 136 ∨ o = 137 ∨ o = 138 ∨ o = 139 ∨ o = 140 ∨ (o = 114 ∧ (k = 46 ∨ k = 48 ∨ k = 47))) → M2 o k = M1 o k := fun o k n => by rw [f2]; simp only [mu, cpy]; rw [if_neg (by omega), if_neg (by omega), if_neg (by omega), if_neg (by omega), if_neg (by omega), if_neg (by omega), if_neg (by omega), if_neg (by omega)]
    have m1 : ∀ o k : Int, ¬ ((o = 0 ∧ k = 17) ∨ o = 62 ∨ (64 ≤ o ∧ o ≤ 79) ∨ (81 ≤ o ∧ o ≤ 99)) → M1 o k = M o k := fun o k n => by
      rw [f1]; simp only [tfX, mu, cpy, tkX]; rw [if_neg (by omega), if_neg (by omega), if_neg (by omega), if_neg (by omega), if_neg (by omega), if_neg (by omega), if_neg (by omega), if_neg (by omega), if_neg (by omega)]
    have k17 : M1 0 17 = 1 := by rw [f1]; rfl
    have cg : ∀ o k : Int, ¬ ((o = 0 ∧ k = 17) ∨ o = 62 ∨ (64 ≤ o ∧ o ≤ 79) ∨ (81 ≤ o ∧ o ≤ 99) ∨ (136 ≤ o ∧ o ≤ 140) ∨ (o = 114 ∧ (k = 46 ∨ k = 47 ∨ k = 48))) → M2 o k = M o k := fun o k n => by
      rw [m2 o k (by omega)]; exact m1 o k (by omega)
    refine ⟨x.1.cg (fun o k z => cg o k (by unfold ZA at z; omega)), x.2.1.cg (fun o k z => cg o k (by unfold ZB at z; omega)), x.2.2.1.cg (fun o k z => cg o k (by unfold ZC at z; omega)), x.2.2.2.1.cg (fun o k z => cg o k (by unfold ZD at z; omega)), ⟨⟨by omega, by omega, fun _ => ?_⟩, Or.inr ⟨by rw [m2 0 17 (by omega)]; exact k17, by omega, ?_⟩, fun _ => ?_⟩, IvF.cg (fun k => cg 118 k (by omega)) x.2.2.2.2.2⟩
    · rw [q46, q47, q48, cg 114 13 (by omega), cg 114 20 (by omega)]
      exact WSh.cp x.2.1.1 p136 p137 p138 p139 p140
    · rw [q46, q47, q48]
      exact RSh.cp (by omega) x.2.1.2.1 (by rw [m2 62 5 (by omega)]; exact k5) (by rw [m2 62 6 (by omega)]; exact k6) (by rw [m2 62 7 (by omega)]; exact k7) (fun p c p0 p1 c0 c1 => by rw [m2 _ _ (by omega)]; exact kf p c p0 (by omega) c0 c1) (fun p c p0 p1 c0 c1 => by rw [m2 _ _ (by omega)]; exact ks p c p0 (by omega) c0 c1) (fun k a b => by rw [m2 _ _ (by omega)]; exact ke k a b) (fun k a b => by rw [m2 _ _ (by omega)]; exact kl k a b) (fun k a b => by rw [m2 _ _ (by omega)]; exact kh k a b) p136 p137 p138 p139 p140
    · unfold IceN at u ⊢
      rw [q48, u]
      exact sm_congr (fun j a b => by
        show (if M 134 j = -1 then (0 : Int) else 1) = if M2 139 j = -1 then 0 else 1
        rw [p139 j a (by omega)])
  exact main
theorem oe_restore {M M1 : Mem} { r1 : Int} (x : IVA M)  (hc : (fun r M' => r = (if M 114 46 = -1 then -103 else M 114 46) ∧ M' = (if M 114 46 = -1 then M else (tfX M 24 62 26 43 59 60 61 64 81 97 98 99))) r1 M1) : EQ M M1 := by
  obtain ⟨-, f1⟩ := hc
  have hk := x.wk
  have hi := x.ik
  rw [f1]
  split
  · exact EQ.rf M
  · rename_i c
    have hs : M 62 5 ≤ 16 := by
      rcases hi with q | q
      · omega
      · have w := q.2.2.1.1; have w2 := hk.2.1; omega
    intro o ho
    funext k
    simp only [tfX, mu, cpy, tkX]
    rw [if_neg (by omega), if_neg (by omega), if_neg (by omega), if_neg (by omega), if_neg (by omega), if_neg (by omega), if_neg (by omega), if_neg (by omega)]
theorem op_restore {M M1 M2 : Mem} { r1 r2 : Int} (x : IVA M)  (hc : (fun r M' => r = (if M 114 46 = -1 then -103 else M 114 46) ∧ M' = (if M 114 46 = -1 then M else (tfX M 24 62 26 43 59 60 61 64 81 97 98 99))) r1 M1) (hd : (fun r M' => r = (if M1 114 46 = -1 then -103 else M1 114 46) ∧ M' = (if M1 114 46 = -1 then M1 else mu (mu (mu (cpy (cpy (cpy (cpy (cpy M1 136 0 124 0 96) 137 0 125 0 192) 138 0 126 0 6) 139 0 134 0 401) 140 0 135 0 401) 114 26 (M1 114 47)) 114 40 (M1 114 48)) 114 23 (M1 114 46))) r2 M2) : r1 = r2 ∧ IVA M2 := by
  have qE := oe_restore x  hc
  obtain ⟨e1, f1⟩ := hc
  obtain ⟨e2, f2⟩ := hd
  rw [qE 114 (by omega)] at e2
  have e46 := congrFun (qE 114 (by omega)) 46
  rw [e46] at f2
  refine ⟨by rw [e1, e2], ?_⟩
  by_cases c : M 114 46 = -1
  · rw [if_pos c] at f1 f2
    rw [f2, f1]; exact x
  · rw [if_neg c] at f1 f2
    rw [← e46] at f2
    have hk := x.wk
    have hi : M 0 17 = 1 ∧ M 114 46 ≠ -1 ∧ RSh M 62 64 81 97 98 99 (M 114 46) (M 114 47) (M 114 48) (M 136) (M 137) (M 138) (M 139) (M 140) := by
      rcases x.ik with q | q
      · exact absurd q.2 c
      · exact q
    have hw := hk.2.2 c
    have hn := hw.1
    have w5 : M 62 5 = M 114 46 := hi.2.2.1.1
    have u := x.2.2.2.2.1.2.2 c
    have k7 : M1 24 7 = M 62 7 := by rw [f1]; simp only [tfX, mu, cpy, tkX]; rw [if_pos (by first | omega | exact ⟨trivial, by omega, by omega⟩ | exact ⟨trivial, trivial⟩)]
    have k6 : M1 24 6 = M 62 6 := by rw [f1]; simp only [tfX, mu, cpy, tkX]; rw [if_neg (by omega), if_pos (by first | omega | exact ⟨trivial, by omega, by omega⟩ | exact ⟨trivial, trivial⟩)]
    have k5 : M1 24 5 = M 62 5 := by rw [f1]; simp only [tfX, mu, cpy, tkX]; rw [if_neg (by omega), if_neg (by omega), if_pos (by first | omega | exact ⟨trivial, by omega, by omega⟩ | exact ⟨trivial, trivial⟩)]
    have kf : ∀ p c : Int, 0 ≤ p → p < M 62 5 → 0 ≤ c → c < 6 → M1 (26 + p) c = M (64 + p) c := fun p c p0 p1 c0 c1 => by rw [f1]; simp only [tfX, mu, cpy, tkX]; rw [if_neg (by omega), if_neg (by omega), if_neg (by omega), if_neg (by omega), if_neg (by omega), if_neg (by omega), if_pos (by first | omega | exact ⟨trivial, by omega, by omega⟩ | exact ⟨trivial, trivial⟩), show 64 + (26 + p - 26) = 64 + p by omega]
    have ks : ∀ p c : Int, 0 ≤ p → p < M 62 5 → 0 ≤ c → c < 12 → M1 (43 + p) c = M (81 + p) c := fun p c p0 p1 c0 c1 => by rw [f1]; simp only [tfX, mu, cpy, tkX]; rw [if_neg (by omega), if_neg (by omega), if_neg (by omega), if_neg (by omega), if_neg (by omega), if_neg (by omega), if_neg (by omega), if_pos (by first | omega | exact ⟨trivial, by omega, by omega⟩ | exact ⟨trivial, trivial⟩), show 81 + (43 + p - 43) = 81 + p by omega]
    have ke : ∀ k : Int, 0 ≤ k → k < 6 → M1 59 k = M 97 k := fun k a b => by rw [f1]; simp only [tfX, mu, cpy, tkX]; rw [if_neg (by omega), if_neg (by omega), if_neg (by omega), if_neg (by omega), if_neg (by omega), if_pos (by first | omega | exact ⟨trivial, by omega, by omega⟩ | exact ⟨trivial, trivial⟩), if_neg (by omega), if_neg (by omega), show 0 + (k - 0) = k by omega]
    have kl : ∀ k : Int, 0 ≤ k → k < 401 → M1 60 k = M 98 k := fun k a b => by rw [f1]; simp only [tfX, mu, cpy, tkX]; rw [if_neg (by omega), if_neg (by omega), if_neg (by omega), if_neg (by omega), if_pos (by first | omega | exact ⟨trivial, by omega, by omega⟩ | exact ⟨trivial, trivial⟩), if_neg (by omega), if_neg (by omega), if_neg (by omega), show 0 + (k - 0) = k by omega]
    have kh : ∀ k : Int, 0 ≤ k → k < 401 → M1 61 k = M 99 k := fun k a b => by rw [f1]; simp only [tfX, mu, cpy, tkX]; rw [if_neg (by omega), if_neg (by omega), if_neg (by omega), if_pos (by first | omega | exact ⟨trivial, by omega, by omega⟩ | exact ⟨trivial, trivial⟩), if_neg (by omega), if_neg (by omega), if_neg (by omega), if_neg (by omega), show 0 + (k - 0) = k by omega]
    have p124 : ∀ k : Int, 0 ≤ k → k < 96 → M2 124 k = M 136 k := fun k a b => by rw [f2]; simp only [mu, cpy]; rw [if_neg (by omega), if_neg (by omega), if_neg (by omega), if_neg (by omega), if_neg (by omega), if_neg (by omega), if_neg (by omega), if_pos (by first | omega | exact ⟨trivial, by omega, by omega⟩ | exact ⟨trivial, trivial⟩), show 0 + (k - 0) = k by omega, qE 136 (by omega)]
    have p125 : ∀ k : Int, 0 ≤ k → k < 192 → M2 125 k = M 137 k := fun k a b => by rw [f2]; simp only [mu, cpy]; rw [if_neg (by omega), if_neg (by omega), if_neg (by omega), if_neg (by omega), if_neg (by omega), if_neg (by omega), if_pos (by first | omega | exact ⟨trivial, by omega, by omega⟩ | exact ⟨trivial, trivial⟩), if_neg (by omega), show 0 + (k - 0) = k by omega, qE 137 (by omega)]
    have p126 : ∀ k : Int, 0 ≤ k → k < 6 → M2 126 k = M 138 k := fun k a b => by rw [f2]; simp only [mu, cpy]; rw [if_neg (by omega), if_neg (by omega), if_neg (by omega), if_neg (by omega), if_neg (by omega), if_pos (by first | omega | exact ⟨trivial, by omega, by omega⟩ | exact ⟨trivial, trivial⟩), if_neg (by omega), if_neg (by omega), show 0 + (k - 0) = k by omega, qE 138 (by omega)]
    have p134 : ∀ k : Int, 0 ≤ k → k < 401 → M2 134 k = M 139 k := fun k a b => by rw [f2]; simp only [mu, cpy]; rw [if_neg (by omega), if_neg (by omega), if_neg (by omega), if_neg (by omega), if_pos (by first | omega | exact ⟨trivial, by omega, by omega⟩ | exact ⟨trivial, trivial⟩), if_neg (by omega), if_neg (by omega), if_neg (by omega), show 0 + (k - 0) = k by omega, qE 139 (by omega)]
    have p135 : ∀ k : Int, 0 ≤ k → k < 401 → M2 135 k = M 140 k := fun k a b => by rw [f2]; simp only [mu, cpy]; rw [if_neg (by omega), if_neg (by omega), if_neg (by omega), if_pos (by first | omega | exact ⟨trivial, by omega, by omega⟩ | exact ⟨trivial, trivial⟩), if_neg (by omega), if_neg (by omega), if_neg (by omega), if_neg (by omega), show 0 + (k - 0) = k by omega, qE 140 (by omega)]
    have q23 : M2 114 23 = M 114 46 := by rw [f2]; simp only [mu, cpy]; rw [if_pos (by first | omega | exact ⟨trivial, by omega, by omega⟩ | exact ⟨trivial, trivial⟩), qE 114 (by omega)]
    have q40 : M2 114 40 = M 114 48 := by rw [f2]; simp only [mu, cpy]; rw [if_neg (by omega), if_pos (by first | omega | exact ⟨trivial, by omega, by omega⟩ | exact ⟨trivial, trivial⟩), qE 114 (by omega)]
    have q26 : M2 114 26 = M 114 47 := by rw [f2]; simp only [mu, cpy]; rw [if_neg (by omega), if_neg (by omega), if_pos (by first | omega | exact ⟨trivial, by omega, by omega⟩ | exact ⟨trivial, trivial⟩), qE 114 (by omega)]
    have m2 : ∀ o k : Int, ¬ (o = 124 ∨ o = 125 ∨ o = 126 ∨ o = 134 ∨ o = 135 ∨ (o = 114 ∧ (k = 23 ∨ k = 40 ∨ k = 26))) → M2 o k = M1 o k := fun o k n => by rw [f2]; simp only [mu, cpy]; rw [if_neg (by omega), if_neg (by omega), if_neg (by omega), if_neg (by omega), if_neg (by omega), if_neg (by omega), if_neg (by omega), if_neg (by omega)]
    have m1 : ∀ o k : Int, ¬ (o = 24 ∨ (26 ≤ o ∧ o ≤ 41) ∨ (43 ≤ o ∧ o ≤ 61)) → M1 o k = M o k := fun o k n => by
      rw [f1]; simp only [tfX, mu, cpy, tkX]; rw [if_neg (by omega), if_neg (by omega), if_neg (by omega), if_neg (by omega), if_neg (by omega), if_neg (by omega), if_neg (by omega), if_neg (by omega)]
    have cg : ∀ o k : Int, ¬ (o = 24 ∨ (26 ≤ o ∧ o ≤ 41) ∨ (43 ≤ o ∧ o ≤ 61) ∨ (124 ≤ o ∧ o ≤ 126) ∨ (134 ≤ o ∧ o ≤ 135) ∨ (o = 114 ∧ (k = 23 ∨ k = 26 ∨ k = 40))) → M2 o k = M o k := fun o k n => by
      rw [m2 o k (by omega)]; exact m1 o k (by omega)
    refine ⟨x.1.cg (fun o k z => cg o k (by unfold ZA at z; omega)), ⟨?_, ?_, ?_⟩, x.2.2.1.cg (fun o k z => cg o k (by unfold ZC at z; omega)), x.2.2.2.1.cg (fun o k z => cg o k (by unfold ZD at z; omega)), x.2.2.2.2.1.cg (fun o k z => cg o k (by unfold ZE at z; omega)), IvF.cg (fun k => cg 118 k (by omega)) x.2.2.2.2.2⟩
    · unfold WPic
      rw [q23, q26, q40, cg 114 13 (by omega), cg 114 20 (by omega)]
      exact WSh.cp hw p124 p125 p126 p134 p135
    · unfold IS
      rw [q23, q26, q40]
      exact RSh.cp (by omega) hi.2.2 (by rw [m2 24 5 (by omega)]; exact k5) (by rw [m2 24 6 (by omega)]; exact k6) (by rw [m2 24 7 (by omega)]; exact k7) (fun p c p0 p1 c0 c1 => by rw [m2 _ _ (by omega)]; exact kf p c p0 (by omega) c0 c1) (fun p c p0 p1 c0 c1 => by rw [m2 _ _ (by omega)]; exact ks p c p0 (by omega) c0 c1) (fun k a b => by rw [m2 _ _ (by omega)]; exact ke k a b) (fun k a b => by rw [m2 _ _ (by omega)]; exact kl k a b) (fun k a b => by rw [m2 _ _ (by omega)]; exact kh k a b) p124 p125 p126 p134 p135
    · unfold IceN at u ⊢
      rw [q40, u]
      exact sm_congr (fun j a b => by
        show (if M 139 j = -1 then (0 : Int) else 1) = if M2 134 j = -1 then 0 else 1
        rw [p134 j a (by omega)])

