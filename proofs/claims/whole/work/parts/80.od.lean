/-! The class's odds: what a measure's laying-out and dealing leave. -/
def K6 (M M1 : Mem) : Prop := ∀ o k : Int, ¬ (o = 0 ∧ k = 16) → M1 o k = M o k
theorem K6.of (M : Mem) (v : Int) : K6 M (mu M 0 16 v) := fun o k n => by
  show (if o = 0 ∧ k = 16 then v else M o k) = _
  rw [if_neg n]
theorem K6.row {M M1 : Mem} (h : K6 M M1) {o : Int} (ho : o ≠ 0) : M1 o = M o := by funext k; exact h o k (fun q => ho q.1)
theorem K6.eq {M M1 : Mem} (h : K6 M M1) : EQ M M1 := fun o ho => h.row (by omega)
theorem K6.iv {M M1 : Mem} (h : K6 M M1) (hV : IV M) : IV M1 := by
  have hW := hV.1
  have hn := hW.n
  refine ⟨h.eq.WV hW, ?_, ?_⟩
  · have hS := hV.2.1
    unfold IS
    rw [h.row (o := 114) (by omega), h.row (o := 124) (by omega), h.row (o := 125) (by omega), h.row (o := 126) (by omega), h.row (o := 134) (by omega), h.row (o := 135) (by omega)]
    exact RSh.cg (by omega) hS (h.row (by omega)) (fun p a b => h.row (by omega)) (fun p a b => h.row (by omega)) (h.row (by omega)) (h.row (by omega)) (h.row (by omega))
  · obtain ⟨⟨a1, a2⟩, ⟨a3, a4⟩, ⟨a5, a6⟩, a7, a8, a9⟩ := hV.2.2
    unfold IT
    rw [h.row (o := 114) (by omega), h.row (o := 119) (by omega), h.row (o := 120) (by omega), h.row (o := 121) (by omega), h.row (o := 122) (by omega), h.row (o := 123) (by omega), h 0 13 (by omega), h 0 14 (by omega), h 0 15 (by omega), h.row (o := 15) (by omega), h.row (o := 16) (by omega), h.row (o := 22) (by omega), h.row (o := 23) (by omega)]
    exact ⟨⟨a1, fun l c l0 l1 c0 c1 => by rw [h.row (by omega)]; exact a2 l c l0 l1 c0 c1⟩, ⟨a3, a4⟩, ⟨a5, fun m k m0 m1 k0 k1 => by rw [h.row (by omega)]; exact a6 m k m0 m1 k0 k1⟩, a7, a8, a9⟩
theorem EQ.e_cntB {M M1 : Mem} (h : EQ M M1) : cntB M1 = cntB M := by
  funext n; unfold cntB; rw [h 124 (by omega)]
theorem EQ.e_nrB {M M1 : Mem} (h : EQ M M1) : nrB M1 = nrB M := by
  funext w n; unfold nrB; rw [h 124 (by omega), h.e_nrS]
theorem EQ.e_pdW {M M1 : Mem} (h : EQ M M1) (m : Int) (ab : Int × Int) : ∀ k : Nat, pdW M1 m ab k = pdW M m ab k
  | 0 => rfl
  | k + 1 => by rw [pdW, pdW, pdS, pdS, EQ.e_pdW h m ab k, h.e_upV, h.e_lowV]
theorem EQ.e_hgS {M M1 : Mem} (h : EQ M M1) (m w : Int) : ∀ k : Nat, hgS M1 m w k = hgS M m w k
  | 0 => rfl
  | k + 1 => by rw [hgS, hgS, hgD, hgD, EQ.e_hgS h m w k, h.e_upV, h.e_lowV, h 124 (by omega)]
theorem EQ.e_nvV {M M1 : Mem} (h : EQ M M1) : nvV M1 = nvV M := by
  funext m w; have e := h.e_prof m w (-1); unfold nvV; rw [e.1, e.2.1, e.2.2.1, e.2.2.2.1, e.2.2.2.2]
theorem LO.pf1 {M M1 : Mem} {m : Int} (hW : WV M) (hm0 : 0 ≤ m) (hm1 : m < M 114 15) (h : LO M M1 m (M 114 23)) (w : Int) : PF M1 m w (cntB M1 (M1 114 23).toNat) (nrB M1 w (M1 114 23).toNat) := by
  have p := h.pf hW hm0 hm1 w
  rw [h.1.eq.e_cntB, h.1.eq.e_nrB, h.1.eq 114 (by omega)]
  exact p
theorem trm_same {a : Int} (h : 1 ≤ a) (z : Int) : trmS a a z = 1 := by
  have g : gcdS a a = a := by unfold gcdS; rw [Nat.gcd_self]; omega
  unfold trmS
  rw [g]
  have e : a / a = 1 := Int.ediv_self (by omega)
  rw [e]; split <;> rfl
theorem pdS_no (M : Mem) (m x : Int) (ab : Int × Int) : ¬ (upV M m x (-1) * (pdS M m x ab).2 < (pdS M m x ab).1 * lowV M m x (-1)) := by
  unfold pdS
  by_cases c : upV M m x (-1) * ab.2 < ab.1 * lowV M m x (-1)
  · rw [if_pos c]; exact Int.lt_irrefl _
  · rw [if_neg c]; exact c
theorem near_same {M M1 : Mem} {m x y : Int} (hW : WV M) (hm0 : 0 ≤ m) (hm1 : m < M 114 15) (h : LO M M1 m (M 114 23)) (e : nrB M1 x (M1 114 23).toNat = nrB M1 y (M1 114 23).toNat) : upV M m x (-1) = upV M m y (-1) ∧ lowV M m x (-1) = lowV M m y (-1) := by
  have p := h.pf1 hW hm0 hm1 x
  have q := h.pf1 hW hm0 hm1 y
  rw [e] at p
  have u := p.up.symm.trans q.up
  have l := p.low.symm.trans q.low
  rw [h.1.eq.e_upV] at u
  rw [h.1.eq.e_lowV] at l
  exact ⟨u, l⟩
theorem LO.of {M M1 M2 : Mem} {m k : Int} (h : LO M M1 m k) (hx : XS M1 M2) (h1 : M2 101 = M1 101) (h2 : M2 102 = M1 102) : LO M M2 m k := ⟨h.1.tr hx, fun p a b => by rw [h1, h2]; exact h.2 p a b⟩
theorem keep_ok {M M1 M2 M3 : Mem} {m x : Int} (hW : WV M) (hm0 : 0 ≤ m) (hm1 : m < M 114 15) (hL : LO M M1 m (M 114 23)) (hd : DL M1 (cntB M1 (M1 114 23).toNat) (nrB M1 x (M1 114 23).toNat) M2) (h3 : M3 = if M2 100 3 * M2 100 6 < M2 100 5 * M2 100 4 then mu (mu M2 100 5 (M2 100 3)) 100 6 (M2 100 4) else M2) :
    LO M M3 m (M 114 23) ∧ (M3 100 5, M3 100 6) = pdS M m x (M1 100 5, M1 100 6) ∧ (upV M m x (-1) = M2 100 3 ∧ lowV M m x (-1) = M2 100 4) := by
  have p := hL.pf1 hW hm0 hm1 x
  obtain ⟨hO, d2, d3, d4⟩ := hd
  have eu := hL.1.eq.e_upV
  have el := hL.1.eq.e_lowV
  rw [p.up, eu] at d3
  rw [p.low, el] at d4
  have e5 : M2 100 5 = M1 100 5 := hO 100 5 (by omega)
  have e6 : M2 100 6 = M1 100 6 := hO 100 6 (by omega)
  have l2 : LO M M2 m (M 114 23) := hL.of hO.xs (hO.row (by omega)) (hO.row (by omega))
  rw [d3, d4, e5, e6] at h3
  unfold pdS
  by_cases c : upV M m x (-1) * M1 100 6 < M1 100 5 * lowV M m x (-1)
  · rw [if_pos c] at h3
    rw [if_pos c]
    refine ⟨?_, ?_, d3.symm, d4.symm⟩
    · rw [h3]
      refine l2.of (((XS.rf M2).pu _ (by omega)).pu _ (by omega)) ?_ ?_
      · rw [mu_o _ _ _ (by omega), mu_o _ _ _ (by omega)]
      · rw [mu_o _ _ _ (by omega), mu_o _ _ _ (by omega)]
    · rw [h3]; simp [mu]
  · rw [if_neg c] at h3
    rw [if_neg c, h3]
    exact ⟨l2, by rw [e5, e6], d3.symm, d4.symm⟩

