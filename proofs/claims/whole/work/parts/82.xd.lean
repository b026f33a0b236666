/-! The class's digest. -/
theorem LO.pre {M M1 M2 : Mem} {m k : Int} (hx : XS M M1) (h : LO M1 M2 m k) : LO M M2 m k := by
  refine ⟨hx.tr h.1, fun p a b => ?_⟩
  have e := h.2 p a b
  have f := hx.eq.e_prof m 0 (-1)
  rw [f.2.1, f.2.2.1] at e
  exact e
theorem XS.ig {M M1 : Mem} (h : XS M M1) (hG : IG M) : IG M1 := by
  unfold IG
  rw [h.row (o := 1) (by omega), h.row (o := 2) (by omega), h.row (o := 114) (by omega), h.row (o := 115) (by omega)]
  exact hG
theorem XS.id {M M1 : Mem} (h : XS M M1) (hD : ID M) : ID M1 := by
  unfold ID
  rw [h.row (o := 0) (by omega), h.row (o := 114) (by omega)]
  exact hD
theorem hf_eq {h : Int} {f : Int → Int} : hf h f (0 : Int).toNat = h := rfl
noncomputable def wmH (M : Mem) (h : Int) : Int := if 0 < M 114 17 then itH (g5 M) (itH (smH M) h (M 114 15).toNat) (M 114 15).toNat else itH (smH M) h (M 114 15).toNat
theorem EQ.e_g6 {M M1 : Mem} (h : EQ M M1) : g6 M1 = g6 M := by
  funext y x
  unfold g6
  rw [h 134 (by omega), h 135 (by omega)]
theorem EQ.e_wrS {M M1 : Mem} (h : EQ M M1) : wrS M1 = wrS M := by
  funext m n
  unfold wrS
  rw [h.e_nY, h.e_dN]

