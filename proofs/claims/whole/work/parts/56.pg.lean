/-! The class's page; what class and reference have in common: INV. -/
theorem and32_255 (a : Int) : and32 a 255 = and64 a 255 := by
  rw [and255]
  have h2 : (iN a &&& iN 255).toBitVec.toNat = (BitVec.ofInt 32 a).toNat % 256 := by
    have e : (iN a &&& iN 255).toBitVec = BitVec.ofInt 32 a &&& BitVec.ofInt 32 255 := rfl
    rw [e, BitVec.toNat_and]
    exact Nat.and_two_pow_sub_one_eq_mod _ 8
  have h3 : (iN a &&& iN 255).toInt = (((iN a &&& iN 255).toBitVec.toNat : Nat) : Int) := by
    show (iN a &&& iN 255).toBitVec.toInt = _
    exact BitVec.toInt_eq_toNat_of_lt (by rw [h2]; omega)
  have h4 : uN (jN a) = (BitVec.ofInt 64 a).toNat := rfl
  unfold and32
  rw [h3, h2, h4, BitVec.toNat_ofInt, BitVec.toNat_ofInt]
  omega
theorem cod_e (w : Int) {k : Int} (h0 : 0 ≤ k) (h1 : k < 8) : and32 (ushr64 w (8 * k)) 255 = byt w k := by rw [and32_255, byt_sh w h0 h1]
def letX (M : Mem) (w n : Int) : Mem := fun o j => if o = 2 ∧ M 1 1 ≤ j ∧ j < M 1 1 + n then byt w (j - M 1 1) else if o = 1 ∧ j = 1 then M 1 1 + n else M o j
theorem letX_s {M M1 : Mem} {w k : Int} (hk : 0 ≤ k) (hM : M1 = letX M w k) : mu (mu M1 2 (M1 1 1) (byt w k)) 1 1 (M1 1 1 + 1) = letX M w (k + 1) := by
  have h1 : M1 1 1 = M 1 1 + k := by rw [hM]; simp [letX]
  rw [h1, hM]
  have e : byt w k = byt w (M 1 1 + k - M 1 1) := by congr 1; omega
  funext o j
  simp only [mu, letX]
  grind
def IG (M : Mem) : Prop := M 1 1 = M 114 1 ∧ ∀ i, 0 ≤ i → i < M 114 1 → M 2 i = M 115 i
def SRk (k : Int) (M P : Mem) : Prop := (k = 0 → SL M P) ∧ (k = 1 → SE M P) ∧ (k = 2 → SW M P)
def FX (k : Int) (M : Mem) (r : Int) (M' : Mem) : Prop := (0 ≤ r ∧ r ≤ M 114 1) ∧ (∀ j, 0 ≤ j → j < r → stpOk k (rdM k (rd0 M) j.toNat) (M 115 j)) ∧ ((r = M 114 1 ∧ SRk k M' (rdM k (rd0 M) r.toNat)) ∨ (r < M 114 1 ∧ ¬ stpOk k (rdM k (rd0 M) r.toNat) (M 115 r))) ∧ XR M M'
theorem rd_next {k : Int} {M : Mem} {i : Int} (h : 0 ≤ i) : rdM k (rd0 M) (i + 1).toNat = stpM k (rdM k (rd0 M) i.toNat) (M 115 i) := by
  rw [rdM_s k _ h, (rd0_RD M).row (o := 115) (by omega)]
theorem FX.yes {k : Int} {M M' : Mem} {r : Int} (hr : 0 ≤ r ∧ r = M 114 1) (h : ∀ j, 0 ≤ j → j < r → stpOk k (rdM k (rd0 M) j.toNat) (M 115 j)) (hs : SRk k M' (rdM k (rd0 M) r.toNat)) (hx : XR M M') : FX k M r M' := ⟨by omega, h, Or.inl ⟨hr.2, hs⟩, hx⟩
theorem FX.no {k : Int} {M M' : Mem} {r : Int} (hr : 0 ≤ r ∧ r < M 114 1) (h : ∀ j, 0 ≤ j → j < r → stpOk k (rdM k (rd0 M) j.toNat) (M 115 j)) (hs : ¬ stpOk k (rdM k (rd0 M) r.toNat) (M 115 r)) (hx : XR M M') : FX k M r M' := ⟨by omega, h, Or.inr ⟨hr.2, hs⟩, hx⟩
theorem stpOk_0 (M : Mem) (c : Int) : stpOk 0 M c ↔ glOk M c := by unfold stpOk; constructor; (rintro (q | q | q); exact q.2; omega; omega); (intro q; exact Or.inl ⟨rfl, q⟩)
theorem stpOk_1 (M : Mem) (c : Int) : stpOk 1 M c ↔ gmOk M c := by unfold stpOk; constructor; (rintro (q | q | q); omega; exact q.2; omega); (intro q; exact Or.inr (Or.inl ⟨rfl, q⟩))
theorem stpOk_2 (M : Mem) (c : Int) : stpOk 2 M c ↔ lwOk M c := by unfold stpOk; constructor; (rintro (q | q | q); omega; omega; exact q.2); (intro q; exact Or.inr (Or.inr ⟨rfl, q⟩))
theorem ok_up {k : Int} {M : Mem} {i : Int} (h : ∀ j, 0 ≤ j → j < i → stpOk k (rdM k (rd0 M) j.toNat) (M 115 j)) (hi : stpOk k (rdM k (rd0 M) i.toNat) (M 115 i)) : ∀ j, 0 ≤ j → j < i + 1 → stpOk k (rdM k (rd0 M) j.toNat) (M 115 j) := fun j a b => by
  by_cases e : j = i
  · rw [e]; exact hi
  · exact h j a (by omega)
theorem SL.k {M P : Mem} (h : SL M P) : SRk 0 M P := ⟨fun _ => h, fun q => by omega, fun q => by omega⟩
theorem SE.k {M P : Mem} (h : SE M P) : SRk 1 M P := ⟨fun q => by omega, fun _ => h, fun q => by omega⟩
theorem SW.k {M P : Mem} (h : SW M P) : SRk 2 M P := ⟨fun q => by omega, fun q => by omega, fun _ => h⟩
/-- agreement on the reference's cells -/
def EQ (M M1 : Mem) : Prop := ∀ o : Int, 114 ≤ o → M1 o = M o
theorem EQ.rf (M : Mem) : EQ M M := fun _ _ => rfl
theorem EQ.tr {M M1 M2 : Mem} (h : EQ M M1) (h2 : EQ M1 M2) : EQ M M2 := fun o ho => (h2 o ho).trans (h o ho)
theorem EQ.pu {M M1 : Mem} (h : EQ M M1) {o : Int} (k v : Int) (ho : o < 114) : EQ M (mu M1 o k v) := fun o' h' => by rw [mu_o M1 k v (by omega)]; exact h o' h'
theorem XR.eq {M M1 : Mem} (h : XR M M1) : EQ M M1 := fun o ho => h.row (by omega)
theorem EQ.up {M M1 : Mem} (h : EQ M M1) (o k : Int) {v v' : Int} (hv : v = v') : EQ (mu M o k v) (mu M1 o k v') := fun o' h' => by
  funext j
  simp only [mu, hv, h o' h']
theorem EQ.zr {M M1 : Mem} (h : EQ M M1) (r n : Int) : EQ (zr M r n) (zr M1 r n) := fun o' h' => by
  funext j
  show (if o' = r ∧ 0 ≤ j ∧ j < n then (0 : Int) else M1 o' j) = (if o' = r ∧ 0 ≤ j ∧ j < n then (0 : Int) else M o' j)
  rw [h o' h']
theorem EQ.gl {M M1 : Mem} (h : EQ M M1) (c : Int) : (glOk M c ↔ glOk M1 c) ∧ EQ (glM M c) (glM M1 c) := by
  have e := h 114 (by omega)
  have f : glF M1 c = glF M c := by unfold glF; rw [e]
  refine ⟨by unfold glOk; rw [f, e], ?_⟩
  unfold glM glA glB glC glD
  rw [f, e]
  split
  · exact ((h.up _ _ rfl).up _ _ rfl).up _ _ rfl
  · split
    · exact ((h.up _ _ rfl).up _ _ rfl).up _ _ rfl
    · split
      · exact (h.up _ _ rfl).up _ _ rfl
      · exact ((h.up _ _ rfl).up _ _ rfl).up _ _ rfl
theorem EQ.gm {M M1 : Mem} (h : EQ M M1) (c : Int) : (gmOk M c ↔ gmOk M1 c) ∧ EQ (gmM M c) (gmM M1 c) := by
  have e := h 114 (by omega)
  have e2 := h 117 (by omega)
  refine ⟨by unfold gmOk gmX gmY; rw [e], ?_⟩
  unfold gmM gmA gmB gmC
  rw [e, e2]
  split
  · exact (((h.up _ _ rfl).up _ _ rfl).up _ _ rfl).up _ _ rfl
  · split
    · exact ((h.up _ _ rfl).up _ _ rfl).up _ _ rfl
    · exact ((h.up _ _ rfl).up _ _ rfl).up _ _ rfl
theorem EQ.lw {M M1 : Mem} (h : EQ M M1) (c : Int) : (lwOk M c ↔ lwOk M1 c) ∧ EQ (lwM M c) (lwM M1 c) := by
  have e := h 114 (by omega)
  have e2 := h 118 (by omega)
  have f1 : lwB M1 = lwB M := by unfold lwB; rw [e, e2]
  have f2 : lwN M1 = lwN M := by unfold lwN; rw [e]
  have f3 : lwV M1 c = lwV M c := by unfold lwV; rw [e]
  refine ⟨by unfold lwOk okA okB; rw [f1, f2, f3, e], ?_⟩
  unfold lwM lwA lwBM lwC
  rw [f1, f2, f3, e]
  split
  · exact ((h.up _ _ rfl).up _ _ rfl).up _ _ rfl
  · split
    · split
      · exact ((h.up _ _ rfl).up _ _ rfl).up _ _ rfl
      · exact h.up _ _ rfl
    · exact (h.up _ _ rfl).up _ _ rfl
theorem EQ.stp {M M1 : Mem} (h : EQ M M1) (k c : Int) : (stpOk k M c ↔ stpOk k M1 c) ∧ EQ (stpM k M c) (stpM k M1 c) := by
  refine ⟨by unfold stpOk; rw [(h.gl c).1, (h.gm c).1, (h.lw c).1], ?_⟩
  unfold stpM
  split
  · exact (h.gl c).2
  · split
    · exact (h.gm c).2
    · exact (h.lw c).2
theorem EQ.rdMs {M M1 : Mem} (h : EQ M M1) (k : Int) : ∀ n : Nat, EQ (rdM k (rd0 M) n) (rdM k (rd0 M1) n)
  | 0 => ((((h.up _ _ rfl).up _ _ rfl).up _ _ rfl).up _ _ rfl).zr 116 3 |>.zr 117 24
  | n + 1 => by
    have ih := EQ.rdMs h k n
    have e1 := (rd0_RD M).row (o := 115) (by omega)
    have e2 := (rd0_RD M1).row (o := 115) (by omega)
    have e3 := h 115 (by omega)
    show EQ (stpM k (rdM k (rd0 M) n) (rd0 M 115 n)) (stpM k (rdM k (rd0 M1) n) (rd0 M1 115 n))
    rw [e1, e2, e3]
    exact (ih.stp k _).2
/-- where class and reference stop reading -/
theorem FX.eq {k : Int} {M M' Mf : Mem} {r f : Int} (h : FX k M r M') (h2 : FR k M' f Mf) : r = f := by
  have hE := h.2.2.2.eq
  obtain ⟨a1, a2, a3, -⟩ := h
  obtain ⟨b1, b2, b3, -⟩ := h2
  have e1 := hE 114 (by omega)
  have e2 := hE 115 (by omega)
  rw [e1] at b1 b3
  rw [e2] at b2 b3
  have ok : ∀ j : Int, stpOk k (rdM k (rd0 M) j.toNat) (M 115 j) ↔ stpOk k (rdM k (rd0 M') j.toNat) (M 115 j) := fun j => ((hE.rdMs k j.toNat).stp k _).1
  refine Classical.byContradiction fun n => ?_
  rcases (by omega : r < f ∨ f < r) with l | l
  · rcases a3 with q | q
    · omega
    · exact q.2 ((ok r).mpr (b2 r a1.1 l))
  · rcases b3 with q | q
    · omega
    · exact q.2.1 ((ok f).mp (a2 f b1.1 l))
/-- the class's state is that of the reference -/
theorem FX.st {k : Int} {M M' Mf : Mem} {r f : Int} (h : FX k M r M') (h2 : FR k M' f Mf) (hr : r = M 114 1) : ∃ P, SRk k M' P ∧ (∀ o : Int, 114 ≤ o → Mf o = P o) := by
  have e := h.eq h2
  have hE := h.2.2.2.eq
  have e1 := hE 114 (by omega)
  have a := h.2.2.1
  have b := h2.2.2.1
  rw [e1] at b
  rcases a with q | q
  · rcases b with w | w
    · refine ⟨rdM k (rd0 M) r.toNat, q.2, fun o ho => ?_⟩
      rw [w.2.1, ← e]
      exact hE.rdMs k r.toNat o ho
    · omega
  · omega

