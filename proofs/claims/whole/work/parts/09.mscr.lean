/-! The reference's scratch cells: what a walk may leave there is nobody's business. -/
def scrM (o k : Int) : Prop := (o = 114 ∧ ((2 ≤ k ∧ k ≤ 8) ∨ k = 10 ∨ k = 28 ∨ k = 29 ∨ k = 37 ∨ k = 38 ∨ (43 ≤ k ∧ k ≤ 45))) ∨ (127 ≤ o ∧ o ≤ 133)
def SM (M M' : Mem) : Prop := ∀ o k, ¬ scrM o k → M' o k = M o k
theorem SM.rfl' (M : Mem) : SM M M := fun _ _ _ => rfl
theorem SM.trans {M M1 M2 : Mem} (h : SM M M1) (h2 : SM M1 M2) : SM M M2 := fun o k n => (h2 o k n).trans (h o k n)
theorem SM.mu {M M1 : Mem} (h : SM M M1) {o k : Int} (v : Int) (hs : scrM o k) : SM M (mu M1 o k v) := fun o' k' n => by
  have e : ¬ (o' = o ∧ k' = k) := fun q => n (by rw [q.1, q.2]; exact hs)
  show (if o' = o ∧ k' = k then v else M1 o' k') = _
  rw [if_neg e]; exact h o' k' n
theorem SM.row {M M1 : Mem} (h : SM M M1) {o : Int} (ho : o ≠ 114 ∧ ¬ (127 ≤ o ∧ o ≤ 133)) : M1 o = M o := by
  funext k
  refine h o k ?_
  unfold scrM; omega
theorem SM.fld {M M1 : Mem} (h : SM M M1) {k : Int} (hk : ¬ ((2 ≤ k ∧ k ≤ 8) ∨ k = 10 ∨ k = 28 ∨ k = 29 ∨ k = 37 ∨ k = 38 ∨ (43 ≤ k ∧ k ≤ 45))) : M1 114 k = M 114 k := by
  refine h 114 k ?_
  unfold scrM; omega
theorem SM.e_rgt {M M1 : Mem} (h : SM M M1) : rgt M1 = rgt M := by
  funext p c
  unfold rgt
  rw [h.row (o := 124) (by omega), h.row (o := 125) (by omega), h.row (o := 119) (by omega), h.row (o := 123) (by omega)]
theorem SM.e_vlu {M M1 : Mem} (h : SM M M1) : vlu M1 = vlu M := by
  funext m p
  unfold vlu smS
  rw [h.e_rgt, h.row (o := 120) (by omega)]
theorem SM.e_clsS {M M1 : Mem} (h : SM M M1) : clsS M1 = clsS M := by
  funext v
  unfold clsS
  rw [h.row (o := 121) (by omega), h.fld (k := 17) (by omega)]
theorem SM.e_lowS {M M1 : Mem} (h : SM M M1) : lowS M1 = lowS M := by
  funext m p
  unfold lowS
  rw [h.e_vlu, h.e_clsS, h.fld (k := 19) (by omega)]
theorem SM.e_highS {M M1 : Mem} (h : SM M M1) : highS M1 = highS M := by
  funext m p
  unfold highS
  rw [h.e_vlu, h.e_clsS, h.fld (k := 19) (by omega)]
theorem SM.e_nrS {M M1 : Mem} (h : SM M M1) : nrS M1 = nrS M := by
  funext a b c
  unfold nrS nrK
  rw [h.row (o := 126) (by omega), h.fld (k := 26) (by omega)]
theorem SM.e_WTab {M M1 : Mem} (h : SM M M1) : WTab M1 = WTab M := by
  unfold WTab
  rw [h.fld (k := 13) (by omega), h.fld (k := 15) (by omega), h.fld (k := 17) (by omega), h.fld (k := 19) (by omega), h.fld (k := 20) (by omega), h.row (o := 119) (by omega), h.row (o := 120) (by omega), h.row (o := 121) (by omega), h.row (o := 122) (by omega), h.row (o := 123) (by omega)]
theorem SM.e_WPic {M M1 : Mem} (h : SM M M1) : WPic M1 = WPic M := by
  unfold WPic
  rw [h.fld (k := 13) (by omega), h.fld (k := 20) (by omega), h.fld (k := 23) (by omega), h.fld (k := 26) (by omega), h.fld (k := 40) (by omega), h.row (o := 124) (by omega), h.row (o := 125) (by omega), h.row (o := 126) (by omega), h.row (o := 134) (by omega), h.row (o := 135) (by omega)]
theorem SM.WV {M M1 : Mem} (h : SM M M1) (hW : WV M) : WV M1 := ⟨by rw [h.e_WTab]; exact hW.1, by rw [h.e_WPic]; exact hW.2⟩
/-- the dates of a picture -/
def dtP (M : Mem) (m p y : Int) : Prop := (M 124 (6 * p + 5) = -1 ∨ M 122 (M 124 (6 * p + 5)) ≤ y) ∧ (M 134 y = -1 ∨ (M 134 y ≤ highS M m p ∧ lowS M m p ≤ M 135 y))
theorem SM.e_dtP {M M1 : Mem} (h : SM M M1) : dtP M1 = dtP M := by
  funext m p y
  unfold dtP
  rw [h.row (o := 124) (by omega), h.row (o := 122) (by omega), h.row (o := 134) (by omega), h.row (o := 135) (by omega), h.e_lowS, h.e_highS]
def okD (M : Mem) (m p y : Int) : Prop := (0 ≤ y ∧ y ≤ 400) ∧ dtP M m p y
def yr0 (M : Mem) (p : Int) : Int := M 124 (6 * p + 2) - M 124 (6 * p + 3)
noncomputable def dN (M : Mem) (m p : Int) : Nat → Int
  | 0 => 0
  | n + 1 => dN M m p n + b2i (okD M m p (yr0 M p + n))
noncomputable def dF (M : Mem) (m p : Int) : Nat → Int
  | 0 => -1
  | n + 1 => if b2i (okD M m p (yr0 M p + n)) = 1 then (if dN M m p n = 0 then yr0 M p + n else dF M m p n) else dF M m p n
noncomputable def dL (M : Mem) (m p : Int) : Nat → Int
  | 0 => -1
  | n + 1 => if b2i (okD M m p (yr0 M p + n)) = 1 then yr0 M p + n else dL M m p n
theorem dN_rng (M : Mem) (m p : Int) : ∀ n : Nat, 0 ≤ dN M m p n ∧ dN M m p n ≤ n
  | 0 => by simp [dN]
  | n + 1 => by
    have h := dN_rng M m p n
    have h2 := b2i_01 (okD M m p (yr0 M p + n))
    rw [dN]
    omega
theorem d_step (M : Mem) (m p : Int) {y : Int} (h : yr0 M p ≤ y) :
    dN M m p (y + 1 - yr0 M p).toNat = dN M m p (y - yr0 M p).toNat + b2i (okD M m p y) ∧
    dF M m p (y + 1 - yr0 M p).toNat = (if b2i (okD M m p y) = 1 then (if dN M m p (y - yr0 M p).toNat = 0 then y else dF M m p (y - yr0 M p).toNat) else dF M m p (y - yr0 M p).toNat) ∧
    dL M m p (y + 1 - yr0 M p).toNat = (if b2i (okD M m p y) = 1 then y else dL M m p (y - yr0 M p).toNat) := by
  have e : (y + 1 - yr0 M p).toNat = (y - yr0 M p).toNat + 1 := by omega
  have e2 : yr0 M p + (((y - yr0 M p).toNat : Nat) : Int) = y := by omega
  rw [e, dN, dF, dL, e2]
  exact ⟨rfl, rfl, rfl⟩
def nY (M : Mem) (p : Int) : Nat := (2 * M 124 (6 * p + 3) + 1).toNat
/-- the three numbers of a picture's dates, laid -/
noncomputable def stD (M M1 : Mem) (m p : Int) (n : Nat) : Mem := mu (mu (mu M1 114 43 (dN M m p n)) 114 44 (dF M m p n)) 114 45 (dL M m p n)
/-- which pictures have no dates, as bits -/
noncomputable def wrS (M : Mem) (m : Int) (n : Nat) : Int := sm (fun p => if dN M m p (nY M p) = 0 then 2 ^ p.toNat else 0) n

