/-! What the reference's calls do, as functions of M. -/
def addL (M : Mem) (kind hand year span lamp pig k : Int) : Mem := fun o j =>
  if o = 124 ∧ 6 * M 114 23 ≤ j ∧ j < 6 * M 114 23 + 6 then
    (if j = 6 * M 114 23 then kind else if j = 6 * M 114 23 + 1 then hand else if j = 6 * M 114 23 + 2 then year else if j = 6 * M 114 23 + 3 then (if kind = 1 ∨ kind = 2 then 0 else span) else if j = 6 * M 114 23 + 4 then lamp else pig)
  else if o = 125 ∧ 12 * M 114 23 ≤ j ∧ j < 12 * M 114 23 + k then 0 else M o j
def addM (M : Mem) (kind hand year span lamp pig : Int) : Mem := mu (addL M kind hand year span lamp pig 12) 114 23 (M 114 23 + 1)
def bkP (M : Mem) (y p : Int) : Prop := M 124 (6 * p) ≠ 3 ∧ M 124 (6 * p + 2) = y ∧ M 124 (6 * p + 3) = 0
noncomputable def bkL (M : Mem) (m y : Int) : Nat → Int
  | 0 => if M 134 y = -1 then 0 else M 134 y
  | n + 1 => if b2i (bkP M y n) = 1 then (if bkL M m y n < lowS M m n then lowS M m n else bkL M m y n) else bkL M m y n
noncomputable def bkH (M : Mem) (m y : Int) : Nat → Int
  | 0 => if M 134 y = -1 then M 114 17 else M 135 y
  | n + 1 => if b2i (bkP M y n) = 1 then (if highS M m n < bkH M m y n then highS M m n else bkH M m y n) else bkH M m y n
theorem bk_s (M : Mem) (m y : Int) {p : Int} (h : 0 ≤ p) : bkL M m y (p + 1).toNat = (if b2i (bkP M y p) = 1 then (if bkL M m y p.toNat < lowS M m p then lowS M m p else bkL M m y p.toNat) else bkL M m y p.toNat) ∧ bkH M m y (p + 1).toNat = (if b2i (bkP M y p) = 1 then (if highS M m p < bkH M m y p.toNat then highS M m p else bkH M m y p.toNat) else bkH M m y p.toNat) := by
  have e : (p + 1).toNat = p.toNat + 1 := by omega
  have e2 : ((p.toNat : Nat) : Int) = p := by omega
  rw [e, bkL, bkH, e2]
  exact ⟨rfl, rfl⟩
theorem bk_rng {M : Mem} (hW : WV M) (m : Int) {y : Int} (h0 : 0 ≤ y) (h1 : y < 401) : ∀ n : Nat, (-1 ≤ bkL M m y n ∧ bkL M m y n ≤ 5) ∧ (-1 ≤ bkH M m y n ∧ bkH M m y n ≤ 5)
  | 0 => by
    have a := hW.ice h0 h1
    have b := hW.law
    rw [bkL, bkH]
    constructor <;> split <;> omega
  | n + 1 => by
    have ih := bk_rng hW m h0 h1 n
    have b := hW.law
    have c := clsS_rng M (vlu M m n - M 114 19) (by omega)
    have d := clsS_rng M (vlu M m n + M 114 19) (by omega)
    rw [bkL, bkH]
    unfold lowS highS
    constructor <;> split <;> (try split) <;> omega
def isMeas (M : Mem) (m : Int) : Prop := 0 ≤ m ∧ m < M 114 15
def isPic (M : Mem) (q : Int) : Prop := 0 ≤ q ∧ q < M 114 23
def colOk (M : Mem) (q part col v : Int) : Prop := (0 ≤ q ∧ q < M 114 23) ∧ (0 ≤ part ∧ part ≤ 3) ∧ (0 ≤ col ∧ col ≤ 2) ∧ (0 ≤ v ∧ v ≤ 99)
def cntS (M : Mem) (k : Int) : Int := if k = 0 then M 114 13 else if k = 1 then M 114 20 else if k = 2 then M 114 23 else if k = 3 then M 114 15 else if k = 4 then M 114 26 else if k = 5 then M 114 17 else if k = 6 then M 114 40 else if k = 7 then M 114 1 else if k = 8 then M 114 39 else -102
def picRng (kind hand year span : Int) : Prop := (0 ≤ kind ∧ kind ≤ 4) ∧ (0 ≤ hand ∧ hand ≤ 4) ∧ (0 ≤ year ∧ year ≤ 400) ∧ (0 ≤ span ∧ span ≤ 20)
def picUnk (M : Mem) (lamp pig : Int) : Prop := (-1 ≤ lamp ∧ lamp ≤ M 114 13 - 1) ∧ (-1 ≤ pig ∧ pig ≤ M 114 20 - 1)
def iceOut (y low high : Int) : Prop := ¬ (0 ≤ y ∧ y ≤ 400) ∨ ¬ (-1 ≤ low ∧ low ≤ 5) ∨ (low ≠ -1 ∧ ¬ (low ≤ high ∧ high ≤ 5))
def iceFul (M : Mem) (y low : Int) : Prop := low ≠ -1 ∧ M 134 y = -1 ∧ M 114 40 = 40
def iceM (M : Mem) (y low high : Int) : Mem := mu (mu (mu M 114 40 (M 114 40 + ((if low = -1 then 0 else 1) - (if M 134 y = -1 then 0 else 1)))) 134 y low) 135 y (if low = -1 then -1 else high)
theorem p2i_le {a b : Nat} (h : a ≤ b) : (2 : Int) ^ a ≤ 2 ^ b := by
  rw [← p2c, ← p2c]
  exact Int.ofNat_le.mpr (Nat.pow_le_pow_right (by decide) h)
theorem SM.e_yr {M M1 : Mem} (h : SM M M1) : yr0 M1 = yr0 M := by
  funext p
  unfold yr0
  rw [h.row (o := 124) (by omega)]
theorem SM.e_nY {M M1 : Mem} (h : SM M M1) : nY M1 = nY M := by
  funext p
  unfold nY
  rw [h.row (o := 124) (by omega)]
theorem SM.e_dN {M M1 : Mem} (h : SM M M1) : dN M1 = dN M := by
  funext m p n
  induction n with
  | zero => rfl
  | succ n ih =>
    unfold dN okD
    rw [ih, h.e_dtP, h.e_yr]
theorem nY_rng {M : Mem} (hW : WV M) {p : Int} (h0 : 0 ≤ p) (h1 : p < M 114 23) : nY M p ≤ 41 := by
  have := hW.row h0 h1
  unfold nY
  omega
theorem bkP_i {M : Mem} {y p : Int} : bkP M y p ↔ (M 124 (6 * p) ≠ 3 ∧ M 124 (6 * p + 2) = y ∧ M 124 (6 * p + 3) = 0) := Iff.rfl

