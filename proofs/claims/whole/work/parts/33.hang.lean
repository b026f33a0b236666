/-! The runs done, and what hangs on what. -/
def DN (M M1 : Mem) : Prop := ∀ o k : Int, ¬ (o = 114 ∧ k = 39) → M1 o k = M o k
theorem DN.of (M : Mem) (v : Int) : DN M (mu M 114 39 v) := fun o k n => by
  show (if o = 114 ∧ k = 39 then v else M o k) = _
  rw [if_neg n]
theorem DN.row {M M1 : Mem} (h : DN M M1) {o : Int} (ho : o ≠ 114) : M1 o = M o := by funext k; exact h o k (by omega)
theorem DN.fld {M M1 : Mem} (h : DN M M1) {k : Int} (hk : k ≠ 39) : M1 114 k = M 114 k := h 114 k (by omega)
theorem DN.e_rgt {M M1 : Mem} (h : DN M M1) : rgt M1 = rgt M := by
  funext p c
  unfold rgt
  rw [h.row (o := 124) (by omega), h.row (o := 125) (by omega), h.row (o := 119) (by omega), h.row (o := 123) (by omega)]
theorem DN.e_vlu {M M1 : Mem} (h : DN M M1) : vlu M1 = vlu M := by
  funext m p
  unfold vlu smS
  rw [h.e_rgt, h.row (o := 120) (by omega)]
theorem DN.e_clsS {M M1 : Mem} (h : DN M M1) : clsS M1 = clsS M := by
  funext v
  unfold clsS
  rw [h.row (o := 121) (by omega), h.fld (k := 17) (by omega)]
theorem DN.e_lowS {M M1 : Mem} (h : DN M M1) : lowS M1 = lowS M := by
  funext m p
  unfold lowS
  rw [h.e_vlu, h.e_clsS, h.fld (k := 19) (by omega)]
theorem DN.e_highS {M M1 : Mem} (h : DN M M1) : highS M1 = highS M := by
  funext m p
  unfold highS
  rw [h.e_vlu, h.e_clsS, h.fld (k := 19) (by omega)]
theorem DN.e_nrS {M M1 : Mem} (h : DN M M1) : nrS M1 = nrS M := by
  funext a b c
  unfold nrS nrK
  rw [h.row (o := 126) (by omega), h.fld (k := 26) (by omega)]
theorem DN.e_WTab {M M1 : Mem} (h : DN M M1) : WTab M1 = WTab M := by
  unfold WTab
  rw [h.fld (k := 13) (by omega), h.fld (k := 15) (by omega), h.fld (k := 17) (by omega), h.fld (k := 19) (by omega), h.fld (k := 20) (by omega), h.row (o := 119) (by omega), h.row (o := 120) (by omega), h.row (o := 121) (by omega), h.row (o := 122) (by omega), h.row (o := 123) (by omega)]
theorem DN.e_WPic {M M1 : Mem} (h : DN M M1) : WPic M1 = WPic M := by
  unfold WPic
  rw [h.fld (k := 13) (by omega), h.fld (k := 20) (by omega), h.fld (k := 23) (by omega), h.fld (k := 26) (by omega), h.fld (k := 40) (by omega), h.row (o := 124) (by omega), h.row (o := 125) (by omega), h.row (o := 126) (by omega), h.row (o := 134) (by omega), h.row (o := 135) (by omega)]
theorem DN.WV {M M1 : Mem} (h : DN M M1) (hW : WV M) : WV M1 := ⟨by rw [h.e_WTab]; exact hW.1, by rw [h.e_WPic]; exact hW.2⟩
theorem DN.e_dtP {M M1 : Mem} (h : DN M M1) : dtP M1 = dtP M := by
  funext m p y
  unfold dtP
  rw [h.row (o := 124) (by omega), h.row (o := 122) (by omega), h.row (o := 134) (by omega), h.row (o := 135) (by omega), h.e_lowS, h.e_highS]
theorem DN.e_yr {M M1 : Mem} (h : DN M M1) : yr0 M1 = yr0 M := by
  funext p
  unfold yr0
  rw [h.row (o := 124) (by omega)]
theorem DN.e_nY {M M1 : Mem} (h : DN M M1) : nY M1 = nY M := by
  funext p
  unfold nY
  rw [h.row (o := 124) (by omega)]
theorem DN.e_dN {M M1 : Mem} (h : DN M M1) : dN M1 = dN M := by
  funext m p n
  induction n with
  | zero => rfl
  | succ n ih =>
    unfold dN okD
    rw [ih, h.e_dtP, h.e_yr]
theorem DN.e_nrV {M M1 : Mem} (h : DN M M1) (w : Int) : nrV M1 w = nrV M w := by
  funext p
  unfold nrV
  rw [h.e_nrS, h.row (o := 124) (by omega)]
theorem DN.e_prof {M M1 : Mem} (h : DN M M1) (m w but : Int) : mbL M1 but = mbL M but ∧ hdV M1 = hdV M ∧ vlu M1 m = vlu M m ∧ nrV M1 w = nrV M w ∧ M1 114 23 = M 114 23 := by
  refine ⟨?_, ?_, ?_, h.e_nrV w, h.fld (k := 23) (by omega)⟩
  · funext p; unfold mbL; rw [h.row (o := 124) (by omega)]
  · funext p; unfold hdV; rw [h.row (o := 124) (by omega)]
  · rw [h.e_vlu]
theorem DN.e_stV {M M1 : Mem} (h : DN M M1) : stV M1 = stV M := by
  funext m w but; have e := h.e_prof m w but; unfold stV; rw [e.1, e.2.1, e.2.2.1, e.2.2.2.1, e.2.2.2.2]
theorem DN.e_lowV {M M1 : Mem} (h : DN M M1) : lowV M1 = lowV M := by
  funext m w but; have e := h.e_prof m w but; unfold lowV; rw [e.1, e.2.1, e.2.2.1, e.2.2.2.1, e.2.2.2.2]
theorem DN.e_upV {M M1 : Mem} (h : DN M M1) : upV M1 = upV M := by
  funext m w but; have e := h.e_prof m w but; unfold upV; rw [e.1, e.2.1, e.2.2.1, e.2.2.2.1, e.2.2.2.2]
noncomputable def hgD (M : Mem) (m w q : Int) (P : Int × Int × Int) : Int × Int × Int := if M 124 (6 * q) ≠ 3 ∧ (P.1 = -1 ∨ P.2.1 * lowV M m w q < upV M m w q * P.2.2) then (q, upV M m w q, lowV M m w q) else P
noncomputable def hgS (M : Mem) (m w : Int) : Nat → Int × Int × Int
  | 0 => (-1, 0, 1)
  | q + 1 => hgD M m w q (hgS M m w q)
theorem hgS_s (M : Mem) (m w : Int) {q : Int} (h : 0 ≤ q) : hgS M m w (q + 1).toNat = hgD M m w q (hgS M m w q.toNat) := by
  rw [show (q + 1).toNat = q.toNat + 1 by omega, hgS, Int.toNat_of_nonneg h]
def dif (a b : Int) : Int := if b < a then a - b else b - a
def nxU (P : Mem) (i : Int) : Int := dif (upM (mu P 128 i (-1))) (upM (mu P 128 i 1000000))
def nxD (P : Mem) (i : Int) (R : Int × Int) : Int × Int := if R.2 < nxU P i then (P 130 i, nxU P i) else R
def nxR (P : Mem) : Nat → Int × Int
  | 0 => (-1, -1)
  | i + 1 => nxD P i (nxR P i)
theorem nxR_s (P : Mem) {i : Int} (h : 0 ≤ i) : nxR P (i + 1).toNat = nxD P i (nxR P i.toNat) := by
  rw [show (i + 1).toNat = i.toNat + 1 by omega, nxR, Int.toNat_of_nonneg h]
def upd1 (f : Int → Int) (p v : Int) : Int → Int := fun q => if q = p then v else f q
/-- the same over the slots -/
def nvU (n : Nat) (mb hd vl nr : Int → Int) (p : Int) : Int := dif (upP n mb hd (upd1 vl p (-1)) nr) (upP n mb hd (upd1 vl p 1000000) nr)
def nvD (n : Nat) (mb hd vl nr : Int → Int) (p : Int) (R : Int × Int) : Int × Int := if mb p = 1 ∧ R.2 < nvU n mb hd vl nr p then (p, nvU n mb hd vl nr p) else R
def nvS (n : Nat) (mb hd vl nr : Int → Int) : Nat → Int × Int
  | 0 => (-1, -1)
  | p + 1 => nvD n mb hd vl nr p (nvS n mb hd vl nr p)
theorem sm_lt {mb : Int → Int} (h01 : ∀ p, mb p = 0 ∨ mb p = 1) {p : Int} (h0 : 0 ≤ p) (hm : mb p = 1) : ∀ {n : Nat}, p < n → sm mb p.toNat < sm mb n
  | 0, h => by omega
  | n + 1, h => by
    have e : sm mb (n + 1) = sm mb n + mb n := rfl
    have c := h01 n
    by_cases q : p = n
    · rw [show p.toNat = n by omega, e, ← q, hm]; omega
    · have := sm_lt h01 h0 hm (n := n) (by omega)
      omega
theorem PR.put {M1 : Mem} {n : Int} {mb hd vl nr : Int → Int} (h : PR M1 n mb hd vl nr) {p v : Int} (h0 : 0 ≤ p) (h1 : p < n) (hm : mb p = 1) (hv : -1 ≤ v ∧ v ≤ 1000000) : PR (mu M1 128 (sm mb p.toNat) v) n mb hd (upd1 vl p v) nr := by
  obtain ⟨hn, h01, hc, hL, hr⟩ := h
  have r127 : mu M1 128 (sm mb p.toNat) v 127 = M1 127 := mu_o _ _ _ (by decide)
  have r129 : mu M1 128 (sm mb p.toNat) v 129 = M1 129 := mu_o _ _ _ (by decide)
  have r130 : mu M1 128 (sm mb p.toNat) v 130 = M1 130 := mu_o _ _ _ (by decide)
  have r114 : mu M1 128 (sm mb p.toNat) v 114 = M1 114 := mu_o _ _ _ (by decide)
  have r128 : ∀ j, mu M1 128 (sm mb p.toNat) v 128 j = if j = sm mb p.toNat then v else M1 128 j := fun j => by simp [mu]
  refine ⟨hn, h01, by rw [r114, hc], ⟨by rw [r114]; exact hL.1, fun i a b => ?_⟩, fun q a b c => ?_⟩
  · rw [r114] at b
    have z := hL.2 i a b
    rw [r127, r128, r129, r130]
    refine ⟨z.1, ?_, z.2.2⟩
    by_cases e : i = sm mb p.toNat
    · rw [if_pos e]; exact hv
    · rw [if_neg e]; exact z.2.1
  · have z := hr q a b c
    rw [r127, r128, r129, r130]
    refine ⟨z.1, ?_, z.2.2⟩
    unfold upd1
    by_cases e : q = p
    · subst e; rw [if_pos rfl, if_pos rfl]
    · rw [if_neg e, if_neg, z.2.1]
      by_cases l : q < p
      · have := sm_lt h01 a c (n := p.toNat) (by omega)
        omega
      · have := sm_lt h01 h0 hm (n := q.toNat) (by omega)
        omega
theorem PR.nx {P : Mem} {n : Int} {mb hd vl nr : Int → Int} (h : PR P n mb hd vl nr) : ∀ k : Nat, k ≤ n.toNat → nxR P (sm mb k).toNat = nvS n.toNat mb hd vl nr k
  | 0, _ => rfl
  | k + 1, hk => by
    have hx := h
    obtain ⟨hn, h01, hc, hL, hr⟩ := hx
    have ih := h.nx k (by omega)
    have e : sm mb (k + 1) = sm mb k + mb k := rfl
    have r := (cnt_rng (n := k) h01).1
    rw [nvS, e, ← ih]
    unfold nvD
    rcases h01 k with c | c
    · rw [c, Int.add_zero, if_neg (fun z => by omega)]
    · have hq := hr k (by omega) (by omega) c
      have p1 := (h.put (p := k) (v := -1) (by omega) (by omega) c (by decide)).up
      have p2 := (h.put (p := k) (v := 1000000) (by omega) (by omega) c (by decide)).up
      rw [show ((k : Int)).toNat = k by omega] at hq p1 p2
      have e3 : nxU P (sm mb k) = nvU n.toNat mb hd vl nr k := by unfold nxU nvU; rw [p1, p2]
      rw [c, show (sm mb k + 1).toNat = (sm mb k).toNat + 1 by omega, nxR, Int.toNat_of_nonneg r]
      unfold nxD
      rw [e3, hq.2.2.2]
      by_cases d : (nxR P (sm mb k).toNat).2 < nvU n.toNat mb hd vl nr k
      · rw [if_pos d, if_pos ⟨rfl, d⟩]
      · rw [if_neg d, if_neg (fun z => d z.2)]
noncomputable def nvV (M : Mem) (m w : Int) : Int × Int := nvS (M 114 23).toNat (mbL M (-1)) (hdV M) (vlu M m) (nrV M w) (M 114 23).toNat
theorem LkU.nx {M P : Mem} {m w : Int} (hW : WV M) (h : LkU M P m w (-1) (M 114 23)) : nxR P (P 114 29).toNat = nvV M m w := by
  have hn := hW.n
  have p := h.pr hW
  have e : P 114 29 = sm (mbL M (-1)) (M 114 23).toNat := p.2.2.1
  rw [e]
  exact p.nx _ (Nat.le_refl _)
theorem up_cg {M M1 : Mem} (h29 : M1 114 29 = M 114 29) (h127 : M1 127 = M 127) (h128 : M1 128 = M 128) (h129 : M1 129 = M 129) : upM M1 = upM M := by
  unfold upM; rw [h29, h127, h128, h129]
theorem ot_up {P M M1 : Mem} (h : OT P M) (i v : Int) (h2 : M1 = mu M 128 i v) : upM M1 = upM (mu P 128 i v) := by
  subst h2
  refine up_cg ?_ ?_ ?_ ?_
  · rw [mu_o M _ _ (by decide), mu_o P _ _ (by decide)]; exact h.fld (by omega)
  · rw [mu_o M _ _ (by decide), mu_o P _ _ (by decide)]; exact h.row (by omega)
  · funext j; simp only [mu]; rw [h.row (o := 128) (by omega)]
  · rw [mu_o M _ _ (by decide), mu_o P _ _ (by decide)]; exact h.row (by omega)
theorem LK.put {M : Mem} (h : LK M) (i v : Int) (hv : -1 ≤ v ∧ v ≤ 1000000) : LK (mu M 128 i v) := by
  have r127 : mu M 128 i v 127 = M 127 := mu_o _ _ _ (by decide)
  have r129 : mu M 128 i v 129 = M 129 := mu_o _ _ _ (by decide)
  have r130 : mu M 128 i v 130 = M 130 := mu_o _ _ _ (by decide)
  have r114 : mu M 128 i v 114 = M 114 := mu_o _ _ _ (by decide)
  have r128 : ∀ j, mu M 128 i v 128 j = if j = i then v else M 128 j := fun j => by simp [mu]
  refine ⟨by rw [r114]; exact h.1, fun j a b => ?_⟩
  rw [r114] at b
  have z := h.2 j a b
  rw [r127, r128, r129, r130]
  refine ⟨z.1, ?_, z.2.2⟩
  by_cases e : j = i
  · rw [if_pos e]; exact hv
  · rw [if_neg e]; exact z.2.1
theorem upM_rng {M : Mem} (hL : LK M) : 0 ≤ upM M ∧ upM M ≤ 33619968 := by
  have w := hL.1
  have hd' : ∀ s, 0 ≤ DM M 5 s ∧ DM M 5 s ≤ 65536 := DM_rng hL 5
  have e : upM M = sm (fun j => if stM M ≤ j - 256 then DM M 5 (j - 256) else 0) 513 := rfl
  have h2 := sm_bd (f := fun j => if stM M ≤ j - 256 then DM M 5 (j - 256) else 0) (a := 0) (b := 65536) (n := 513) (fun i _ _ => by
    have := hd' (i - 256)
    split <;> omega)
  omega
theorem ot_up2 {P M1 M2 : Mem} (h : OT P M1) {i a : Int} (h2 : OT (mu M1 128 i a) M2) (v : Int) : upM (mu M2 128 i v) = upM (mu P 128 i v) := by
  have e29 := h2.fld (k := 29) (by omega)
  have e127 := h2.row (o := 127) (by omega)
  have e128 := h2.row (o := 128) (by omega)
  have e129 := h2.row (o := 129) (by omega)
  rw [mu_o M1 _ _ (by decide)] at e29 e127 e129
  refine up_cg ?_ ?_ ?_ ?_
  · rw [mu_o M2 _ _ (by decide), mu_o P _ _ (by decide), e29]; exact h.fld (by omega)
  · rw [mu_o M2 _ _ (by decide), mu_o P _ _ (by decide), e127]; exact h.row (by omega)
  · funext j; simp only [mu]; rw [e128]; simp only [mu]; rw [h.row (o := 128) (by omega)]
    by_cases c : j = i
    · simp [c]
    · simp [c]
  · rw [mu_o M2 _ _ (by decide), mu_o P _ _ (by decide), e129]; exact h.row (by omega)
theorem ot_back {P M1 M2 M3 : Mem} (h : OT P M1) {i a b : Int} (h2 : OT (mu M1 128 i a) M2) (h3 : OT (mu M2 128 i b) M3) : OT P (mu M3 128 i (P 128 i)) := fun o k n => by
  have e1 := h o k n
  have e2 := h2 o k n
  have e3 := h3 o k n
  by_cases c : o = 128 ∧ k = i
  · obtain ⟨rfl, rfl⟩ := c; rw [mu_same]
  · simp only [mu] at e2 e3 ⊢
    rw [if_neg c] at e2 e3 ⊢
    rw [e3, e2, e1]
theorem DN.e_nvV {M M1 : Mem} (h : DN M M1) : nvV M1 = nvV M := by
  funext m w; have e := h.e_prof m w (-1); unfold nvV; rw [e.1, e.2.1, e.2.2.1, e.2.2.2.1, e.2.2.2.2]
theorem SM.e_nvV {M M1 : Mem} (h : SM M M1) : nvV M1 = nvV M := by
  funext m w; have e := h.e_prof m w (-1); unfold nvV; rw [e.1, e.2.1, e.2.2.1, e.2.2.2.1, e.2.2.2.2]
theorem dif_rng {a b : Int} (ha : 0 ≤ a ∧ a ≤ 33619968) (hb : 0 ≤ b ∧ b ≤ 33619968) : 0 ≤ dif a b ∧ dif a b ≤ 33619968 := by unfold dif; split <;> omega

