/-! The laid rows as a profile over the pictures' slots. -/
def PR (M1 : Mem) (n : Int) (mb hd vl nr : Int → Int) : Prop := (0 ≤ n ∧ n ≤ 16) ∧ (∀ p, mb p = 0 ∨ mb p = 1) ∧ M1 114 29 = sm mb n.toNat ∧ LK M1 ∧
  ∀ p, 0 ≤ p → p < n → mb p = 1 → M1 127 (sm mb p.toNat) = hd p ∧ M1 128 (sm mb p.toNat) = vl p ∧ M1 129 (sm mb p.toNat) = nr p ∧ M1 130 (sm mb p.toNat) = p
theorem sm_pack {mb : Int → Int} (h01 : ∀ p, mb p = 0 ∨ mb p = 1) (F : Int → Int) : ∀ n : Nat, sm F (sm mb n).toNat = sm (fun p => if mb p = 1 then F (sm mb p.toNat) else 0) n
  | 0 => rfl
  | n + 1 => by
    have e : sm mb (n + 1) = sm mb n + mb n := rfl
    have r := (cnt_rng (n := n) h01).1
    have e2 : sm (fun p => if mb p = 1 then F (sm mb p.toNat) else 0) (n + 1) = sm (fun p => if mb p = 1 then F (sm mb p.toNat) else 0) n + (if mb (n : Int) = 1 then F (sm mb ((n : Int)).toNat) else 0) := rfl
    rw [e2, ← sm_pack h01 F n, e]
    rcases h01 n with c | c
    · rw [c, if_neg (by omega), Int.add_zero, Int.add_zero]
    · rw [c, if_pos rfl, show (sm mb n + 1).toNat = (sm mb n).toNat + 1 by omega, sm, Int.toNat_of_nonneg r, show ((n : Int)).toNat = n by omega]
theorem PR.ag {M1 : Mem} {n : Int} {mb hd vl nr : Int → Int} (h : PR M1 n mb hd vl nr) {p : Int} (h0 : 0 ≤ p) (h1 : p < n) (hm : mb p = 1) : agM M1 (sm mb p.toNat) = agP n.toNat mb hd vl p := by
  obtain ⟨hn, h01, hc, hL, hr⟩ := h
  unfold agM agP
  rw [hc, sm_pack h01]
  refine sm_congr (fun q q0 q1 => ?_)
  have hp := hr p h0 h1 hm
  by_cases c : mb q = 1
  · have hq := hr q q0 (by omega) c
    rw [if_pos c, hp.1, hp.2.1, hq.1, hq.2.1]
    by_cases d : hd q = hd p
    · rw [if_pos ⟨rfl, d⟩, if_pos ⟨c, d⟩]
    · rw [if_neg (fun z => d z.2), if_neg (fun z => d z.2)]
  · rw [if_neg c, if_neg (fun z => c z.1)]
theorem PR.st {M1 : Mem} {n : Int} {mb hd vl nr : Int → Int} (h : PR M1 n mb hd vl nr) : stM M1 = stP n.toNat mb hd vl nr := by
  have hx := h
  obtain ⟨hn, h01, hc, hL, hr⟩ := hx
  have e : stM M1 = sm (fun i => if one1 i = 1 ∧ M1 129 i = 1 then agM M1 i else 0) (M1 114 29).toNat := rfl
  rw [e, hc, sm_pack h01]
  unfold stP
  refine sm_congr (fun q q0 q1 => ?_)
  by_cases c : mb q = 1
  · have hq := hr q q0 (by omega) c
    rw [if_pos c, hq.2.2.1, h.ag q0 (by omega) c]
    by_cases d : nr q = 1
    · rw [if_pos ⟨rfl, d⟩, if_pos ⟨c, d⟩]
    · rw [if_neg (fun z => d z.2), if_neg (fun z => d z.2)]
  · rw [if_neg c, if_neg (fun z => c z.1)]
theorem PR.kk {M1 : Mem} {n : Int} {mb hd vl nr : Int → Int} (h : PR M1 n mb hd vl nr) (g : Int) : kP one1 (M1 127) (M1 129) g (M1 114 29).toNat = kP mb hd nr g n.toNat := by
  obtain ⟨hn, h01, hc, hL, hr⟩ := h
  unfold kP
  rw [hc, sm_pack h01]
  refine sm_congr (fun q q0 q1 => ?_)
  by_cases c : mb q = 1
  · have hq := hr q q0 (by omega) c
    rw [if_pos c, hq.1, hq.2.2.1]
    by_cases d : hd q = g ∧ nr q = 1
    · rw [if_pos ⟨rfl, d⟩, if_pos ⟨c, d⟩]
    · rw [if_neg (fun z => d z.2), if_neg (fun z => d z.2)]
  · rw [if_neg c, if_neg (fun z => c z.1)]
theorem PR.ff {M1 : Mem} {n : Int} {mb hd vl nr : Int → Int} (h : PR M1 n mb hd vl nr) (g : Int) (d : Int → Int) : ∀ i : Nat, i ≤ n.toNat → ∀ k s, FP one1 (M1 127) (agM M1) g d (sm mb i).toNat k s = FP mb hd (agP n.toNat mb hd vl) g d i k s
  | 0, _, k, s => rfl
  | i + 1, hi, k, s => by
    have hx := h
    obtain ⟨hn, h01, hc, hL, hr⟩ := hx
    have ih := h.ff g d i (by omega)
    have e : sm mb (i + 1) = sm mb i + mb i := rfl
    have r := (cnt_rng (n := i) h01).1
    rw [FP, e]
    rcases h01 i with c | c
    · rw [c, Int.add_zero, ih, if_neg (fun z => by omega)]
    · have hq := hr i (by omega) (by omega) c
      have ha := h.ag (p := i) (by omega) (by omega) c
      rw [show ((i : Int)).toNat = i by omega] at hq ha
      rw [c, show (sm mb i + 1).toNat = (sm mb i).toNat + 1 by omega, FP, Int.toNat_of_nonneg r, hq.1, ha, ih, ih]
      by_cases e2 : hd i = g
      · rw [if_pos ⟨rfl, e2⟩, if_pos ⟨rfl, e2⟩]
      · rw [if_neg (fun z => e2 z.2), if_neg (fun z => e2 z.2)]
theorem PR.dd {M1 : Mem} {n : Int} {mb hd vl nr : Int → Int} (h : PR M1 n mb hd vl nr) : ∀ g : Nat, DM M1 g = DP n.toNat mb hd vl nr g
  | 0 => rfl
  | g + 1 => by
    funext s
    have ih := h.dd g
    have e : DM M1 (g + 1) s = FP one1 (M1 127) (agM M1) g (DM M1 g) (M1 114 29).toNat (kP one1 (M1 127) (M1 129) g (M1 114 29).toNat) s := rfl
    have e2 := h.2.2.1
    rw [e, h.kk, e2, h.ff g _ _ (Nat.le_refl _), ih, DP]
theorem PR.low {M1 : Mem} {n : Int} {mb hd vl nr : Int → Int} (h : PR M1 n mb hd vl nr) : lowM M1 = lowP n.toNat mb hd vl nr := by
  have e : lowM M1 = sm (fun j => DM M1 5 (j - 256)) 513 := rfl
  rw [e, h.dd]; rfl
theorem PR.up {M1 : Mem} {n : Int} {mb hd vl nr : Int → Int} (h : PR M1 n mb hd vl nr) : upM M1 = upP n.toNat mb hd vl nr := by
  have e : upM M1 = sm (fun j => if stM M1 ≤ j - 256 then DM M1 5 (j - 256) else 0) 513 := rfl
  rw [e, h.dd, h.st]; rfl
def hdV (M : Mem) (p : Int) : Int := M 124 (6 * p + 1)
noncomputable def nrV (M : Mem) (w p : Int) : Int := b2i (nrS M (M 124 (6 * p)) (M 124 (6 * p + 2)) w)
theorem LkU.pr {M M1 : Mem} {m w but : Int} (hW : WV M) (h : LkU M M1 m w but (M 114 23)) : PR M1 (M 114 23) (mbL M but) (hdV M) (vlu M m) (nrV M w) := by
  have hn := hW.n
  exact ⟨by omega, mbL_01 M but, h.1, h.2.1, fun p a b c => h.2.2 p a b c⟩
noncomputable def stV (M : Mem) (m w but : Int) : Int := stP (M 114 23).toNat (mbL M but) (hdV M) (vlu M m) (nrV M w)
noncomputable def lowV (M : Mem) (m w but : Int) : Int := lowP (M 114 23).toNat (mbL M but) (hdV M) (vlu M m) (nrV M w)
noncomputable def upV (M : Mem) (m w but : Int) : Int := upP (M 114 23).toNat (mbL M but) (hdV M) (vlu M m) (nrV M w)
theorem SM.e_nrV {M M1 : Mem} (h : SM M M1) (w : Int) : nrV M1 w = nrV M w := by
  funext p
  unfold nrV
  rw [h.e_nrS, h.row (o := 124) (by omega)]
theorem SM.e_prof {M M1 : Mem} (h : SM M M1) (m w but : Int) : mbL M1 but = mbL M but ∧ hdV M1 = hdV M ∧ vlu M1 m = vlu M m ∧ nrV M1 w = nrV M w ∧ M1 114 23 = M 114 23 := by
  refine ⟨?_, ?_, ?_, h.e_nrV w, h.fld (k := 23) (by omega)⟩
  · funext p; unfold mbL; rw [h.row (o := 124) (by omega)]
  · funext p; unfold hdV; rw [h.row (o := 124) (by omega)]
  · rw [h.e_vlu]
theorem SM.e_stV {M M1 : Mem} (h : SM M M1) : stV M1 = stV M := by
  funext m w but; have e := h.e_prof m w but; unfold stV; rw [e.1, e.2.1, e.2.2.1, e.2.2.2.1, e.2.2.2.2]
theorem SM.e_lowV {M M1 : Mem} (h : SM M M1) : lowV M1 = lowV M := by
  funext m w but; have e := h.e_prof m w but; unfold lowV; rw [e.1, e.2.1, e.2.2.1, e.2.2.2.1, e.2.2.2.2]
theorem SM.e_upV {M M1 : Mem} (h : SM M M1) : upV M1 = upV M := by
  funext m w but; have e := h.e_prof m w but; unfold upV; rw [e.1, e.2.1, e.2.2.1, e.2.2.2.1, e.2.2.2.2]
/-- how large the counts are -/
theorem low_rng {M1 : Mem} {n : Int} {mb hd vl nr : Int → Int} (h : PR M1 n mb hd vl nr) : 0 ≤ upP n.toNat mb hd vl nr ∧ upP n.toNat mb hd vl nr ≤ lowP n.toNat mb hd vl nr ∧ lowP n.toNat mb hd vl nr ≤ 33619968 := by
  have hn := h.1
  have hd' : ∀ s, 0 ≤ DP n.toNat mb hd vl nr 5 s ∧ DP n.toNat mb hd vl nr 5 s ≤ 65536 := fun s => DP_bd (by omega) mb hd vl nr 5 s
  have h1 := sm_bd (f := fun j => DP n.toNat mb hd vl nr 5 (j - 256)) (a := 0) (b := 65536) (n := 513) (fun i _ _ => hd' _)
  have h2 := sm_bd (f := fun j => if stP n.toNat mb hd vl nr ≤ j - 256 then DP n.toNat mb hd vl nr 5 (j - 256) else 0) (a := 0) (b := 65536) (n := 513) (fun i _ _ => by
    have := hd' (i - 256)
    split <;> omega)
  have h3 := sm_bd (f := fun j => DP n.toNat mb hd vl nr 5 (j - 256) + -(if stP n.toNat mb hd vl nr ≤ j - 256 then DP n.toNat mb hd vl nr 5 (j - 256) else 0)) (a := 0) (b := 65536) (n := 513) (fun i _ _ => by
    have := hd' (i - 256)
    split <;> omega)
  have hneg : ∀ (f : Int → Int) (k : Nat), sm (fun i => -f i) k = -sm f k := by
    intro f k
    induction k with
    | zero => rfl
    | succ k ih => rw [sm, sm, ih]; omega
  rw [sm_add, hneg (fun j => if stP n.toNat mb hd vl nr ≤ j - 256 then DP n.toNat mb hd vl nr 5 (j - 256) else 0)] at h3
  unfold upP lowP
  omega
theorem sm_nn {f : Int → Int} (hf : ∀ i : Int, 0 ≤ f i) : ∀ n : Nat, 0 ≤ sm f n
  | 0 => Int.le_refl _
  | n + 1 => by
    have h1 := hf n
    have h2 := sm_nn hf n
    rw [sm]; omega
theorem sm_ge {f : Int → Int} (hf : ∀ i : Int, 0 ≤ f i) {p : Int} (h0 : 0 ≤ p) : ∀ {n : Nat}, p < n → f p ≤ sm f n
  | 0, h => by omega
  | n + 1, h => by
    rw [sm]
    have h1 := hf n
    by_cases e : p = n
    · have h2 := sm_nn hf n
      rw [e]; omega
    · have := sm_ge hf h0 (n := n) (by omega)
      omega
theorem up_pos {M1 : Mem} {n : Int} {mb hd vl nr : Int → Int} (h : PR M1 n mb hd vl nr) (hh : ∀ i : Int, 0 ≤ i → i < n → 0 ≤ hd i ∧ hd i ≤ 4) : 1 ≤ upP n.toNat mb hd vl nr := by
  have hn := h.1
  have hs := stM_rng h.2.2.2.1
  rw [h.st] at hs
  have h1 := DP_one n.toNat mb hd vl nr 5
  rw [st_TT5 n.toNat mb hd vl nr (fun i a b _ => hh i a (by omega))] at h1
  have h2 := sm_ge (f := fun j => if stP n.toNat mb hd vl nr ≤ j - 256 then DP n.toNat mb hd vl nr 5 (j - 256) else 0) (fun i => by
    have := DP_pos n.toNat mb hd vl nr 5 (i - 256)
    split <;> omega) (p := stP n.toNat mb hd vl nr + 256) (by omega) (n := 513) (by omega)
  rw [show stP n.toNat mb hd vl nr + 256 - 256 = stP n.toNat mb hd vl nr by omega, if_pos (Int.le_refl _)] at h2
  unfold upP
  omega
theorem LkU.hh {M : Mem} (hW : WV M) : ∀ i : Int, 0 ≤ i → i < M 114 23 → 0 ≤ hdV M i ∧ hdV M i ≤ 4 := fun i a b => by
  have := hW.row a b
  unfold hdV; omega
theorem odds_ok {M M1 M2 M3 : Mem} {m w but : Int} (hW : WV M) (hS : SM M M1) (h1 : SM M1 M2 ∧ LkU M1 M2 m w but (M1 114 23)) (h2 : OT M2 M3 ∧ M3 114 38 = lowM M2 ∧ M3 114 37 = upM M2) : SM M M3 ∧ M3 114 38 = lowV M m w but ∧ M3 114 37 = upV M m w but ∧ (1 ≤ upV M m w but ∧ upV M m w but ≤ lowV M m w but ∧ lowV M m w but ≤ 33619968) := by
  have p := h1.2.pr (hS.WV hW)
  have e1 : lowM M2 = lowV M1 m w but := p.low
  have e2 : upM M2 = upV M1 m w but := p.up
  have r1 : upV M1 m w but ≤ lowV M1 m w but ∧ lowV M1 m w but ≤ 33619968 := (low_rng p).2
  have r2 : 1 ≤ upV M1 m w but := up_pos p (LkU.hh (hS.WV hW))
  rw [hS.e_lowV] at e1 r1
  rw [hS.e_upV] at e2 r1 r2
  exact ⟨(hS.trans h1.1).trans h2.1.sm, by rw [h2.2.1, e1], by rw [h2.2.2, e2], r2, r1.1, r1.2⟩
theorem mulr {x y : Int} (hx : 0 ≤ x ∧ x ≤ 33619968) (hy : 0 ≤ y ∧ y ≤ 33619968) : 0 ≤ x * y ∧ x * y ≤ 1130302248321024 := by
  have a := Int.mul_le_mul hx.2 hy.2 hy.1 (by omega)
  have b := Int.mul_nonneg hx.1 hy.1
  omega
/-- the least share of all -/
noncomputable def pdS (M : Mem) (m x : Int) (ab : Int × Int) : Int × Int := if upV M m x (-1) * ab.2 < ab.1 * lowV M m x (-1) then (upV M m x (-1), lowV M m x (-1)) else ab
noncomputable def pdW (M : Mem) (m : Int) (ab : Int × Int) : Nat → Int × Int
  | 0 => ab
  | k + 1 => pdS M m k (pdW M m ab k)
noncomputable def pdM (M : Mem) (w : Int) : Nat → Int × Int
  | 0 => (1, 1)
  | k + 1 => pdW M k (pdM M w k) (w + 1).toNat
theorem pdW_s (M : Mem) (m : Int) (ab : Int × Int) {x : Int} (h : 0 ≤ x) : pdW M m ab (x + 1).toNat = pdS M m x (pdW M m ab x.toNat) := by
  rw [show (x + 1).toNat = x.toNat + 1 by omega, pdW, Int.toNat_of_nonneg h]
theorem pdM_s (M : Mem) (w : Int) {m : Int} (h : 0 ≤ m) : pdM M w (m + 1).toNat = pdW M m (pdM M w m.toNat) (w + 1).toNat := by
  rw [show (m + 1).toNat = m.toNat + 1 by omega, pdM, Int.toNat_of_nonneg h]

