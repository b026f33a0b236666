/-! All hands' choices, one hand after another. -/
def DM (M : Mem) (g : Nat) (s : Int) : Int := DP (M 114 29).toNat one1 (M 127) (M 128) (M 129) g s
def kG (M : Mem) (g : Int) : Int := kP one1 (M 127) (M 129) g (M 114 29).toNat
def WG (M : Mem) (g x : Int) : Int := FH M g (M 114 29).toNat (kG M g) x
def pcM (M : Mem) (g : Int) (n : Nat) (u : Int) : Int := sm (fun j => DM M g.toNat (j - 256) * WG M g (u - 256 - (j - 256))) n
def pcT (M : Mem) (g s t u : Int) : Int := pcM M g s.toNat u + (if u - s + 256 < t then DM M g.toNat (s - 256) * WG M g (u - s) else 0)
theorem OT.e_kG {M M1 : Mem} (h : OT M M1) : kG M1 = kG M := by
  funext g
  show kP _ _ _ _ _ = kP _ _ _ _ _
  rw [h.fld (k := 29) (by omega), h.row (o := 127) (by omega), h.row (o := 129) (by omega)]
theorem OT.e_tabW {M M1 M2 : Mem} (h : OT M M1) {g : Int} {i : Nat} (hT : tabW M1 M2 g i) : tabW M M2 g i := fun k s a b c d => by rw [hT k s a b c d, h.e_FH]
theorem tabW.mu {M M1 : Mem} {g : Int} {i : Nat} (h : tabW M M1 g i) {o : Int} (k v : Int) (ho : o ≠ 131) : tabW M (mu M1 o k v) g i := fun q s a b c d => by
  rw [mu_o M1 k v (fun e => ho e.symm)]; exact h q s a b c d
theorem kG_rng {M : Mem} (hL : LK M) (g : Int) : 0 ≤ kG M g ∧ kG M g ≤ 16 := by
  have a := kP_rng one1 (M 127) (M 129) g (M 114 29).toNat
  have b := cP_rng one1 (M 127) g (M 114 29).toNat
  have c := hL.1
  unfold kG; omega
theorem BP_le (mb hd : Int → Int) (g : Int) : ∀ i : Nat, BP mb hd g i ≤ 2 ^ i
  | 0 => by rw [BP]; simp
  | i + 1 => by
    have h1 := BP_le mb hd g i
    have h2 := BP_pos mb hd g i
    rw [BP, Int.pow_succ]
    split <;> omega
theorem DM_rng {M : Mem} (hL : LK M) (g : Nat) (s : Int) : 0 ≤ DM M g s ∧ DM M g s ≤ 65536 := DP_bd (by have := hL.1; omega) _ _ _ _ g s
theorem WG_rng {M : Mem} (hL : LK M) (g x : Int) : 0 ≤ WG M g x ∧ WG M g x ≤ 65536 := by
  have c := hL.1
  have hd : ∀ s, 0 ≤ del s ∧ del s ≤ 1 := fun s => by unfold del; split <;> omega
  have h1 := FP_pos (mb := one1) (hd := M 127) (a := agM M) (g := g) (fun s => (hd s).1) (M 114 29).toNat (kG M g) x
  have h2 := FP_bd (mb := one1) (hd := M 127) (a := agM M) (g := g) hd (M 114 29).toNat (kG M g) x
  have h3 := BP_le one1 (M 127) g (M 114 29).toNat
  have h4 := p2i_le (show (M 114 29).toNat ≤ 16 by omega)
  have h5 : (2 : Int) ^ 16 = 65536 := rfl
  exact ⟨h1, by show FP _ _ _ _ _ _ _ _ ≤ _; omega⟩
theorem WG_out {M : Mem} (hL : LK M) {g x : Int} (h : x < -256 ∨ 256 < x) : WG M g x = 0 := by
  have c := kG_rng hL g
  exact FH_supp hL (Nat.le_refl _) (by omega)
theorem DM_out {M : Mem} (hL : LK M) {g : Nat} {s : Int} (h : s < -256 ∨ 256 < s) : DM M g s = 0 := by
  have w := hL.1
  have c := KP_rng one1 (M 127) (M 129) g (M 114 29).toNat
  exact DP_supp (by omega) _ _ _ _ g s (by omega)
theorem tot_in {M : Mem} (hL : LK M) {g s t : Int} (hg : 0 ≤ g) (hD : 0 < DM M g.toNat (s - 256)) (hW : 0 < WG M g (t - 256)) : 0 ≤ s + t - 256 ∧ s + t - 256 < 513 := by
  have w := hL.1
  have c := KP_rng one1 (M 127) (M 129) (g.toNat + 1) (M 114 29).toNat
  have e : KP one1 (M 127) (M 129) (M 114 29).toNat (g.toNat + 1) = KP one1 (M 127) (M 129) (M 114 29).toNat g.toNat + kG M g := by
    show _ + kP one1 (M 127) (M 129) ((g.toNat : Nat) : Int) _ = _
    rw [Int.toNat_of_nonneg hg]; rfl
  have a1 : -(15 * KP one1 (M 127) (M 129) (M 114 29).toNat g.toNat) ≤ s - 256 ∧ s - 256 ≤ 15 * KP one1 (M 127) (M 129) (M 114 29).toNat g.toNat := by
    refine Classical.byContradiction fun n => ?_
    have := DP_supp (n := (M 114 29).toNat) (by omega) one1 (M 127) (M 128) (M 129) g.toNat (s - 256) (by omega)
    unfold DM at hD; omega
  have a2 : -(15 * kG M g) ≤ t - 256 ∧ t - 256 ≤ 15 * kG M g := by
    refine Classical.byContradiction fun n => ?_
    have := FH_supp hL (g := g) (i := (M 114 29).toNat) (Nat.le_refl _) (k := kG M g) (s := t - 256) (by omega)
    unfold WG at hW; omega
  omega
theorem DM_s {M : Mem} (hL : LK M) {g : Int} (hg : 0 ≤ g) (u : Int) : DM M (g + 1).toNat (u - 256) = pcM M g (513 : Int).toNat u := by
  rw [show (g + 1).toNat = g.toNat + 1 by omega]
  have h := FP_cv (mb := one1) (hd := M 127) (a := agM M) (g := g) (d := DM M g.toNat) (fun s h => DM_out hL h) (M 114 29).toNat (kG M g) (u - 256)
  have e : DM M (g.toNat + 1) (u - 256) = FP one1 (M 127) (agM M) ((g.toNat : Nat) : Int) (DM M g.toNat) (M 114 29).toNat (kP one1 (M 127) (M 129) ((g.toNat : Nat) : Int) (M 114 29).toNat) (u - 256) := rfl
  rw [e, Int.toNat_of_nonneg hg]
  exact h
/-- a stretch of a row holds what f says -/
def RT (f : Int → Int) (M : Mem) (o a b : Int) : Prop := ∀ j, a ≤ j → j < b → M o j = f j
theorem RT.ot {f : Int → Int} {M : Mem} {o a b : Int} (h : RT f M o a b) {o' : Int} (k v : Int) (ho : o ≠ o') : RT f (mu M o' k v) o a b := fun j x y => by rw [mu_o M k v ho]; exact h j x y
theorem RT.up {f : Int → Int} {M : Mem} {o s v : Int} (h : RT f M o 0 s) (hv : v = f s) : RT f (mu M o s v) o 0 (s + 1) := fun j x y => by
  by_cases e : j = s
  · subst e; rw [mu_same, hv]
  · rw [mu_k M o v e]; exact h j x (by omega)
theorem RT.down {f : Int → Int} {M : Mem} {o s b : Int} (v : Int) (h : RT f M o s b) : RT f (mu M o s v) o (s + 1) b := fun j x y => by
  rw [mu_k M o v (by omega)]; exact h j (by omega) y
theorem RT.eq {f f' : Int → Int} {M : Mem} {o a b : Int} (h : RT f M o a b) (e : ∀ j, a ≤ j → j < b → f j = f' j) : RT f' M o a b := fun j x y => by rw [h j x y, e j x y]
theorem pcM_s (M : Mem) (g : Int) {s : Int} (h : 0 ≤ s) (u : Int) : pcM M g (s + 1).toNat u = pcM M g s.toNat u + DM M g.toNat (s - 256) * WG M g (u - s) := by
  unfold pcM
  rw [sm_s _ h, show u - 256 - (s - 256) = u - s by omega]
theorem pcT_0 {M : Mem} (hL : LK M) {g s u : Int} : pcM M g s.toNat u = pcT M g s 0 u := by
  unfold pcT
  by_cases c : u - s + 256 < 0
  · rw [if_pos c, WG_out hL (by omega), Int.mul_zero, Int.add_zero]
  · rw [if_neg c, Int.add_zero]
theorem pcT_end {M : Mem} (hL : LK M) {g s u : Int} (hs : 0 ≤ s) : pcT M g s 513 u = pcM M g (s + 1).toNat u := by
  rw [pcM_s M g hs]
  unfold pcT
  by_cases c : u - s + 256 < 513
  · rw [if_pos c]
  · rw [if_neg c, WG_out hL (by omega), Int.mul_zero]
theorem pcT_dead {M : Mem} {g s t u : Int} (hs : 0 ≤ s) (hz : DM M g.toNat (s - 256) = 0) : pcT M g s t u = pcM M g (s + 1).toNat u := by
  rw [pcM_s M g hs]
  unfold pcT
  rw [hz, Int.zero_mul]
  split <;> rfl
theorem pcT_skip {M : Mem} {g s t u : Int} (hz : WG M g (t - 256) = 0) : pcT M g s t u = pcT M g s (t + 1) u := by
  unfold pcT
  by_cases e : u - s + 256 = t
  · rw [if_neg (by omega), if_pos (by omega), show u - s = t - 256 by omega, hz, Int.mul_zero]
  · by_cases c : u - s + 256 < t
    · rw [if_pos c, if_pos (by omega)]
    · rw [if_neg c, if_neg (by omega)]
theorem pcT_add {M M1 : Mem} {g s t v : Int} (h : RT (pcT M g s t) M1 132 0 513) (hi : 0 ≤ s + t - 256 ∧ s + t - 256 < 513) (hv : v = M1 132 (s + t - 256) + DM M g.toNat (s - 256) * WG M g (t - 256)) : RT (pcT M g s (t + 1)) (mu M1 132 (s + t - 256) v) 132 0 513 := fun u a b => by
  by_cases e : u = s + t - 256
  · subst e
    rw [mu_same, hv, h _ hi.1 hi.2]
    unfold pcT
    rw [if_neg (by omega), if_pos (by omega), show s + t - 256 - s = t - 256 by omega, Int.add_zero]
  · rw [mu_k M1 132 v e, h u a b]
    unfold pcT
    by_cases c : u - s + 256 < t
    · rw [if_pos c, if_pos (by omega)]
    · rw [if_neg c, if_neg (by omega)]
def lowM (M : Mem) : Int := lowP (M 114 29).toNat one1 (M 127) (M 128) (M 129)
def upM (M : Mem) : Int := upP (M 114 29).toNat one1 (M 127) (M 128) (M 129)
theorem stM_rng {M : Mem} (hL : LK M) : -240 ≤ stM M ∧ stM M ≤ 240 := by
  have w := hL.1
  have h := sm_bd (f := fun i => if one1 i = 1 ∧ M 129 i = 1 then agM M i else 0) (a := -15) (b := 15) (n := (M 114 29).toNat) (fun i h0 h1 => by
    have := agM_rng hL h0 (by omega : i < M 114 29)
    show -15 ≤ (if _ then _ else _) ∧ (if _ then _ else _) ≤ _
    split <;> omega)
  have e : stM M = sm (fun i => if one1 i = 1 ∧ M 129 i = 1 then agM M i else 0) (M 114 29).toNat := rfl
  omega

