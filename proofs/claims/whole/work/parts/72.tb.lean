/-! The class's table of choices. -/
def AF (M M1 : Mem) : Prop := ∀ o k : Int, ¬ (104 ≤ o ∧ o ≤ 112) → M1 o k = M o k
theorem AF.rf (M : Mem) : AF M M := fun _ _ _ => rfl
theorem AF.tr {M M1 M2 : Mem} (h : AF M M1) (h2 : AF M1 M2) : AF M M2 := fun o k n => (h2 o k n).trans (h o k n)
theorem AF.pu {M M1 : Mem} (h : AF M M1) {o : Int} (k v : Int) (ho : 104 ≤ o ∧ o ≤ 112) : AF M (mu M1 o k v) := fun o' k' n => by rw [mu_o M1 _ _ (by omega)]; exact h o' k' n
/-- the frame of one hand, of a dealing -/
def HF (M M1 : Mem) : Prop := ∀ o k : Int, ¬ ((104 ≤ o ∧ o ≤ 112) ∨ (o = 100 ∧ k = 8)) → M1 o k = M o k
def OF (M M1 : Mem) : Prop := ∀ o k : Int, ¬ ((104 ≤ o ∧ o ≤ 112) ∨ (o = 100 ∧ (k = 2 ∨ k = 3 ∨ k = 4 ∨ k = 8))) → M1 o k = M o k
theorem HF.rf (M : Mem) : HF M M := fun _ _ _ => rfl
theorem HF.tr {M M1 M2 : Mem} (h : HF M M1) (h2 : HF M1 M2) : HF M M2 := fun o k n => (h2 o k n).trans (h o k n)
theorem AF.hf {M M1 : Mem} (h : AF M M1) : HF M M1 := fun o k n => h o k (by omega)
theorem HF.of {M M1 : Mem} (h : HF M M1) : OF M M1 := fun o k n => h o k (by omega)
theorem OF.rf (M : Mem) : OF M M := fun _ _ _ => rfl
theorem OF.tr {M M1 M2 : Mem} (h : OF M M1) (h2 : OF M1 M2) : OF M M2 := fun o k n => (h2 o k n).trans (h o k n)
theorem OF.pu {M M1 : Mem} (h : OF M M1) {k : Int} (v : Int) (hk : k = 2 ∨ k = 3 ∨ k = 4 ∨ k = 8) : OF M (mu M1 100 k v) := fun o' k' n => by
  show (if o' = 100 ∧ k' = k then v else M1 o' k') = _
  rw [if_neg (by omega)]; exact h o' k' n
theorem OF.xs {M M1 : Mem} (h : OF M M1) : XS M M1 := fun o k n => h o k (by omega)
theorem OF.row {M M1 : Mem} (h : OF M M1) {o : Int} (ho : o ≠ 100 ∧ ¬ (104 ≤ o ∧ o ≤ 112)) : M1 o = M o := by funext k; exact h o k (by omega)
theorem HF.row {M M1 : Mem} (h : HF M M1) {o : Int} (ho : o ≠ 100 ∧ ¬ (104 ≤ o ∧ o ≤ 112)) : M1 o = M o := by funext k; exact h o k (by omega)
theorem AF.row {M M1 : Mem} (h : AF M M1) {o : Int} (ho : ¬ (104 ≤ o ∧ o ≤ 112)) : M1 o = M o := by funext k; exact h o k ho
def tbX (M1 : Mem) (F : Int → Int → Int) (f : Int) : Prop := ∀ k s, 0 ≤ k → k ≤ f → 0 ≤ s → s < 129 → M1 (104 + k) s = F k (s - 64)
def upF (F : Int → Int → Int) (own w k x : Int) : Int := if w < k then F k x + F (k - 1) (x - own) else F k x
def tbY (M1 : Mem) (F : Int → Int → Int) (own w su f : Int) : Prop := ∀ k s, 0 ≤ k → k ≤ f → 0 ≤ s → s < 129 → M1 (104 + k) s = if k = w then F w (s - 64) + (if s - own < su then F (w - 1) (s - 64 - own) else 0) else upF F own w k (s - 64)
theorem tbX_in {M1 : Mem} {F : Int → Int → Int} {own f : Int} (h : tbX M1 F f) : tbX M1 (upF F own f) f := fun k s k0 k1 s0 s1 => by
  unfold upF
  rw [if_neg (by omega)]; exact h k s k0 k1 s0 s1
theorem tbY_in {M1 : Mem} {F : Int → Int → Int} {own w f r : Int} (h : tbX M1 (upF F own w) f) (hs : ∀ x, x < -r → F (w - 1) x = 0) : tbY M1 F own w (64 - r) f := fun k s k0 k1 s0 s1 => by
  rw [h k s k0 k1 s0 s1]
  by_cases e : k = w
  · subst e
    rw [if_pos rfl]
    have z : upF F own k k (s - 64) = F k (s - 64) := by unfold upF; rw [if_neg (by omega)]
    rw [z]
    by_cases c : s - own < 64 - r
    · rw [if_pos c, hs _ (by omega), Int.add_zero]
    · rw [if_neg c, Int.add_zero]
  · rw [if_neg e]
theorem tbY_skip {M1 : Mem} {F : Int → Int → Int} {own w su f : Int} (h : tbY M1 F own w su f) (hz : F (w - 1) (su - 64) = 0 ∨ su + own < 0 ∨ 129 ≤ su + own) : tbY M1 F own w (su + 1) f := fun k s k0 k1 s0 s1 => by
  rw [h k s k0 k1 s0 s1]
  by_cases e : k = w
  · rw [if_pos e, if_pos e]
    by_cases c : s - own < su
    · rw [if_pos c, if_pos (by omega)]
    · rw [if_neg c]
      by_cases d : s - own = su
      · rw [if_pos (by omega), show s - 64 - own = su - 64 by omega]
        rcases hz with q | q
        · rw [q]
        · omega
      · rw [if_neg (by omega)]
  · rw [if_neg e, if_neg e]
theorem tbY_row {M1 : Mem} {F : Int → Int → Int} {own w su f : Int} (h : tbY M1 F own w su f) (hw : 1 ≤ w ∧ w ≤ f) {s : Int} (s0 : 0 ≤ s) (s1 : s < 129) : M1 (104 + (w - 1)) s = F (w - 1) (s - 64) := by
  rw [h (w - 1) s (by omega) (by omega) s0 s1, if_neg (by omega)]
  unfold upF; rw [if_neg (by omega)]
theorem tbY_s {M1 : Mem} {F : Int → Int → Int} {own w su f : Int} (h : tbY M1 F own w su f) (hw : 1 ≤ w ∧ w ≤ f) (s0 : 0 ≤ su) (s1 : su < 129) (t0 : 0 ≤ su + own) (t1 : su + own < 129) : tbY (mu M1 (104 + w) (su + own) (M1 (104 + w) (su + own) + M1 (104 + (w - 1)) su)) F own w (su + 1) f := fun k s k0 k1 u0 u1 => by
  rw [tbY_row h hw s0 s1, h w (su + own) (by omega) (by omega) t0 t1, if_pos rfl, if_neg (show ¬ su + own - own < su by omega), Int.add_zero]
  by_cases e : k = w ∧ s = su + own
  · obtain ⟨rfl, rfl⟩ := e
    rw [mu_same, if_pos rfl, if_pos (by omega), show su + own - 64 - own = su - 64 by omega]
  · have r : mu M1 (104 + w) (su + own) (F w (su + own - 64) + F (w - 1) (su - 64)) (104 + k) s = M1 (104 + k) s := by
      show (if 104 + k = 104 + w ∧ s = su + own then _ else M1 (104 + k) s) = _
      rw [if_neg (by omega)]
    rw [r, h k s k0 k1 u0 u1]
    by_cases d : k = w
    · rw [if_pos d, if_pos d]
      by_cases c : s - own < su
      · rw [if_pos c, if_pos (by omega)]
      · rw [if_neg c, if_neg (by omega)]
    · rw [if_neg d, if_neg d]
theorem tbY_out {M1 : Mem} {F : Int → Int → Int} {own w su f r : Int} (h : tbY M1 F own w su f) (hw : 1 ≤ w) (hsu : su = 64 + r + 1) (hs : ∀ x, r < x → F (w - 1) x = 0) : tbX M1 (upF F own (w - 1)) f := fun k s k0 k1 s0 s1 => by
  rw [h k s k0 k1 s0 s1]
  unfold upF
  by_cases e : k = w
  · subst e
    rw [if_pos rfl]
    by_cases c : s - own < su
    · rw [if_pos c, if_pos (by omega)]
    · rw [if_neg c, if_pos (by omega), hs _ (by omega)]
  · rw [if_neg e]
    by_cases c : w < k
    · rw [if_pos c, if_pos (by omega)]
    · rw [if_neg c, if_neg (by omega)]
def DK (M : Mem) (cb nb : Int) : Prop := (0 ≤ cb ∧ cb < 65536) ∧ (0 ≤ nb ∧ nb < 65536) ∧ (∀ p, 0 ≤ p → p < 16 → bit cb p = 1 → (0 ≤ M 101 p ∧ M 101 p ≤ 4) ∧ (-1 ≤ M 102 p ∧ M 102 p ≤ 1000000)) ∧ (∀ p, 0 ≤ p → p < 16 → bit nb p = 1 → bit cb p = 1)
theorem DK.cg {M M1 : Mem} {cb nb : Int} (h : DK M cb nb) (h1 : M1 101 = M 101) (h2 : M1 102 = M 102) : DK M1 cb nb := by unfold DK; rw [h1, h2]; exact h
def ofS (M : Mem) (cb h : Int) (n : Nat) : Int := sm (fun p => if bit cb p = 1 ∧ M 101 p = h then 2 ^ p.toNat else 0) n
theorem ofS_0 (M : Mem) (cb h : Int) : ∀ i : Int, ¬ (bit cb i = 1 ∧ M 101 i = h) → (fun p : Int => if bit cb p = 1 ∧ M 101 p = h then (2 : Int) ^ p.toNat else 0) i = 0 := fun i q => if_neg q
theorem ofS_1 (M : Mem) (cb h : Int) : ∀ i : Int, (bit cb i = 1 ∧ M 101 i = h) → (fun p : Int => if bit cb p = 1 ∧ M 101 p = h then (2 : Int) ^ p.toNat else 0) i = 2 ^ i.toNat := fun i q => if_pos q
theorem ofS_rng (M : Mem) (cb h : Int) {n : Nat} (hn : n ≤ 16) : 0 ≤ ofS M cb h n ∧ ofS M cb h n < 65536 := by
  have q := sm_bits (ofS_0 M cb h) (ofS_1 M cb h) n
  have h2 := p2i_le hn
  have h3 : (2 : Int) ^ 16 = 65536 := rfl
  unfold ofS; omega
theorem ofS_bit (M : Mem) (cb h : Int) {p : Int} (h0 : 0 ≤ p) (h1 : p < 16) : bit (ofS M cb h 16) p = 1 ↔ (bit cb p = 1 ∧ M 101 p = h) := by
  have e := sm_bit (ofS_0 M cb h) (ofS_1 M cb h) h0 16 (by omega)
  have e2 : bit (ofS M cb h 16) p = b2i (bit cb p = 1 ∧ M 101 p = h) := e
  rw [e2]
  rcases b2i_eq (b := b2i (bit cb p = 1 ∧ M 101 p = h)) rfl with q | q
  · exact ⟨fun _ => q.2, fun _ => q.1⟩
  · exact ⟨fun z => absurd z (by rw [q.1]; decide), fun z => absurd z q.2⟩
/-- the bits of one hand -/
def MB (M : Mem) (cb mem : Int) (g : Nat) : Prop := (0 ≤ mem ∧ mem < 65536) ∧ ∀ p, 0 ≤ p → p < 16 → (bit mem p = 1 ↔ (bit cb p = 1 ∧ M 101 p = g))
theorem MB.of (M : Mem) (cb : Int) (g : Nat) : MB M cb (ofS M cb g 16) g := ⟨ofS_rng M cb g (by decide), fun p a b => ofS_bit M cb g a b⟩
theorem MB.ag {M : Mem} {cb mem : Int} {g : Nat} (h : MB M cb mem g) {p : Int} (h0 : 0 ≤ p) (h1 : p < 16) (hp : bit mem p = 1) : agP 16 (bit mem) (M 101) (M 102) p = agP 16 (bit cb) (M 101) (M 102) p := by
  have e := (h.2 p h0 h1).mp hp
  refine sm_congr (fun j a b => ?_)
  have w := h.2 j a (by omega)
  by_cases c : bit cb j = 1 ∧ M 101 j = M 101 p
  · rw [if_pos c, if_pos ⟨w.mpr ⟨c.1, by omega⟩, c.2⟩]
  · rw [if_neg c, if_neg (fun z => c ⟨(w.mp z.1).1, z.2⟩)]
theorem MB.all {M : Mem} {cb mem : Int} {g : Nat} (h : MB M cb mem g) : bcS mem = cP (bit cb) (M 101) g 16 := by
  refine sm_congr (fun j a b => ?_)
  have w := h.2 j a (by omega)
  have z := bit_01 mem j
  by_cases c : bit cb j = 1 ∧ M 101 j = g
  · rw [if_pos c]; exact w.mpr c
  · rw [if_neg c]
    rcases z with z | z
    · exact z
    · exact absurd (w.mp z) c
theorem MB.cho {M : Mem} {cb mem nb : Int} {g : Nat} (h : MB M cb mem g) (hn : 0 ≤ nb) : bcS (and32 mem nb) = kP (bit cb) (M 101) (bit nb) g 16 := by
  refine sm_congr (fun j a b => ?_)
  have w := h.2 j a (by omega)
  have w2 := and_bit (p := j) h.1.1 h.1.2 hn a
  have z := bit_01 (and32 mem nb) j
  by_cases c : bit cb j = 1 ∧ M 101 j = g ∧ bit nb j = 1
  · rw [if_pos c]; exact w2.mpr ⟨w.mpr ⟨c.1, c.2.1⟩, c.2.2⟩
  · rw [if_neg c]
    rcases z with z | z
    · exact z
    · have y := w2.mp z
      have x := w.mp y.1
      exact absurd ⟨x.1, x.2, y.2⟩ c
/-- the choices of one hand, so far -/
def FT (M : Mem) (cb nb : Int) (g : Nat) (sd : Int) (i : Nat) (k x : Int) : Int := FP (bit cb) (M 101) (fun j => sd * agP 16 (bit cb) (M 101) (M 102) j) g (DP 16 (bit cb) (M 101) (M 102) (bit nb) g) i k x
def DT (M : Mem) (cb nb : Int) (g : Nat) (x : Int) : Int := DP 16 (bit cb) (M 101) (M 102) (bit nb) g x
def RT4 (M : Mem) (cb nb : Int) (g : Nat) : Int := RS (bit cb) (M 101) (bit nb) 16 g
theorem tb_mem {M1 M : Mem} {cb nb sd f own : Int} {g i : Nat} (h : tbX M1 (upF (FT M cb nb g sd i) own 0) f) (hm : bit cb i = 1 ∧ M 101 i = g) (ho : own = sd * agP 16 (bit cb) (M 101) (M 102) i) : tbX M1 (FT M cb nb g sd (i + 1)) f := fun k s k0 k1 s0 s1 => by
  rw [h k s k0 k1 s0 s1]
  unfold upF FT
  rw [FP, if_pos hm]
  by_cases c : 0 < k
  · rw [if_pos c, ho]
  · rw [if_neg c]
    have z := FP_neg (mb := bit cb) (hd := M 101) (a := fun j => sd * agP 16 (bit cb) (M 101) (M 102) j) (g := (g : Int)) (d := DP 16 (bit cb) (M 101) (M 102) (bit nb) g) i (k := k - 1) (s - 64 - sd * agP 16 (bit cb) (M 101) (M 102) i) (by omega)
    rw [z, Int.add_zero]
theorem tb_no {M1 M : Mem} {cb nb sd f : Int} {g i : Nat} (h : tbX M1 (FT M cb nb g sd i) f) (hm : ¬ (bit cb i = 1 ∧ M 101 i = g)) : tbX M1 (FT M cb nb g sd (i + 1)) f := fun k s k0 k1 s0 s1 => by
  rw [h k s k0 k1 s0 s1]
  unfold FT
  rw [FP, if_neg hm]
theorem tb_beg {M1 M : Mem} {cb nb sd f : Int} {g : Nat} (h0 : ∀ s, 0 ≤ s → s < 129 → M1 104 s = DT M cb nb g (s - 64)) (hz : ∀ k s, 1 ≤ k → k ≤ f → 0 ≤ s → s < 129 → M1 (104 + k) s = 0) : tbX M1 (FT M cb nb g sd 0) f := fun k s k0 k1 s0 s1 => by
  unfold FT
  rw [FP]
  by_cases c : k = 0
  · rw [if_pos c, c]; exact h0 s s0 s1
  · rw [if_neg c]; exact hz k s (by omega) k1 s0 s1
theorem FT_rng (M : Mem) (cb nb : Int) (g : Nat) (sd : Int) {i : Nat} (hi : i ≤ 16) (k x : Int) : 0 ≤ FT M cb nb g sd i k x ∧ FT M cb nb g sd i k x ≤ 65536 := FD_rng (by decide) _ _ _ _ _ g hi k x
/-- in the window -/
theorem FT_win {M : Mem} {cb nb : Int} {g : Nat} {sd f r : Int} {i : Nat} (hi : i ≤ 16) (hs : sd = 1 ∨ sd = -1) (hf : 2 * f ≤ cP (bit cb) (M 101) g 16) (hr : RT4 M cb nb g + f * (cP (bit cb) (M 101) g 16 - f) ≤ r) {k x : Int} (hk : k ≤ f) (hx : x < -r ∨ r < x) : FT M cb nb g sd i k x = 0 := by
  refine Classical.byContradiction fun q => ?_
  have w := FP_win (DP_win (bit cb) (M 101) (M 102) (bit nb) g) hs hi q
  have m := mono_kc hk hf
  unfold RT4 at hr
  omega
theorem DT_rng (M : Mem) (cb nb : Int) (g : Nat) (x : Int) : 0 ≤ DT M cb nb g x ∧ DT M cb nb g x ≤ 65536 := DP_bd (by decide) _ _ _ _ g x
theorem sm_app (f : Int → Int) (a : Nat) : ∀ b : Nat, sm f (a + b) = sm f a + sm (fun j => f (a + j)) b
  | 0 => by rw [Nat.add_zero, sm, Int.add_zero]
  | b + 1 => by
    show sm f (a + b) + f ((a + b : Nat) : Int) = sm f a + (sm (fun j => f (a + j)) b + f (a + b))
    rw [sm_app f a b, Int.add_assoc]
    rfl
theorem sm_mid {F : Int → Int} (hz : ∀ x, x < -64 ∨ 64 < x → F x = 0) : sm (fun j => F (j - 256)) 513 = sm (fun j => F (j - 64)) 129 := by
  have e := sm_app (fun j => F (j - 256)) 192 321
  have e2 := sm_app (fun j => F (192 + j - 256)) 129 192
  have z1 : sm (fun j => F (j - 256)) 192 = 0 := sm_zero (fun i a b => hz _ (by omega))
  have z2 : sm (fun j => F (192 + (129 + j) - 256)) 192 = 0 := sm_zero (fun i a b => hz _ (by omega))
  have z3 : sm (fun j => F (192 + j - 256)) 129 = sm (fun j => F (j - 64)) 129 := sm_congr (fun i _ _ => by show F (192 + i - 256) = F (i - 64); rw [show 192 + i - 256 = i - 64 by omega])
  have e' : sm (fun j => F (j - 256)) 513 = sm (fun j => F (j - 256)) 192 + sm (fun j => F (192 + j - 256)) 321 := e
  have e2' : sm (fun j => F (192 + j - 256)) 321 = sm (fun j => F (192 + j - 256)) 129 + sm (fun j => F (192 + (129 + j) - 256)) 192 := e2
  rw [e', e2', z1, z2, z3]
  omega
def stT (M : Mem) (cb nb : Int) : Int := stP 16 (bit cb) (M 101) (M 102) (bit nb)
def lowT (M : Mem) (cb nb : Int) : Int := lowP 16 (bit cb) (M 101) (M 102) (bit nb)
def upT (M : Mem) (cb nb : Int) : Int := upP 16 (bit cb) (M 101) (M 102) (bit nb)
theorem lowT_e (M : Mem) (cb nb : Int) : lowT M cb nb = sm (fun j => DT M cb nb 5 (j - 64)) 129 := by
  have w := RS_64 (bit cb) (M 101) (bit nb) (n := 16) (by decide) 5
  exact sm_mid (F := DT M cb nb 5) (fun x hx => DP_win _ _ _ _ 5 x (by omega))
theorem upT_e (M : Mem) (cb nb : Int) : upT M cb nb = sm (fun j => if stT M cb nb ≤ j - 64 then DT M cb nb 5 (j - 64) else 0) 129 := by
  have w := RS_64 (bit cb) (M 101) (bit nb) (n := 16) (by decide) 5
  exact sm_mid (F := fun x => if stT M cb nb ≤ x then DT M cb nb 5 x else 0) (fun x hx => by
    have z : DT M cb nb 5 x = 0 := DP_win _ _ _ _ 5 x (by omega)
    simp only [z, ite_self])
theorem stT_rng (M : Mem) (cb nb : Int) : -240 ≤ stT M cb nb ∧ stT M cb nb ≤ 240 := by
  have h := sm_bd (f := fun i => if bit cb i = 1 ∧ bit nb i = 1 then agP 16 (bit cb) (M 101) (M 102) i else 0) (a := -15) (b := 15) (n := 16) (fun i h0 h1 => by
    have := agP_rng (n := 16) (mb := bit cb) (hd := M 101) (vl := M 102) h0 (by omega)
    show -15 ≤ (if _ then _ else _) ∧ (if _ then _ else _) ≤ _
    split <;> omega)
  have e : stT M cb nb = sm (fun i => if bit cb i = 1 ∧ bit nb i = 1 then agP 16 (bit cb) (M 101) (M 102) i else 0) 16 := rfl
  omega
theorem up_le (M : Mem) (cb nb : Int) : 0 ≤ upT M cb nb ∧ upT M cb nb ≤ lowT M cb nb ∧ lowT M cb nb ≤ 8454144 := by
  have r := DT_rng M cb nb 5
  have a := sm_bd (f := fun j => if stT M cb nb ≤ j - 64 then DT M cb nb 5 (j - 64) else 0) (a := 0) (b := 65536) (n := 129) (fun i _ _ => by have := r (i - 64); split <;> omega)
  have b := sm_bd (f := fun j => DT M cb nb 5 (j - 64)) (a := 0) (b := 65536) (n := 129) (fun i _ _ => r (i - 64))
  have c := sm_mono (f := fun j => if stT M cb nb ≤ j - 64 then DT M cb nb 5 (j - 64) else 0) (g := fun j => DT M cb nb 5 (j - 64)) (n := 129) (fun i _ _ => by have := r (i - 64); split <;> omega)
  rw [lowT_e, upT_e]
  omega

