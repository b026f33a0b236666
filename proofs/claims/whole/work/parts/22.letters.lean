/-! Letters. -/
def lm (w : Int) (n : Nat) : Int := sm (fun k => if 0 < byt w k then 1 else 0) n
def lg (w : Int) (n : Nat) : Prop := ∀ k : Int, 0 ≤ k → k < (n : Int) → byt w k ≤ 126 ∧ (byt w k = 0 ∨ lm w k.toNat = k)
theorem lm_s (w : Int) {k : Int} (h : 0 ≤ k) : lm w (k + 1).toNat = lm w k.toNat + (if 0 < byt w k then 1 else 0) := sm_s _ h
theorem lm_rng (w : Int) (n : Nat) : 0 ≤ lm w n ∧ lm w n ≤ n := cnt_rng (fun i => by split <;> simp)
theorem lg_s (w : Int) {k : Int} (h : 0 ≤ k) : lg w (k + 1).toNat ↔ lg w k.toNat ∧ byt w k ≤ 126 ∧ (byt w k = 0 ∨ lm w k.toNat = k) := by
  constructor
  · intro q
    exact ⟨fun j a b => q j a (by omega), q k h (by omega)⟩
  · rintro ⟨q, r⟩ j a b
    by_cases e : j = k
    · subst e; exact r
    · exact q j a (by omega)
theorem lg_0 (w : Int) : lg w (0 : Int).toNat := fun k a b => by simp at b; omega
def letL (M : Mem) (w n : Int) : Mem := fun o j => if o = 115 ∧ M 114 1 ≤ j ∧ j < M 114 1 + n then byt w (j - M 114 1) else if o = 114 ∧ j = 1 then M 114 1 + n else M o j
theorem sh_step {w left k : Int} (hk : 0 ≤ k) (h : uN (jN left) = uN (jN w) / 2 ^ (8 * k).toNat) : uN (jN (ushr64 left 8)) = uN (jN w) / 2 ^ (8 * (k + 1)).toNat := by
  rw [ushr_uN left (by omega) (by omega), h, Nat.div_div_eq_div_mul, ← Nat.pow_add]
  congr 2
  omega
theorem sh_byt {w left k : Int} (h : uN (jN left) = uN (jN w) / 2 ^ (8 * k).toNat) : and64 left 255 = byt w k := by
  rw [and255, h]; rfl
theorem let_s {M M1 : Mem} {w k : Int} (hk : 0 ≤ k) (hk2 : k < 8) (hM : M1 = letL M w k) : mu (mu M1 115 (M1 114 1) (and64 (ushr64 w (8 * k)) 255)) 114 1 (M1 114 1 + 1) = letL M w (k + 1) := by
  have h1 : M1 114 1 = M 114 1 + k := by rw [hM]; simp [letL]
  rw [byt_sh w hk hk2, h1, hM]
  have e : byt w k = byt w (M 114 1 + k - M 114 1) := by congr 1; omega
  funext o j
  simp only [mu, letL]
  grind

