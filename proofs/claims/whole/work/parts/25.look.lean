/-! What look lays: the pictures counted, in their order. -/
def LK (M : Mem) : Prop := (0 ≤ M 114 29 ∧ M 114 29 ≤ 16) ∧ ∀ i, 0 ≤ i → i < M 114 29 → (0 ≤ M 127 i ∧ M 127 i ≤ 4) ∧ (-1 ≤ M 128 i ∧ M 128 i ≤ 1000000) ∧ (M 129 i = 0 ∨ M 129 i = 1) ∧ (0 ≤ M 130 i ∧ M 130 i ≤ 15)
def one1 (_ : Int) : Int := 1
def agM (M : Mem) (i : Int) : Int := agP (M 114 29).toNat one1 (M 127) (M 128) i
def stM (M : Mem) : Int := stP (M 114 29).toNat one1 (M 127) (M 128) (M 129)
theorem agM_rng {M : Mem} (h : LK M) {i : Int} (h0 : 0 ≤ i) (h1 : i < M 114 29) : -15 ≤ agM M i ∧ agM M i ≤ 15 := by
  have a := h.1
  have := agP_rng (n := (M 114 29).toNat) (mb := one1) (hd := M 127) (vl := M 128) h0 (by omega)
  unfold agM
  omega
def mbL (M : Mem) (but p : Int) : Int := if M 124 (6 * p) ≠ 3 ∧ p ≠ but then 1 else 0
def cnL (M : Mem) (but : Int) (n : Nat) : Int := sm (mbL M but) n
theorem mbL_01 (M : Mem) (but p : Int) : mbL M but p = 0 ∨ mbL M but p = 1 := by unfold mbL; split <;> simp
theorem cnL_s (M : Mem) (but : Int) {p : Int} (h : 0 ≤ p) : cnL M but (p + 1).toNat = cnL M but p.toNat + mbL M but p := sm_s _ h
theorem cnL_rng (M : Mem) (but : Int) (n : Nat) : 0 ≤ cnL M but n ∧ cnL M but n ≤ n := cnt_rng (mbL_01 M but)
theorem cnL_mono (M : Mem) (but : Int) (n : Nat) : ∀ k : Nat, cnL M but n ≤ cnL M but (n + k)
  | 0 => Int.le_refl _
  | k + 1 => by
    have h := cnL_mono M but n k
    have e : cnL M but (n + (k + 1)) = cnL M but (n + k) + mbL M but ((n + k : Nat) : Int) := rfl
    have := mbL_01 M but ((n + k : Nat) : Int)
    omega
/-- a member's place is below that of what comes behind it -/
theorem cnL_lt {M : Mem} {but p q : Int} (h0 : 0 ≤ p) (h1 : p < q) (hm : mbL M but p = 1) : cnL M but p.toNat < cnL M but q.toNat := by
  have e := cnL_s M but h0
  have h := cnL_mono M but (p + 1).toNat (q - (p + 1)).toNat
  rw [show (p + 1).toNat + (q - (p + 1)).toNat = q.toNat by omega] at h
  omega
/-- the first k pictures looked at -/
def LkU (M M1 : Mem) (m w but k : Int) : Prop := M1 114 29 = cnL M but k.toNat ∧ LK M1 ∧
  ∀ p, 0 ≤ p → p < k → mbL M but p = 1 → M1 127 (cnL M but p.toNat) = M 124 (6 * p + 1) ∧ M1 128 (cnL M but p.toNat) = vlu M m p ∧ M1 129 (cnL M but p.toNat) = b2i (nrS M (M 124 (6 * p)) (M 124 (6 * p + 2)) w) ∧ M1 130 (cnL M but p.toNat) = p
theorem LkU_skip {M M1 : Mem} {m w but k : Int} (hk : 0 ≤ k) (h : LkU M M1 m w but k) (hm : mbL M but k = 0) : LkU M M1 m w but (k + 1) := by
  obtain ⟨h1, h2, h3⟩ := h
  refine ⟨by rw [h1, cnL_s M but hk, hm, Int.add_zero], h2, fun p a b c => ?_⟩
  by_cases e : p = k
  · subst e; omega
  · exact h3 p a (by omega) c
theorem LkU_take {M M1 : Mem} {m w but k v g nn : Int} (hk : 0 ≤ k) (hk2 : k < 16) (h : LkU M M1 m w but k) (hm : mbL M but k = 1) (hg : g = M 124 (6 * k + 1)) (hg2 : 0 ≤ g ∧ g ≤ 4) (hv : v = vlu M m k) (hv2 : -1 ≤ v ∧ v ≤ 1000000) (hn : nn = b2i (nrS M (M 124 (6 * k)) (M 124 (6 * k + 2)) w)) :
    LkU M (mu (mu (mu (mu (mu M1 127 (M1 114 29) g) 128 (M1 114 29) v) 129 (M1 114 29) nn) 130 (M1 114 29) k) 114 29 (M1 114 29 + 1)) m w but (k + 1) := by
  obtain ⟨h1, h2, h3⟩ := h
  have hr := cnL_rng M but k.toNat
  have hn2 := b2i_01 (nrS M (M 124 (6 * k)) (M 124 (6 * k + 2)) w)
  rw [← hn] at hn2
  have e29 : (mu (mu (mu (mu (mu M1 127 (M1 114 29) g) 128 (M1 114 29) v) 129 (M1 114 29) nn) 130 (M1 114 29) k) 114 29 (M1 114 29 + 1)) 114 29 = M1 114 29 + 1 := by simp [mu]
  have r127 : ∀ i, (mu (mu (mu (mu (mu M1 127 (M1 114 29) g) 128 (M1 114 29) v) 129 (M1 114 29) nn) 130 (M1 114 29) k) 114 29 (M1 114 29 + 1)) 127 i = if i = M1 114 29 then g else M1 127 i := fun i => by simp [mu]
  have r128 : ∀ i, (mu (mu (mu (mu (mu M1 127 (M1 114 29) g) 128 (M1 114 29) v) 129 (M1 114 29) nn) 130 (M1 114 29) k) 114 29 (M1 114 29 + 1)) 128 i = if i = M1 114 29 then v else M1 128 i := fun i => by simp [mu]
  have r129 : ∀ i, (mu (mu (mu (mu (mu M1 127 (M1 114 29) g) 128 (M1 114 29) v) 129 (M1 114 29) nn) 130 (M1 114 29) k) 114 29 (M1 114 29 + 1)) 129 i = if i = M1 114 29 then nn else M1 129 i := fun i => by simp [mu]
  have r130 : ∀ i, (mu (mu (mu (mu (mu M1 127 (M1 114 29) g) 128 (M1 114 29) v) 129 (M1 114 29) nn) 130 (M1 114 29) k) 114 29 (M1 114 29 + 1)) 130 i = if i = M1 114 29 then k else M1 130 i := fun i => by simp [mu]
  generalize mu (mu (mu (mu (mu M1 127 (M1 114 29) g) 128 (M1 114 29) v) 129 (M1 114 29) nn) 130 (M1 114 29) k) 114 29 (M1 114 29 + 1) = M2 at *
  refine ⟨by rw [e29, h1, cnL_s M but hk, hm], ⟨by omega, fun i i0 i1 => ?_⟩, fun p a b c => ?_⟩
  · rw [r127, r128, r129, r130]
    by_cases e : i = M1 114 29
    · rw [if_pos e, if_pos e, if_pos e, if_pos e]
      exact ⟨hg2, hv2, hn2, by omega, by omega⟩
    · rw [if_neg e, if_neg e, if_neg e, if_neg e]
      exact h2.2 i i0 (by omega)
  · rw [r127, r128, r129, r130]
    by_cases e : p = k
    · subst e
      rw [if_pos h1.symm, if_pos h1.symm, if_pos h1.symm, if_pos h1.symm]
      exact ⟨hg, hv, hn, rfl⟩
    · have hl := cnL_lt a (show p < k by omega) c
      rw [if_neg (by omega), if_neg (by omega), if_neg (by omega), if_neg (by omega)]
      exact h3 p a (by omega) c

