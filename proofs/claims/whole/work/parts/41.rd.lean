/-! The page read. -/
def rdS (o k : Int) : Prop := (116 ≤ o ∧ o ≤ 118) ∨ (o = 114 ∧ ((2 ≤ k ∧ k ≤ 8) ∨ k = 10))
def RD (M M1 : Mem) : Prop := ∀ o k : Int, ¬ rdS o k → M1 o k = M o k
theorem RD.rf (M : Mem) : RD M M := fun _ _ _ => rfl
theorem RD.tr {M M1 M2 : Mem} (h : RD M M1) (h2 : RD M1 M2) : RD M M2 := fun o k n => (h2 o k n).trans (h o k n)
theorem RD.pu {M M1 : Mem} (h : RD M M1) {o k : Int} (v : Int) (hs : rdS o k) : RD M (mu M1 o k v) := fun o' k' n => by
  have e : ¬ (o' = o ∧ k' = k) := fun q => n (by rw [q.1, q.2]; exact hs)
  show (if o' = o ∧ k' = k then v else M1 o' k') = _
  rw [if_neg e]; exact h o' k' n
theorem RD.row {M M1 : Mem} (h : RD M M1) {o : Int} (ho : o ≠ 114 ∧ ¬ (116 ≤ o ∧ o ≤ 118)) : M1 o = M o := by
  funext k; exact h o k (by unfold rdS; omega)
theorem RD.fld {M M1 : Mem} (h : RD M M1) {k : Int} (hk : ¬ ((2 ≤ k ∧ k ≤ 8) ∨ k = 10)) : M1 114 k = M 114 k := h 114 k (by unfold rdS; omega)
theorem rd_f {k : Int} (h : (2 ≤ k ∧ k ≤ 8) ∨ k = 10) : rdS 114 k := Or.inr ⟨rfl, h⟩
theorem rd_r {o : Int} (k : Int) (h : 116 ≤ o ∧ o ≤ 118) : rdS o k := Or.inl h
def zr (M : Mem) (r n : Int) : Mem := fun o j => if o = r ∧ 0 ≤ j ∧ j < n then 0 else M o j
theorem zr_s {M : Mem} {r z : Int} (h : 0 ≤ z) : mu (zr M r z) r z 0 = zr M r (z + 1) := by
  funext o j
  simp only [mu, zr]
  grind
theorem zr_0 (M : Mem) (r : Int) : zr M r 0 = M := by
  funext o j
  simp only [zr]; rw [if_neg (by omega)]
theorem RD.zrr {M M1 : Mem} (h : RD M M1) {r : Int} (n : Int) (hr : 116 ≤ r ∧ r ≤ 118) : RD M (zr M1 r n) := fun o k q => by
  have e : o ≠ r := fun w => q (rd_r k (by omega))
  show (if o = r ∧ 0 ≤ k ∧ k < n then 0 else M1 o k) = _
  rw [if_neg (fun w => e w.1)]; exact h o k q
noncomputable def stpM (k : Int) (M : Mem) (c : Int) : Mem := if k = 0 then glM M c else if k = 1 then gmM M c else lwM M c
def stpOk (k : Int) (M : Mem) (c : Int) : Prop := (k = 0 ∧ glOk M c) ∨ (k = 1 ∧ gmOk M c) ∨ (k = 2 ∧ lwOk M c)
def rdI (k : Int) (M : Mem) : Prop := (k = 0 → GL M) ∧ (k = 1 → GM M) ∧ (k = 2 → GW M)
theorem stp_I {k c : Int} {M : Mem} (hk : 0 ≤ k ∧ k ≤ 2) (h : rdI k M) (ho : stpOk k M c) : rdI k (stpM k M c) := by
  unfold stpM
  rcases ho with ⟨rfl, q⟩ | ⟨rfl, q⟩ | ⟨rfl, q⟩
  · rw [if_pos rfl]; exact ⟨fun _ => glM_GL (h.1 rfl) q, fun z => by omega, fun z => by omega⟩
  · rw [if_neg (by decide), if_pos rfl]; exact ⟨fun z => by omega, fun _ => gmM_GM (h.2.1 rfl) q, fun z => by omega⟩
  · rw [if_neg (by decide), if_neg (by decide)]; exact ⟨fun z => by omega, fun z => by omega, fun _ => lwM_GW (h.2.2 rfl) q⟩
theorem stp_RD (k : Int) (M : Mem) (c : Int) : RD M (stpM k M c) := by
  unfold stpM
  split
  · unfold glM
    split
    · exact (((RD.rf M).pu _ (rd_f (by omega))).pu _ (rd_r _ (by omega))).pu _ (rd_f (by omega))
    · split
      · exact (((RD.rf M).pu _ (rd_f (by omega))).pu _ (rd_f (by omega))).pu _ (rd_f (by omega))
      · split
        · exact ((RD.rf M).pu _ (rd_f (by omega))).pu _ (rd_f (by omega))
        · exact (((RD.rf M).pu _ (rd_f (by omega))).pu _ (rd_r _ (by omega))).pu _ (rd_f (by omega))
  · split
    · unfold gmM
      split
      · exact ((((RD.rf M).pu _ (rd_f (by omega))).pu _ (rd_f (by omega))).pu _ (rd_f (by omega))).pu _ (rd_f (by omega))
      · split
        · exact (((RD.rf M).pu _ (rd_f (by omega))).pu _ (rd_r _ (by omega))).pu _ (rd_f (by omega))
        · exact (((RD.rf M).pu _ (rd_f (by omega))).pu _ (rd_f (by omega))).pu _ (rd_f (by omega))
    · unfold lwM
      split
      · exact (((RD.rf M).pu _ (rd_f (by omega))).pu _ (rd_f (by omega))).pu _ (rd_f (by omega))
      · split
        · unfold lwBM
          refine RD.pu ?_ _ (rd_f (by omega))
          split
          · exact ((RD.rf M).pu _ (rd_r _ (by omega))).pu _ (rd_f (by omega))
          · exact RD.rf M
        · exact ((RD.rf M).pu _ (rd_f (by omega))).pu _ (rd_f (by omega))
noncomputable def rdM (k : Int) (P : Mem) : Nat → Mem
  | 0 => P
  | n + 1 => stpM k (rdM k P n) (P 115 n)
theorem rdM_s (k : Int) (P : Mem) {n : Int} (h : 0 ≤ n) : rdM k P (n + 1).toNat = stpM k (rdM k P n.toNat) (P 115 n) := by
  rw [show (n + 1).toNat = n.toNat + 1 by omega, rdM, Int.toNat_of_nonneg h]
theorem rdM_RD (k : Int) (P : Mem) : ∀ n : Nat, RD P (rdM k P n)
  | 0 => RD.rf P
  | n + 1 => (rdM_RD k P n).tr (stp_RD k _ _)
def rdP (M : Mem) : Mem := mu (mu (mu (mu M 114 2 0) 114 6 0) 114 7 0) 114 10 0
def rd0 (M : Mem) : Mem := zr (zr (rdP M) 116 3) 117 24
theorem rd0_RD (M : Mem) : RD M (rd0 M) := (((((((RD.rf M).pu _ (rd_f (by omega))).pu _ (rd_f (by omega))).pu _ (rd_f (by omega))).pu _ (rd_f (by omega))).zrr 3 (by omega)).zrr 24 (by omega))
def B118 (M : Mem) : Prop := ∀ i, 0 ≤ i → i < 5 → 0 ≤ M 118 i ∧ M 118 i ≤ 999
theorem rd0_I {M : Mem} (k : Int) (h : B118 M) : rdI k (rd0 M) := by
  have e2 : rd0 M 114 2 = 0 := by simp [rd0, zr, rdP, mu]
  have e6 : rd0 M 114 6 = 0 := by simp [rd0, zr, rdP, mu]
  have e7 : rd0 M 114 7 = 0 := by simp [rd0, zr, rdP, mu]
  have e10 : rd0 M 114 10 = 0 := by simp [rd0, zr, rdP, mu]
  have r6 : ∀ i, 0 ≤ i → i < 3 → rd0 M 116 i = 0 := fun i a b => by simp [rd0, zr, rdP, mu]; intro z; omega
  have r7 : ∀ i, 0 ≤ i → i < 24 → rd0 M 117 i = 0 := fun i a b => by simp [rd0, zr]; omega
  have r8 : ∀ i, rd0 M 118 i = M 118 i := fun i => by simp [rd0, zr, rdP, mu]
  refine ⟨fun _ => ⟨by omega, by omega, fun q => by omega, fun q => by omega, fun q => by omega, fun i a b => by rw [r6 i a b]; omega⟩, fun _ => ⟨⟨by omega, by omega, fun _ => by omega, fun q => by omega⟩, fun s d n s0 s1 d0 d1 n0 n1 => ?_⟩, fun _ => ⟨by omega, ⟨by omega, by omega, fun _ => by omega, fun q => by omega⟩, fun q => by omega, fun q => by omega, fun q => by omega, fun i a b => by rw [r8]; exact h i a b⟩⟩
  rw [r7 _ (by omega) (by omega), e2, e6, e7]
  exact ⟨by omega, fun _ => by omega, fun _ => rfl, fun _ => ⟨by omega, fun q => absurd rfl q⟩⟩
theorem stp_B {k c : Int} {M : Mem} (hk : 0 ≤ k ∧ k ≤ 2) (h : rdI k M) (hb : B118 M) : B118 (stpM k M c) := by
  by_cases z : k = 2
  · subst z
    unfold stpM
    rw [if_neg (by decide), if_neg (by decide)]
    have g := h.2.2 rfl
    have hl := lwB_rng g
    unfold lwM
    intro i a b
    split
    · have : lwA M c 118 i = M 118 i := by simp [lwA, mu]
      rw [this]; exact hb i a b
    · split
      · by_cases x : M 114 2 = 1 ∧ lwB M < M 114 3
        · have e : lwBM M c 118 i = if i = M 114 7 then M 114 3 else M 118 i := by unfold lwBM; rw [if_pos x]; simp [mu]
          have g3 := g.2.2.1 x.1
          rw [e]
          split
          · omega
          · exact hb i a b
        · have e : lwBM M c 118 i = M 118 i := by unfold lwBM; rw [if_neg x]; simp [mu]
          rw [e]; exact hb i a b
      · have : lwC M c 118 i = M 118 i := by simp [lwC, mu]
        rw [this]; exact hb i a b
  · have e : stpM k M c 118 = M 118 := by
      unfold stpM
      split
      · unfold glM glA glB glC glD
        split <;> (try split) <;> (try split) <;> (funext j; simp [mu])
      · rw [if_pos (by omega)]
        unfold gmM gmA gmB gmC
        split <;> (try split) <;> (funext j; simp [mu])
    intro i a b
    rw [e]; exact hb i a b
def FR (k : Int) (M : Mem) (r : Int) (M' : Mem) : Prop := (0 ≤ r ∧ r ≤ M 114 1) ∧ (∀ j, 0 ≤ j → j < r → stpOk k (rdM k (rd0 M) j.toNat) (M 115 j)) ∧ ((r = M 114 1 ∧ M' = rdM k (rd0 M) r.toNat ∧ rdI k M') ∨ (r < M 114 1 ∧ ¬ stpOk k (rdM k (rd0 M) r.toNat) (M 115 r) ∧ M' = rdM k (rd0 M) (r + 1).toNat)) ∧ B118 M'
theorem fr_step {k n : Int} {M M3 M4 : Mem} (hM3 : M3 = rdM k (rd0 M) n.toNat) (hn : 0 ≤ n) (h4 : M4 = stpM k M3 (M3 115 n)) : M4 = rdM k (rd0 M) (n + 1).toNat := by
  rw [rdM_s k _ hn, ← hM3, h4]
  have : M3 115 = rd0 M 115 := by rw [hM3]; exact (rdM_RD k (rd0 M) n.toNat).row (by omega)
  rw [this]
theorem FR.rd {k r : Int} {M M' : Mem} (h : FR k M r M') : RD M M' := by
  rcases h.2.2.1 with q | q
  · rw [q.2.1]; exact (rd0_RD M).tr (rdM_RD k _ _)
  · rw [q.2.2]; exact (rd0_RD M).tr (rdM_RD k _ _)
theorem stpM_0 (M : Mem) (c : Int) : stpM 0 M c = glM M c := by unfold stpM; rw [if_pos rfl]
theorem stpM_1 (M : Mem) (c : Int) : stpM 1 M c = gmM M c := by unfold stpM; rw [if_neg (by decide), if_pos rfl]
theorem stpM_2 (M : Mem) (c : Int) : stpM 2 M c = lwM M c := by unfold stpM; rw [if_neg (by decide), if_neg (by decide)]
def cpR (M : Mem) (r src base n : Int) : Mem := fun o j => if o = r ∧ base ≤ j ∧ j < base + n then M src (j - base) else M o j
theorem cpR_0 (M : Mem) (r src base : Int) : cpR M r src base 0 = M := by
  funext o j
  simp only [cpR]; rw [if_neg (by omega)]
theorem cpR_s {M M1 : Mem} {r src base n i : Int} (hn : 0 ≤ n) (hs : src ≠ r) (hM : M1 = cpR M r src base n) (hi : i = base + n) : mu M1 r i (M1 src n) = cpR M r src base (n + 1) := by
  subst hM
  subst hi
  have e : cpR M r src base n src n = M src n := by simp only [cpR]; rw [if_neg (fun q => hs q.1)]
  rw [e]
  funext o j
  simp only [mu, cpR]
  by_cases c : o = r ∧ j = base + n
  · obtain ⟨rfl, rfl⟩ := c
    rw [if_pos ⟨rfl, rfl⟩, if_pos (by omega), show base + n - base = n by omega]
  · rw [if_neg c]
    by_cases d : o = r ∧ base ≤ j ∧ j < base + n
    · rw [if_pos d, if_pos ⟨d.1, by omega⟩]
    · rw [if_neg d, if_neg (by omega)]

