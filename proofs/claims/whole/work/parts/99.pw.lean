/-! The constructors: a world that grows; which references are set. -/
def alB (B : Nat) : Int → Nat := fun o => B + o.toNat
abbrev Sts : Type := Int → Int → Bool
def fvS (al : Int → Nat) (M : Mem) (S : Sts) (o : Int) (k f : Nat) : Value := if 3 ≤ f ∧ S o k = false then .null else fv al M o k f
def valsS (al : Int → Nat) (M : Mem) (S : Sts) (o : Int) : Nat → List Nat → List Value
  | _, [] => []
  | k, f :: r => fvS al M S o k f :: valsS al M S o (k + 1) r
def contS (t : TT) (al : Int → Nat) (M : Mem) (S : Sts) (o : Int) : va_E := if (kd o).1 = 0 then .inr ((kd o).2.1, valsS al M S o 0 (kd o).2.2) else cont t al M o
def wsG (n : Nat) (t : TT) (al : Int → Nat) (M : Mem) (S : Sts) : va_W := (List.range n).map (fun (o : Nat) => (al (o : Int), contS t al M S (o : Int)))
theorem wsG_s (n : Nat) (t : TT) (al : Int → Nat) (M : Mem) (S : Sts) : wsG (n + 1) t al M S = wsG n t al M S ++ [(al (n : Int), contS t al M S (n : Int))] := by
  unfold wsG
  rw [List.range_succ, List.map_append]
  rfl
theorem wsG_len (n : Nat) (t : TT) (al : Int → Nat) (M : Mem) (S : Sts) : (wsG n t al M S).length = n := by simp [wsG]
theorem wsG_at {n : Nat} (t : TT) (al : Int → Nat) (M : Mem) (S : Sts) {o : Nat} (h : o < n) : (wsG n t al M S)[o]? = some (al (o : Int), contS t al M S (o : Int)) := by
  unfold wsG
  rw [List.getElem?_map, List.getElem?_range h]
  rfl
theorem valsS_all {al : Int → Nat} {M : Mem} {S : Sts} {o : Int} : ∀ (r : List Nat) (b : Nat), (∀ k : Nat, b ≤ k → k < b + r.length → S o k = true) → valsS al M S o b r = vals al M o b r
  | [], _, _ => rfl
  | f :: r, b, h => by
    have h0 : S o b = true := h b (Nat.le_refl _) (by simp)
    rw [valsS, vals, valsS_all r (b + 1) (fun k h1 h2 => h k (by omega) (by simp only [List.length_cons]; omega))]
    unfold fvS
    rw [if_neg (fun q => by rw [h0] at q; exact absurd q.2 (by decide))]
/-- all set: the world of the walks -/
theorem wsG_ws {t : TT} {al : Int → Nat} {M : Mem} {S : Sts} (h : ∀ (o : Nat) (k : Nat), o < NO → (kd (o : Int)).1 = 0 → k < (kd (o : Int)).2.2.length → S (o : Int) k = true) : wsG NO t al M S = ws t al M := by
  unfold wsG ws
  refine List.map_congr_left (fun o ho => ?_)
  have ho2 := List.mem_range.mp ho
  have e : contS t al M S (o : Int) = cont t al M (o : Int) := by
    unfold contS
    by_cases c : (kd (o : Int)).1 = 0
    · rw [if_pos c, valsS_all _ 0 (fun k _ h2 => h o k ho2 c (by omega))]
      unfold cont contK
      rw [if_pos c]
    · rw [if_neg c]
  rw [e]
theorem alB_inj {B : Nat} {o p : Nat} (h : alB B (o : Int) = alB B (p : Int)) : o = p := by unfold alB at h; omega
theorem wsG_D (B n : Nat) (t : TT) (M : Mem) (S : Sts) {A : Nat → Prop} (hA : ∀ q, B ≤ q → A q) : va_D A (wsG n t (alB B) M S) := by
  have g : ∀ (i : Nat) (q : Nat × va_E), (wsG n t (alB B) M S)[i]? = some q → q.1 = alB B (i : Int) := fun i q h => by
    have hl := (List.getElem?_eq_some_iff.mp h).1
    rw [wsG_len] at hl
    rw [wsG_at t (alB B) M S hl] at h
    cases h; rfl
  refine ⟨fun i j p q hi hj e => ?_, fun k q hk => ?_⟩
  · rw [g i p hi, g j q hj] at e
    exact alB_inj e
  · rw [g k q hk]
    exact hA _ (by unfold alB; omega)
theorem ws_DB (B : Nat) (t : TT) (M : Mem) {A : Nat → Prop} (hA : ∀ q, B ≤ q → A q) : va_D A (ws t (alB B) M) := by
  rw [← wsG_ws (S := fun _ _ => true) (fun _ _ _ _ _ => rfl)]
  exact wsG_D B NO t M _ hA

