/-! Between the constructors and the loop. -/
theorem M00_e : mu (fil (fil (fil (fun _ _ => 0) ((60 : Nat) : Int) ((401 : Nat) : Int) (-1)) ((98 : Nat) : Int) ((401 : Nat) : Int) (-1)) ((134 : Nat) : Int) 401 (-1)) ((114 : Nat) : Int) ((46 : Nat) : Int) (-1) = M00 := by
  funext o k
  show (if o = 114 ∧ k = 46 then (-1 : Int) else if o = 134 ∧ 0 ≤ k ∧ k < 401 then -1 else if o = 98 ∧ 0 ≤ k ∧ k < 401 then -1 else if o = 60 ∧ 0 ≤ k ∧ k < 401 then -1 else 0) = _
  unfold M00
  by_cases h1 : o = 114 ∧ k = 46
  · rw [if_pos h1, if_pos (by omega)]
  · rw [if_neg h1]
    by_cases h2 : o = 134 ∧ 0 ≤ k ∧ k < 401
    · rw [if_pos h2, if_pos (by omega)]
    · rw [if_neg h2]
      by_cases h3 : o = 98 ∧ 0 ≤ k ∧ k < 401
      · rw [if_pos h3, if_pos (by omega)]
      · rw [if_neg h3]
        by_cases h4 : o = 60 ∧ 0 ≤ k ∧ k < 401
        · rw [if_pos h4, if_pos (by omega)]
        · rw [if_neg h4, if_neg (by omega)]
section
variable {p : Program} {l : Launch} {e : Env} {R : Room} {s : State} {m : MethodId} {args : Array Value} {below : List Frame} {meth : Method} {c : Code} {Q : State → Prop} {t : TT} {D : va_G} {B n kc ks pc : Nat} {ls : List (Option Value)} {st : List Value} {M : Mem} {S : Sts} {cc : ByteArray} {own : String} {nL : Nat}
theorem gc_astore (X : Cc p s m args c cc own nL t D) {k : Fin 4} {i : Nat} {x : Nat} (hd : decode cc pc = .ok (.astore_n k, 1)) (hi : (k : Nat) = i) (hn : i < ls.length) (ho : lok ls i) (kk : Gc p l e R s m args below meth c Q t D B n kc ks (pc + 1) (ls.set i (some (.ref x))) st M S) : Gc p l e R s m args below meth c Q t D B n kc ks pc ls (.ref x :: st) M S := by
  subst hi
  intro H locs la hP hz hS hv
  obtain ⟨la2, e2, hv2⟩ := lvp_set1 (v := .ref x) hv hn rfl ho
  intro T hT Xs
  obtain ⟨tt, aa, bb⟩ := kk H locs la2 hP hz hS hv2 T hT Xs
  refine ⟨tt, ?_, bb⟩
  jvm_step Xs.here [Xs.here.top, ↓top_set Xs.here.top, X.1, X.2.1, hd, e2]
  exact ⟨rfl, aa⟩
end
theorem valsS_all2 {al : Int → Nat} {M : Mem} {S : Sts} {o : Int} : ∀ (r : List Nat) (b : Nat), (∀ (k f : Nat), r[k]? = some f → 3 ≤ f → S o ((b + k : Nat) : Int) = true) → valsS al M S o b r = vals al M o b r
  | [], _, _ => rfl
  | f :: r, b, h => by
    rw [valsS, vals, valsS_all2 r (b + 1) (fun k g h1 h2 => by
      have z := h (k + 1) g (by simpa using h1) h2
      rw [show b + (k + 1) = b + 1 + k by omega] at z
      exact z)]
    congr 1
    unfold fvS
    by_cases c : 3 ≤ f
    · have h0 : S o (b : Int) = true := h 0 f (by simp) c
      rw [if_neg (fun q => by rw [h0] at q; exact absurd q.2 (by decide))]
    · rw [if_neg (fun q => c q.1)]
theorem wsG_ws2 {t : TT} {al : Int → Nat} {M : Mem} {S : Sts} (h : ∀ (o k f : Nat), o < NO → (kd (o : Int)).1 = 0 → (kd (o : Int)).2.2[k]? = some f → 3 ≤ f → S (o : Int) (k : Int) = true) : wsG NO t al M S = ws t al M := by
  unfold wsG ws
  refine List.map_congr_left (fun o ho => ?_)
  have ho2 := List.mem_range.mp ho
  have e : contS t al M S (o : Int) = cont t al M (o : Int) := by
    unfold contS
    by_cases c : (kd (o : Int)).1 = 0
    · rw [if_pos c, valsS_all2 _ 0 (fun k f h1 h2 => by rw [Nat.zero_add]; exact h o k f ho2 c h1 h2)]
      unfold cont contK
      rw [if_pos c]
    · rw [if_neg c]
  rw [e]
/-- a growing world that is whole: the walks' own -/
theorem gd_gc {p : Program} {l : Launch} {e : Env} {R : Room} {s : State} {m : MethodId} {args : Array Value} {below : List Frame} {meth : Method} {c : Code} {Q : State → Prop} {t : TT} {D : va_G} {B kc ks pc : Nat} {ls : List (Option Value)} {st : List Value} {M : Mem} {S : Sts} (hS : ∀ (o k f : Nat), o < NO → (kd (o : Int)).1 = 0 → (kd (o : Int)).2.2[k]? = some f → 3 ≤ f → S (o : Int) (k : Int) = true) (k : Gd p l e R s m args below meth c kc ks Q t D (alB B) (fun q => B ≤ q) pc ls st M) : Gc p l e R s m args below meth c Q t D B NO kc ks pc ls st M S := fun H locs la hP hz hSS hv => by
  rw [wsG_ws2 hS] at hP
  exact k H locs la hP hSS hv

