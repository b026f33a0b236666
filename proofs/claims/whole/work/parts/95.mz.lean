/-! A table of arrays made at once (two lengths): what stands behind each round. -/
/-- behind i rounds the table at a names the i arrays that follow it -/
def tbF (a i : Nat) : Nat → Value := fun j => if j < i then .ref (a + 1 + j) else .null
theorem tbF_0 (a : Nat) : tbF a 0 = fun _ => Value.null := funext fun j => if_neg (Nat.not_lt_zero j)
theorem tbF_s (a i : Nat) : updV (tbF a i) i (.ref (a + 1 + i)) = tbF a (i + 1) := funext fun j => by
  unfold updV tbF
  rcases Nat.lt_trichotomy j i with q | q | q
  · rw [if_neg (by omega), if_pos q, if_pos (by omega)]
  · rw [if_pos q, if_pos (by omega), q]
  · rw [if_neg (by omega), if_neg (by omega), if_neg (by omega)]
theorem tbF_full (cA N a : Nat) : arrV cA N (tbF a N) = arrV cA N (fun j => .ref (a + 1 + j)) := by
  have h : (fun j : Fin N => tbF a N j.val) = fun j : Fin N => Value.ref (a + 1 + j.val) := funext fun j => if_pos j.isLt
  unfold arrV
  rw [h]
/-- one round: an array, then its place in the table -/
def tbG (a cA comp N K : Nat) (dv : Value) (U : State) (i : Nat) : State := (U.pushCell (arrV comp K (fun _ => dv))).setCell a (arrV cA N (tbF a (i + 1)))
/-- n rounds, from the empty table on -/
def tbU (cA comp N K : Nat) (dv : Value) (T : State) (n : Nat) : State := (List.range n).foldl (tbG T.heap.size cA comp N K dv) (T.pushCell (arrV cA N (tbF T.heap.size 0)))
theorem tbU_s (cA comp N K : Nat) (dv : Value) (T : State) (n : Nat) : tbU cA comp N K dv T (n + 1) = tbG T.heap.size cA comp N K dv (tbU cA comp N K dv T n) n := by
  unfold tbU
  rw [List.range_succ, List.foldl_append]
  rfl
section
variable {p : Program} {l : Launch} {e : Env} {R : Room} {s : State} {m : MethodId} {args : Array Value} {below : List Frame} {meth : Method} {c : Code} {T : State} {locs : List Loc} {kc ks : Nat}
/-- all that is known of the state U behind i rounds from T -/
def tbR (p : Program) (l : Launch) (e : Env) (R : Room) (s : State) (m : MethodId) (args : Array Value) (below : List Frame) (meth : Method) (c : Code) (T : State) (locs : List Loc) (kc ks cA comp N K : Nat) (dv : Value) (i : Nat) (U : State) : Prop :=
  (∃ L : List Loc, (∀ q ∈ L, q.base = T.heap.size) ∧ Stand p l e R s m args below meth c U (locs ++ L) (kc + 1 + i) (ks + (N + i * K))) ∧ U.vm = T.vm ∧ U.heap.size = T.heap.size + 1 + i ∧
  (∀ q, q < T.heap.size → U.heap[q]? = T.heap[q]?) ∧ U.heap[T.heap.size]? = some (arrV cA N (tbF T.heap.size i)) ∧ ∀ j, j < i → U.heap[T.heap.size + 1 + j]? = some (arrV comp K (fun _ => dv))
theorem tb_all (X : Stand p l e R s m args below meth c T locs kc ks) (cA comp N K : Nat) (dv : Value) (i : Nat) : tbR p l e R s m args below meth c T locs kc ks cA comp N K dv i (tbU cA comp N K dv T i) := by
  induction i with
  | zero =>
    have Y := X.pushed (arrV cA N (tbF T.heap.size 0))
    rw [arrV_size] at Y
    refine ⟨⟨[], fun q h => (List.not_mem_nil h).elim, ?_⟩, rfl, by simp [tbU], fun q h => State.heap_pushCell_of_lt _ _ h, State.heap_pushCell_size _ _, fun j h => absurd h (Nat.not_lt_zero j)⟩
    rw [List.append_nil, Nat.zero_mul]
    exact Y
  | succ i ih =>
    obtain ⟨⟨L, hL, Y⟩, hv, hz, ho, ht, hr⟩ := ih
    rw [tbU_s]
    generalize tbU cA comp N K dv T i = U at Y hv hz ho ht hr ⊢
    have hlt : T.heap.size < U.heap.size := by omega
    have hb : (U.pushCell (arrV comp K (fun _ => dv))).heap[T.heap.size]? = some (arrV cA N (tbF T.heap.size i)) := (State.heap_pushCell_of_lt _ _ hlt).trans ht
    have Z := (Y.pushed (arrV comp K (fun _ => dv))).stored hb i (.ref (T.heap.size + 1 + i))
    rw [arrV_store, tbF_s, arrV_size, List.append_assoc] at Z
    refine ⟨⟨L ++ [⟨T.heap.size, i⟩], fun q h => ?_, ?_⟩, hv, ?_, fun q h => ?_, State.heap_setCell_self hb, fun j h => ?_⟩
    · rcases List.mem_append.mp h with h | h
      · exact hL q h
      · rw [List.mem_singleton.mp h]
    · rw [show ks + (N + (i + 1) * K) = ks + (N + i * K) + K by rw [Nat.succ_mul]; omega]
      exact Z
    · simp [tbG, State.setCell, hz]
      omega
    · exact (State.heap_setCell_other (Nat.ne_of_gt h)).trans ((State.heap_pushCell_of_lt _ _ (Nat.lt_trans h hlt)).trans (ho q h))
    · refine (State.heap_setCell_other (Nat.ne_of_lt (by omega))).trans ?_
      by_cases w : j < i
      · exact (State.heap_pushCell_of_lt _ _ (show T.heap.size + 1 + j < U.heap.size by omega)).trans (hr j w)
      · rw [show T.heap.size + 1 + j = U.heap.size by omega]
        exact State.heap_pushCell_size _ _
end
