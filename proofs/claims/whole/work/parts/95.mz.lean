/-! A table of arrays made at once: two lengths. -/
def mzC (cA N a i : Nat) : Cell := { cls := cA, slots := ((List.range N).map (fun j => if j < i then Value.ref (a + 1 + j) else Value.null)).toArray, vm := .none }
def mzI (comp M : Nat) (dv : Value) : Cell := { cls := comp, slots := Array.replicate M dv, vm := .none }
def mzS (T : State) (cA comp N M : Nat) (dv : Value) : Nat → State
  | 0 => T.pushCell (mzC cA N T.heap.size 0)
  | i + 1 => ((mzS T cA comp N M dv i).pushCell (mzI comp M dv)).setCell T.heap.size (mzC cA N T.heap.size (i + 1))
theorem mzC_0 (cA N a : Nat) : mzC cA N a 0 = { cls := cA, slots := Array.replicate N Value.null, vm := .none } := by
  unfold mzC
  congr 1
  apply Array.ext'
  simp
  apply List.ext_getElem?
  intro j
  simp [List.getElem?_replicate]
  by_cases h : j < N
  · simp [h]
  · simp [h]
theorem mzC_s (cA N a i : Nat) (h : i < N) : (mzC cA N a i).setSlot i (.ref (a + 1 + i)) = mzC cA N a (i + 1) := by
  unfold mzC Cell.setSlot
  congr 1
  apply Array.ext'
  simp
  apply List.ext_getElem?
  intro j
  simp only [List.getElem?_set, List.getElem?_map, List.getElem?_range, List.length_map, List.length_range]
  by_cases e : i = j
  · subst e
    simp [h]
  · rw [if_neg e]
    by_cases g : j < N
    · simp only [List.getElem?_range g, Option.map_some]
      congr 1
      by_cases k : j < i
      · rw [if_pos k, if_pos (by omega)]
      · rw [if_neg k, if_neg (by omega)]
    · simp [g]
theorem mzC_n (cA N a i : Nat) : (mzC cA N a i).slots.size = N := by simp [mzC]
theorem mzS_f (T : State) (cA comp N M : Nat) (dv : Value) : ∀ i, (mzS T cA comp N M dv i).heap.size = T.heap.size + 1 + i ∧ (mzS T cA comp N M dv i).heap[T.heap.size]? = some (mzC cA N T.heap.size i) ∧ (mzS T cA comp N M dv i).vm = T.vm ∧ (mzS T cA comp N M dv i).slotsUsed = T.slotsUsed + N + i * M
  | 0 => ⟨by simp [mzS], by simp [mzS], rfl, by simp [mzS, mzC_n]⟩
  | i + 1 => by
    obtain ⟨a, b, d, u⟩ := mzS_f T cA comp N M dv i
    have hlt : T.heap.size < (mzS T cA comp N M dv i).heap.size := by omega
    have hb2 : ((mzS T cA comp N M dv i).pushCell (mzI comp M dv)).heap[T.heap.size]? = some (mzC cA N T.heap.size i) := by rw [State.heap_pushCell_of_lt (h := hlt)]; exact b
    refine ⟨?_, State.heap_setCell_self hb2, by simp [mzS, d], ?_⟩
    · simp [mzS, State.setCell, a]; omega
    · simp [mzS, u, mzI, Nat.succ_mul]; omega

