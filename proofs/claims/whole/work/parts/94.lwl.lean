/-! The law's loop. -/
theorem law_loop {p : Program} {l : Launch} {e : Env} {s : State} {m : MethodId} {args : Array Value} {below : List Frame} {meth : Method} {c : Code} {kc ks : Nat} {Q : State → Prop} {t : TT} {D : va_G} {al : Int → Nat} {A : Nat → Prop} {b L : Nat} {xs : Nat → Int32} (X : Cx p s m args c room_1 kc ks cL_law "RedSkiesLaw" 4 t D al A) (hX : va_X b L xs s s.heap) (hbl : b < s.heap.size) (hbA : ¬ A b) (hL : L ≤ 448) (hend : ∀ (i : Int) (M : Mem), Gd p l e room_1 s m args below meth c kc ks Q t D al A 1093 [some (.ref b), some (.ref (al 0)), some (.ref (al 114)), some (.int (iN i))] [.int (iN 1)] M) : ∀ (n : Nat) (i : Int) (M : Mem), 0 ≤ i → i ≤ L → IVA M → ((L : Int) - i).toNat < n → Gd p l e room_1 s m args below meth c kc ks Q t D al A 18 [some (.ref b), some (.ref (al 0)), some (.ref (al 114)), some (.int (iN i))] [] M := by
  intro n
  induction n with
  | zero => intro i M i0 i1 x hm; exact absurd hm (Nat.not_lt_zero _)
  | succ n ih =>
    intro i M i0 i1 x hm
    have kk : i + 7 ≤ L → ∀ M2, IVA M2 → Gd p l e room_1 s m args below meth c kc ks Q t D al A 1086 [some (.ref b), some (.ref (al 0)), some (.ref (al 114)), some (.int (iN i))] [] M2 := fun h M2 x2 => by
      refine g_iinc_3 X dL_law_1086 rfl (fun v ev => ?_)
      subst v
      refine g_goto (tgt := 18) X dL_law_1089 (by decide) ?_
      exact ih (i + 7) M2 (by omega) (by omega) x2 (by omega)
    refine g_iload_n X dL_law_18 rfl rfl ?_
    refine g_aload_n X dL_law_19 rfl rfl ?_
    refine g_slen X hX hbl hbA dL_law_20 ?_
    refine g_bipush X dL_law_21 (by decide +kernel) ?_
    refine g_isub X dL_law_23 ?_
    refine g_icmp_gt (tgt := 1092) X dL_law_24 (by decide) ⟨by omega, by omega⟩ ⟨by omega, by omega⟩ (fun q24 => ?_) (fun q24 => ?_)
    · refine g_iconst X dL_law_1092 ?_
      exact hend i M
    · refine g_aload_n X dL_law_27 rfl rfl ?_
      refine g_iload_n X dL_law_28 rfl rfl ?_
      refine g_sld X hX hbl hbA i0 (by omega) hL dL_law_29 ?_
      refine g_bipush X dL_law_30 (by decide +kernel) ?_
      refine g_iand X dL_law_32 ?_
      have hr : i32 (and32 (xs i.toNat).toInt 31) := i32_of _
      generalize and32 (xs i.toNat).toInt 31 = w at hr ⊢
      rcases (by omega : (w < 0 ∨ 28 < w) ∨ w = 0 ∨ w = 1 ∨ w = 2 ∨ w = 3 ∨ w = 4 ∨ w = 5 ∨ w = 6 ∨ w = 7 ∨ w = 8 ∨ w = 9 ∨ w = 10 ∨ w = 11 ∨ w = 12 ∨ w = 13 ∨ w = 14 ∨ w = 15 ∨ w = 16 ∨ w = 17 ∨ w = 18 ∨ w = 19 ∨ w = 20 ∨ w = 21 ∨ w = 22 ∨ w = 23 ∨ w = 24 ∨ w = 25 ∨ w = 26 ∨ w = 27 ∨ w = 28) with q33 | q33 | q33 | q33 | q33 | q33 | q33 | q33 | q33 | q33 | q33 | q33 | q33 | q33 | q33 | q33 | q33 | q33 | q33 | q33 | q33 | q33 | q33 | q33 | q33 | q33 | q33 | q33 | q33 | q33
      · refine g_tsOut (tgt := 1086) X dL_law_33 hr q33 (by decide) ?_
        exact kk (by omega) M x
      · exact g_tsIn (tgt := 164) (off := 131) X dL_law_33 hr (by omega) (by omega) (by rw [q33]; rfl) (by decide) (law_letters X hX hbl hbA hL i0 (by omega) x (kk (by omega)))
      · exact g_tsIn (tgt := 217) (off := 184) X dL_law_33 hr (by omega) (by omega) (by rw [q33]; rfl) (by decide) (law_blank X hX hbl hbA hL i0 (by omega) x (kk (by omega)))
      · exact g_tsIn (tgt := 230) (off := 197) X dL_law_33 hr (by omega) (by omega) (by rw [q33]; rfl) (by decide) (law_fault X hX hbl hbA hL i0 (by omega) x (kk (by omega)))
      · exact g_tsIn (tgt := 253) (off := 220) X dL_law_33 hr (by omega) (by omega) (by rw [q33]; rfl) (by decide) (law_lamp X hX hbl hbA hL i0 (by omega) x (kk (by omega)))
      · exact g_tsIn (tgt := 266) (off := 233) X dL_law_33 hr (by omega) (by omega) (by rw [q33]; rfl) (by decide) (law_measure X hX hbl hbA hL i0 (by omega) x (kk (by omega)))
      · exact g_tsIn (tgt := 279) (off := 246) X dL_law_33 hr (by omega) (by omega) (by rw [q33]; rfl) (by decide) (law_law X hX hbl hbA hL i0 (by omega) x (kk (by omega)))
      · exact g_tsIn (tgt := 292) (off := 259) X dL_law_33 hr (by omega) (by omega) (by rw [q33]; rfl) (by decide) (law_pigment X hX hbl hbA hL i0 (by omega) x (kk (by omega)))
      · exact g_tsIn (tgt := 325) (off := 292) X dL_law_33 hr (by omega) (by omega) (by rw [q33]; rfl) (by decide) (law_picture X hX hbl hbA hL i0 (by omega) x (kk (by omega)))
      · exact g_tsIn (tgt := 400) (off := 367) X dL_law_33 hr (by omega) (by omega) (by rw [q33]; rfl) (by decide) (law_colour X hX hbl hbA hL i0 (by omega) x (kk (by omega)))
      · exact g_tsIn (tgt := 453) (off := 420) X dL_law_33 hr (by omega) (by omega) (by rw [q33]; rfl) (by decide) (law_as X hX hbl hbA hL i0 (by omega) x (kk (by omega)))
      · exact g_tsIn (tgt := 486) (off := 453) X dL_law_33 hr (by omega) (by omega) (by rw [q33]; rfl) (by decide) (law_about X hX hbl hbA hL i0 (by omega) x (kk (by omega)))
      · exact g_tsIn (tgt := 519) (off := 486) X dL_law_33 hr (by omega) (by omega) (by rw [q33]; rfl) (by decide) (law_value X hX hbl hbA hL i0 (by omega) x (kk (by omega)))
      · exact g_tsIn (tgt := 552) (off := 519) X dL_law_33 hr (by omega) (by omega) (by rw [q33]; rfl) (by decide) (law_mountain X hX hbl hbA hL i0 (by omega) x (kk (by omega)))
      · exact g_tsIn (tgt := 575) (off := 542) X dL_law_33 hr (by omega) (by omega) (by rw [q33]; rfl) (by decide) (law_near X hX hbl hbA hL i0 (by omega) x (kk (by omega)))
      · exact g_tsIn (tgt := 608) (off := 575) X dL_law_33 hr (by omega) (by omega) (by rw [q33]; rfl) (by decide) (law_paint X hX hbl hbA hL i0 (by omega) x (kk (by omega)))
      · exact g_tsIn (tgt := 651) (off := 618) X dL_law_33 hr (by omega) (by omega) (by rw [q33]; rfl) (by decide) (law_stat X hX hbl hbA hL i0 (by omega) x (kk (by omega)))
      · exact g_tsIn (tgt := 684) (off := 651) X dL_law_33 hr (by omega) (by omega) (by rw [q33]; rfl) (by decide) (law_odds X hX hbl hbA hL i0 (by omega) x (kk (by omega)))
      · exact g_tsIn (tgt := 728) (off := 695) X dL_law_33 hr (by omega) (by omega) (by rw [q33]; rfl) (by decide) (law_paid X hX hbl hbA hL i0 (by omega) x (kk (by omega)))
      · exact g_tsIn (tgt := 762) (off := 729) X dL_law_33 hr (by omega) (by omega) (by rw [q33]; rfl) (by decide) (law_hangs X hX hbl hbA hL i0 (by omega) x (kk (by omega)))
      · exact g_tsIn (tgt := 795) (off := 762) X dL_law_33 hr (by omega) (by omega) (by rw [q33]; rfl) (by decide) (law_next X hX hbl hbA hL i0 (by omega) x (kk (by omega)))
      · exact g_tsIn (tgt := 828) (off := 795) X dL_law_33 hr (by omega) (by omega) (by rw [q33]; rfl) (by decide) (law_ice X hX hbl hbA hL i0 (by omega) x (kk (by omega)))
      · exact g_tsIn (tgt := 871) (off := 838) X dL_law_33 hr (by omega) (by omega) (by rw [q33]; rfl) (by decide) (law_classes X hX hbl hbA hL i0 (by omega) x (kk (by omega)))
      · exact g_tsIn (tgt := 914) (off := 881) X dL_law_33 hr (by omega) (by omega) (by rw [q33]; rfl) (by decide) (law_back X hX hbl hbA hL i0 (by omega) x (kk (by omega)))
      · exact g_tsIn (tgt := 957) (off := 924) X dL_law_33 hr (by omega) (by omega) (by rw [q33]; rfl) (by decide) (law_dates X hX hbl hbA hL i0 (by omega) x (kk (by omega)))
      · exact g_tsIn (tgt := 1000) (off := 967) X dL_law_33 hr (by omega) (by omega) (by rw [q33]; rfl) (by decide) (law_wrong X hX hbl hbA hL i0 (by omega) x (kk (by omega)))
      · exact g_tsIn (tgt := 1023) (off := 990) X dL_law_33 hr (by omega) (by omega) (by rw [q33]; rfl) (by decide) (law_image X hX hbl hbA hL i0 (by omega) x (kk (by omega)))
      · exact g_tsIn (tgt := 1036) (off := 1003) X dL_law_33 hr (by omega) (by omega) (by rw [q33]; rfl) (by decide) (law_restore X hX hbl hbA hL i0 (by omega) x (kk (by omega)))
      · exact g_tsIn (tgt := 1049) (off := 1016) X dL_law_33 hr (by omega) (by omega) (by rw [q33]; rfl) (by decide) (law_count X hX hbl hbA hL i0 (by omega) x (kk (by omega)))
      · exact g_tsIn (tgt := 1072) (off := 1039) X dL_law_33 hr (by omega) (by omega) (by rw [q33]; rfl) (by decide) (law_digest X hX hbl hbA hL i0 (by omega) x (kk (by omega)))
/-- a new class, a new reference -/
def M00 : Mem := fun o k => if (o = 60 ∧ 0 ≤ k ∧ k < 401) ∨ (o = 98 ∧ 0 ≤ k ∧ k < 401) ∨ (o = 134 ∧ 0 ≤ k ∧ k < 401) ∨ (o = 114 ∧ k = 46) then -1 else 0
theorem M00_0 {o k : Int} (h : ¬ ((o = 60 ∧ 0 ≤ k ∧ k < 401) ∨ (o = 98 ∧ 0 ≤ k ∧ k < 401) ∨ (o = 134 ∧ 0 ≤ k ∧ k < 401) ∨ (o = 114 ∧ k = 46))) : M00 o k = 0 := if_neg h
theorem M00_1 {o k : Int} (h : (o = 60 ∧ 0 ≤ k ∧ k < 401) ∨ (o = 98 ∧ 0 ≤ k ∧ k < 401) ∨ (o = 134 ∧ 0 ≤ k ∧ k < 401) ∨ (o = 114 ∧ k = 46)) : M00 o k = -1 := if_pos h
theorem iva0 : IVA M00 := by
  have z : ∀ k : Int, k ≠ 46 → M00 114 k = 0 := fun k hk => M00_0 (by omega)
  refine ⟨⟨?_, ?_⟩, ⟨?_, ?_, ?_⟩, ⟨?_, ?_⟩, ⟨?_, ?_⟩, ⟨?_, ?_, ?_⟩, ?_⟩
  · unfold WTab
    rw [z 13 (by omega), z 15 (by omega), z 17 (by omega), z 19 (by omega), z 20 (by omega)]
    exact ⟨by omega, fun i a b => by rw [M00_0 (by omega)]; omega, by omega, fun i a b => by rw [M00_0 (by omega)]; omega, by omega, fun i a b => by rw [M00_0 (by omega)]; omega, by omega, by omega, fun i a b => by rw [M00_0 (by omega), M00_0 (by omega)]; omega⟩
  · unfold IT
    rw [z 13 (by omega), z 15 (by omega), z 17 (by omega), z 19 (by omega), z 20 (by omega), M00_0 (o := 0) (k := 13) (by omega), M00_0 (o := 0) (k := 14) (by omega), M00_0 (o := 0) (k := 15) (by omega), M00_0 (o := 22) (k := 1) (by omega), M00_0 (o := 22) (k := 2) (by omega)]
    exact ⟨⟨rfl, fun l c a b => by omega⟩, ⟨rfl, fun i a b => by omega⟩, ⟨rfl, fun l c a b => by omega⟩, rfl, rfl, fun k a b => by omega⟩
  · unfold WPic
    rw [z 13 (by omega), z 20 (by omega), z 23 (by omega), z 26 (by omega), z 40 (by omega)]
    exact ⟨by omega, by omega, by omega, fun p a b => by omega, fun p c a b => by omega, fun i a b => by rw [M00_0 (by omega)]; omega, fun y a b => by rw [M00_1 (by omega), M00_0 (by omega)]; omega⟩
  · unfold IS
    rw [z 23 (by omega), z 26 (by omega), z 40 (by omega)]
    exact ⟨⟨M00_0 (by omega), M00_0 (by omega), M00_0 (by omega)⟩, fun p c a b => by omega, fun p c a b => by omega, fun i a b => by rw [M00_0 (by omega), M00_0 (by omega)], fun y a b => by rw [M00_1 (by omega), M00_1 (by omega)]; exact ⟨rfl, fun q => absurd rfl q⟩⟩
  · unfold IceN
    rw [z 40 (by omega)]
    exact (sm_zero (fun i a b => by
      show (if M00 134 i = -1 then (0 : Int) else 1) = 0
      rw [M00_1 (by omega), if_pos rfl])).symm
  · unfold WPage
    rw [z 1 (by omega)]
    exact ⟨by omega, fun i a b => by omega⟩
  · unfold IG
    rw [z 1 (by omega)]
    exact ⟨M00_0 (by omega), fun i a b => by omega⟩
  · unfold WDone
    rw [z 39 (by omega)]; omega
  · unfold ID
    rw [z 39 (by omega)]; exact M00_0 (by omega)
  · unfold WKept
    rw [M00_1 (o := 114) (k := 46) (by omega)]
    exact ⟨by omega, by omega, fun q => absurd rfl q⟩
  · exact Or.inl ⟨M00_0 (by omega), M00_1 (by omega)⟩
  · intro q; exact absurd (M00_1 (by omega)) q
  · intro i a b; rw [M00_0 (by omega)]; omega

