/-! Arrays.fill in a growing world. -/
theorem cf_fill (l : Launch) (t : TT) (D : va_G) (B n o N : Nat) (v : Int) (M : Mem) (S : Sts) (ho : o < n) (hk : kd (o : Int) = (1, N, [])) (hN : N ≤ 100000) : Met l yJ7_fill_53178 (Cond.code yJ7_fill_53178 cJ7_fill_53178 4 none :: tb) (rmC 0 0 0 0) (va_Pc [.ref (alB B (o : Int)), .int (iN v)] (RepC t D B n M S)) (QC t D B n (fil M (o : Int) (N : Int) v) S) 0 0 (fun q => B ≤ q) := by
  refine Met.ofW (cc := cJ7_fill_53178) (maxL := 4) (ret := none) (by decide +kernel) rfl ?_
  intro p e s m args below meth c s₁ Bd hml hv
  obtain ⟨rfl, hz0, hP, hK, hNw, hO⟩ := hv
  have hts : ∀ w ∈ tb, w.before [Value.ref (alB B (o : Int)), .int (iN v)].toArray s = true := fun w hw => atoms_spec Bd.pre w (List.mem_cons_of_mem _ hw)
  have hown : s.vm.findClass "java/util/Arrays" = some m.cls := findClass_of_methodNamed Bd.named
  have X : Cc p s m [Value.ref (alB B (o : Int)), .int (iN v)].toArray c cJ7_fill_53178 "java/util/Arrays" 4 t D := ⟨Bd.exec, Bd.bytes, hml, hown, hts, hNw, hK, hO⟩
  have hr := Bd.returns
  have hlk := Bd.notSynchronized
  rw [lg_entry_eq]
  have goal : Gc p l e (rmC 0 0 0 0) s m [Value.ref (alB B (o : Int)), .int (iN v)].toArray below meth c (MQ below (QC t D B n (fil M (o : Int) (N : Int) v) S) [Value.ref (alB B (o : Int)), .int (iN v)].toArray s 0 0 (fun q => B ≤ q)) t D B n 0 0 0 [some (.ref (alB B (o : Int))), some (.int (iN v)), none, none] [] M S := by
    refine gc_iconst X dJ7_fill_53178_0 ?_
    refine gc_istore X dJ7_fill_53178_1 rfl (by simp) (by simp [lok]; rfl) ?_
    refine gc_aload X dJ7_fill_53178_2 rfl rfl ?_
    refine gc_alen X ho hk dJ7_fill_53178_3 ?_
    refine gc_istore X dJ7_fill_53178_4 rfl (by simp) (by simp [lok]; rfl) ?_
    have L : ∀ (r : Nat) (i : Int), 0 ≤ i → i ≤ N → ((N : Int) - i).toNat < r → Gc p l e (rmC 0 0 0 0) s m [Value.ref (alB B (o : Int)), .int (iN v)].toArray below meth c (MQ below (QC t D B n (fil M (o : Int) (N : Int) v) S) [Value.ref (alB B (o : Int)), .int (iN v)].toArray s 0 0 (fun q => B ≤ q)) t D B n 0 0 5 [some (.ref (alB B (o : Int))), some (.int (iN v)), some (.int (iN i)), some (.int (iN N))] [] (fil M (o : Int) i v) S := by
      intro r
      induction r with
      | zero => intro i i0 i1 hm; exact absurd hm (Nat.not_lt_zero _)
      | succ r ih =>
        intro i i0 i1 hm
        refine gc_iload X dJ7_fill_53178_5 rfl rfl ?_
        refine gc_iload X dJ7_fill_53178_6 rfl rfl ?_
        refine gc_icmp_ge (tgt := 20) X dJ7_fill_53178_7 (by decide) ⟨by omega, by omega⟩ ⟨by omega, by omega⟩ (fun q => ?_) (fun q => ?_)
        · obtain rfl : i = N := by omega
          exact gc_ret X hr hlk dJ7_fill_53178_20
        · refine gc_aload X dJ7_fill_53178_10 rfl rfl ?_
          refine gc_iload X dJ7_fill_53178_11 rfl rfl ?_
          refine gc_iload X dJ7_fill_53178_12 rfl rfl ?_
          refine gc_iast X (by omega) ho hk hN i0 q dJ7_fill_53178_13 ?_
          rw [fil_s i0]
          refine gc_iinc X dJ7_fill_53178_14 rfl (by simp) (by simp [lok]; rfl) ?_
          refine gc_goto (tgt := 5) X dJ7_fill_53178_17 (by decide) ?_
          exact ih (i + 1) (by omega) (by omega) (by omega)
    have h := L _ 0 (by omega) (by omega) (Nat.lt_succ_self _)
    rw [fil_0] at h
    exact h
  exact goal s.heap [] _ hP hz0 va_S.rf (entry_lvp [.ref (alB B (o : Int)), .int (iN v)] (n := 4) (Nat.le_of_ble_eq_true rfl))
section
variable {p : Program} {l : Launch} {e : Env} {R : Room} {s : State} {m : MethodId} {args : Array Value} {below : List Frame} {meth : Method} {c : Code} {Q : State → Prop} {t : TT} {D : va_G} {B n kc ks pc : Nat} {ls : List (Option Value)} {st : List Value} {M : Mem} {S : Sts} {cc : ByteArray} {own : String} {nL : Nat}
theorem gc_fill (X : Cc p s m args c cc own nL t D) {o N idx : Nat} {v : Int} (ho : o < n) (hk : kd (o : Int) = (1, N, [])) (hN : N ≤ 100000) (V : SC own idx yJ7_fill_53178 cJ7_fill_53178 4 none 2) (hR : 0 + 1 ≤ R.frames ∧ 8 + (4 + 11) + 0 ≤ R.locals) (hc : kc ≤ R.cells ∧ ks ≤ R.slots) (hlen : ls.length = nL) (hcat : (st.map fun v => v.category).sum ≤ 8) (hd : decode cc pc = .ok (.invokestatic idx, 3)) (kk : Gc p l e R s m args below meth c Q t D B n kc ks (pc + 3) ls st (fil M (o : Int) (N : Int) v) S) : Gc p l e R s m args below meth c Q t D B n kc ks pc ls (.int (iN v) :: .ref (alB B (o : Int)) :: st) M S := by
  intro H locs la hP hz hS hv
  have hG : GoodIn tb (va_wsS own idx yJ7_fill_53178 (Cond.code yJ7_fill_53178 cJ7_fill_53178 4 none :: tb)) := tb_GI (tb_cons V.1 (tb_cons V.2.1 (tb_cons V.2.2.1 (tb_cons V.2.2.2.1 (fun _ h => h)))))
  refine va_callv (va_runS (As := [.ref (alB B (o : Int)), .int (iN v)]) (rest := st) (nL := nL) ⟨X.1, X.2.1, X.2.2.1, X.2.2.2.1, X.2.2.2.2.1⟩ (cf_fill l t D B n o N v M S ho hk hN) (va_cwS 2 X.2.2.2.2.1 hG rfl rfl rfl V.2.2.2.2 hR) ⟨repC_blind, fun U hU hW => ⟨rfl, by rw [hU]; exact hz, by rw [hU]; exact hP, va_K.moved hW.alike X.2.2.2.2.2.2.1, nw_warm hW X.2.2.2.2.2.1, mzO.moved hW.alike X.2.2.2.2.2.2.2⟩⟩ rfl rfl (by show la.size = nL; rw [hv.1, hlen]) rfl (lv_room hcat) hd ⟨by have := hc.1; omega, by have := hc.2; omega⟩) hS (fun q _ h => h) (fun q h => h) (fun u tt H1 locs1 ht hvm hw hB hz1 hk1 hS1 => ?_)
  obtain ⟨z1, p1, -, -⟩ := hB
  rw [ht] at z1 p1
  exact kk H1 locs1 la p1 z1 hS1 hv
end

