/-! The constructors of one class each. -/
theorem cc_X5_init_1 (l : Launch) (t : TT) (D : va_G) (B : Nat) (M : Mem) (S : Sts) (hM0 : ∀ o k : Int, 2 ≤ o → M o k = 0) : CC l yX5_init cX5_init 1 1 12 t D B 1 2 3 M M S (stU S ((1 : Nat) : Int) ((0 : Nat) : Int)) 1 40 := by
  refine CC.of (own := "RedSkies$Page") (ls0 := [some (.ref (alB B ((1 : Nat) : Int)))]) (by decide +kernel) rfl rfl (Nat.le_of_ble_eq_true rfl) rfl ?_
  intro p e s m args below meth c X hz0 hin hr hlk
  refine gc_aload X dX5_init_0 rfl rfl ?_
  refine gc_objI X wd_95 wd_88 wd_89 rfl (Nat.le_of_ble_eq_true rfl) (Nat.le_of_ble_eq_true rfl) dX5_init_1 ?_
  refine gc_aload X dX5_init_4 rfl rfl ?_
  refine gc_bipush X dX5_init_5 (by decide +kernel) ?_
  refine gc_newi X (n := 2) (a := 40) (N := 40) (by decide) rfl kd_2 (fun j => hM0 _ _ (by decide)) wd_105 (Nat.le_of_ble_eq_true rfl) (Nat.le_of_ble_eq_true rfl) dX5_init_7 ?_
  refine gc_putr X hin (by omega) (o := 1) (k := 0) (g := 2) (n := 3) (by decide) kd_1 fc5 (by decide) wd_96 rfl rfl rfl rfl dX5_init_9 ?_
  exact gc_ret X hr hlk dX5_init_12
theorem cc_X7_init_3 (l : Launch) (t : TT) (D : va_G) (B : Nat) (M : Mem) (S : Sts) (hM0 : ∀ o k : Int, 4 ≤ o → M o k = 0) : CC l yX7_init cX7_init 1 1 12 t D B 3 4 4 M M S S 0 0 := by
  refine CC.of (own := "RedSkies$Reader") (ls0 := [some (.ref (alB B ((3 : Nat) : Int)))]) (by decide +kernel) rfl rfl (Nat.le_of_ble_eq_true rfl) rfl ?_
  intro p e s m args below meth c X hz0 hin hr hlk
  refine gc_aload X dX7_init_0 rfl rfl ?_
  refine gc_objI X wd_114 wd_88 wd_89 rfl (Nat.le_of_ble_eq_true rfl) (Nat.le_of_ble_eq_true rfl) dX7_init_1 ?_
  exact gc_ret X hr hlk dX7_init_4
theorem cc_X1_init_3 (l : Launch) (t : TT) (D : va_G) (B : Nat) (M : Mem) (S : Sts) (hM0 : ∀ o k : Int, 4 ≤ o → M o k = 0) : CC l yX1_init cX1_init 1 2 32 t D B 3 4 6 M M S (stU (stU S ((3 : Nat) : Int) ((0 : Nat) : Int)) ((3 : Nat) : Int) ((1 : Nat) : Int)) 2 6 := by
  refine CC.of (own := "RedSkies$LampReader") (ls0 := [some (.ref (alB B ((3 : Nat) : Int)))]) (by decide +kernel) rfl rfl (Nat.le_of_ble_eq_true rfl) rfl ?_
  intro p e s m args below meth c X hz0 hin hr hlk
  refine gc_aload X dX1_init_0 rfl rfl ?_
  refine gc_initN X (cc_X7_init_3 l t D B _ _ hM0) wd_113 wd_69 nwd_2 wd_112 rfl (by decide +kernel) ⟨Nat.le_of_ble_eq_true rfl, Nat.le_of_ble_eq_true rfl⟩ ⟨Nat.le_of_ble_eq_true rfl, Nat.le_of_ble_eq_true rfl⟩ rfl (Nat.le_of_ble_eq_true rfl) dX1_init_1 ?_
  refine gc_aload X dX1_init_4 rfl rfl ?_
  refine gc_iconst X dX1_init_5 ?_
  refine gc_newi X (n := 4) (a := 3) (N := 3) (by decide) rfl kd_4 (fun j => hM0 _ _ (by decide)) wd_105 (Nat.le_of_ble_eq_true rfl) (Nat.le_of_ble_eq_true rfl) dX1_init_6 ?_
  refine gc_putr X hin (by omega) (o := 3) (k := 0) (g := 4) (n := 5) (by decide) kd_3 fc1 (by decide) wd_115 rfl rfl rfl rfl dX1_init_8 ?_
  refine gc_aload X dX1_init_11 rfl rfl ?_
  refine gc_iconst X dX1_init_12 ?_
  refine gc_newz X (n := 5) (a := 3) (N := 3) (by decide) rfl kd_5 (fun j => hM0 _ _ (by decide)) wd_135 (Nat.le_of_ble_eq_true rfl) (Nat.le_of_ble_eq_true rfl) dX1_init_13 ?_
  refine gc_putr X hin (by omega) (o := 3) (k := 1) (g := 5) (n := 6) (by decide) kd_3 fc1 (by decide) wd_117 rfl rfl rfl rfl dX1_init_15 ?_
  exact gc_ret X hr hlk dX1_init_18
theorem cc_X7_init_6 (l : Launch) (t : TT) (D : va_G) (B : Nat) (M : Mem) (S : Sts) (hM0 : ∀ o k : Int, 7 ≤ o → M o k = 0) : CC l yX7_init cX7_init 1 1 12 t D B 6 7 7 M M S S 0 0 := by
  refine CC.of (own := "RedSkies$Reader") (ls0 := [some (.ref (alB B ((6 : Nat) : Int)))]) (by decide +kernel) rfl rfl (Nat.le_of_ble_eq_true rfl) rfl ?_
  intro p e s m args below meth c X hz0 hin hr hlk
  refine gc_aload X dX7_init_0 rfl rfl ?_
  refine gc_objI X wd_114 wd_88 wd_89 rfl (Nat.le_of_ble_eq_true rfl) (Nat.le_of_ble_eq_true rfl) dX7_init_1 ?_
  exact gc_ret X hr hlk dX7_init_4
theorem cc_X4_init_6 (l : Launch) (t : TT) (D : va_G) (B : Nat) (M : Mem) (S : Sts) (hM0 : ∀ o k : Int, 7 ≤ o → M o k = 0) : CC l yX4_init cX4_init 1 2 32 t D B 6 7 8 M M S (stU S ((6 : Nat) : Int) ((0 : Nat) : Int)) 1 24 := by
  refine CC.of (own := "RedSkies$MeasureReader") (ls0 := [some (.ref (alB B ((6 : Nat) : Int)))]) (by decide +kernel) rfl rfl (Nat.le_of_ble_eq_true rfl) rfl ?_
  intro p e s m args below meth c X hz0 hin hr hlk
  refine gc_aload X dX4_init_0 rfl rfl ?_
  refine gc_initN X (cc_X7_init_6 l t D B _ _ hM0) wd_113 wd_69 nwd_4 wd_112 rfl (by decide +kernel) ⟨Nat.le_of_ble_eq_true rfl, Nat.le_of_ble_eq_true rfl⟩ ⟨Nat.le_of_ble_eq_true rfl, Nat.le_of_ble_eq_true rfl⟩ rfl (Nat.le_of_ble_eq_true rfl) dX4_init_1 ?_
  refine gc_aload X dX4_init_4 rfl rfl ?_
  refine gc_bipush X dX4_init_5 (by decide +kernel) ?_
  refine gc_newi X (n := 7) (a := 24) (N := 24) (by decide) rfl kd_7 (fun j => hM0 _ _ (by decide)) wd_105 (Nat.le_of_ble_eq_true rfl) (Nat.le_of_ble_eq_true rfl) dX4_init_7 ?_
  refine gc_putr X hin (by omega) (o := 6) (k := 0) (g := 7) (n := 8) (by decide) kd_6 fc4 (by decide) wd_142 rfl rfl rfl rfl dX4_init_9 ?_
  exact gc_ret X hr hlk dX4_init_12
theorem cc_X7_init_8 (l : Launch) (t : TT) (D : va_G) (B : Nat) (M : Mem) (S : Sts) (hM0 : ∀ o k : Int, 9 ≤ o → M o k = 0) : CC l yX7_init cX7_init 1 1 12 t D B 8 9 9 M M S S 0 0 := by
  refine CC.of (own := "RedSkies$Reader") (ls0 := [some (.ref (alB B ((8 : Nat) : Int)))]) (by decide +kernel) rfl rfl (Nat.le_of_ble_eq_true rfl) rfl ?_
  intro p e s m args below meth c X hz0 hin hr hlk
  refine gc_aload X dX7_init_0 rfl rfl ?_
  refine gc_objI X wd_114 wd_88 wd_89 rfl (Nat.le_of_ble_eq_true rfl) (Nat.le_of_ble_eq_true rfl) dX7_init_1 ?_
  exact gc_ret X hr hlk dX7_init_4
theorem cc_X3_init_8 (l : Launch) (t : TT) (D : va_G) (B : Nat) (M : Mem) (S : Sts) (hM0 : ∀ o k : Int, 9 ≤ o → M o k = 0) : CC l yX3_init cX3_init 1 2 32 t D B 8 9 10 M M S (stU S ((8 : Nat) : Int) ((0 : Nat) : Int)) 1 5 := by
  refine CC.of (own := "RedSkies$LawReader") (ls0 := [some (.ref (alB B ((8 : Nat) : Int)))]) (by decide +kernel) rfl rfl (Nat.le_of_ble_eq_true rfl) rfl ?_
  intro p e s m args below meth c X hz0 hin hr hlk
  refine gc_aload X dX3_init_0 rfl rfl ?_
  refine gc_initN X (cc_X7_init_8 l t D B _ _ hM0) wd_113 wd_69 nwd_6 wd_112 rfl (by decide +kernel) ⟨Nat.le_of_ble_eq_true rfl, Nat.le_of_ble_eq_true rfl⟩ ⟨Nat.le_of_ble_eq_true rfl, Nat.le_of_ble_eq_true rfl⟩ rfl (Nat.le_of_ble_eq_true rfl) dX3_init_1 ?_
  refine gc_aload X dX3_init_4 rfl rfl ?_
  refine gc_iconst X dX3_init_5 ?_
  refine gc_newi X (n := 9) (a := 5) (N := 5) (by decide) rfl kd_9 (fun j => hM0 _ _ (by decide)) wd_105 (Nat.le_of_ble_eq_true rfl) (Nat.le_of_ble_eq_true rfl) dX3_init_6 ?_
  refine gc_putr X hin (by omega) (o := 8) (k := 0) (g := 9) (n := 10) (by decide) kd_8 fc3 (by decide) wd_168 rfl rfl rfl rfl dX3_init_8 ?_
  exact gc_ret X hr hlk dX3_init_11
theorem cc_X2_init_22 (l : Launch) (t : TT) (D : va_G) (B : Nat) (M : Mem) (S : Sts) (hM0 : ∀ o k : Int, 23 ≤ o → M o k = 0) : CC l yX2_init cX2_init 1 1 12 t D B 22 23 24 M M S (stU S ((22 : Nat) : Int) ((0 : Nat) : Int)) 1 5 := by
  refine CC.of (own := "RedSkies$Law") (ls0 := [some (.ref (alB B ((22 : Nat) : Int)))]) (by decide +kernel) rfl rfl (Nat.le_of_ble_eq_true rfl) rfl ?_
  intro p e s m args below meth c X hz0 hin hr hlk
  refine gc_aload X dX2_init_0 rfl rfl ?_
  refine gc_objI X wd_194 wd_88 wd_89 rfl (Nat.le_of_ble_eq_true rfl) (Nat.le_of_ble_eq_true rfl) dX2_init_1 ?_
  refine gc_aload X dX2_init_4 rfl rfl ?_
  refine gc_iconst X dX2_init_5 ?_
  refine gc_newi X (n := 23) (a := 5) (N := 5) (by decide) rfl kd_23 (fun j => hM0 _ _ (by decide)) wd_105 (Nat.le_of_ble_eq_true rfl) (Nat.le_of_ble_eq_true rfl) dX2_init_6 ?_
  refine gc_putr X hin (by omega) (o := 22) (k := 0) (g := 23) (n := 24) (by decide) kd_22 fc2 (by decide) wd_195 rfl rfl rfl rfl dX2_init_8 ?_
  exact gc_ret X hr hlk dX2_init_11
theorem cc_X0_init_100 (l : Launch) (t : TT) (D : va_G) (B : Nat) (M : Mem) (S : Sts) (hM0 : ∀ o k : Int, 101 ≤ o → M o k = 0) : CC l yX0_init cX0_init 1 1 12 t D B 100 101 113 M M S (stU (stU (stU S ((100 : Nat) : Int) ((0 : Nat) : Int)) ((100 : Nat) : Int) ((1 : Nat) : Int)) ((100 : Nat) : Int) ((7 : Nat) : Int)) 12 1202 := by
  refine CC.of (own := "RedSkies$Dealing") (ls0 := [some (.ref (alB B ((100 : Nat) : Int)))]) (by decide +kernel) rfl rfl (Nat.le_of_ble_eq_true rfl) rfl ?_
  intro p e s m args below meth c X hz0 hin hr hlk
  refine gc_aload X dX0_init_0 rfl rfl ?_
  refine gc_objI X wd_255 wd_88 wd_89 rfl (Nat.le_of_ble_eq_true rfl) (Nat.le_of_ble_eq_true rfl) dX0_init_1 ?_
  refine gc_aload X dX0_init_4 rfl rfl ?_
  refine gc_bipush X dX0_init_5 (by decide +kernel) ?_
  refine gc_newi X (n := 101) (a := 16) (N := 16) (by decide) rfl kd_101 (fun j => hM0 _ _ (by decide)) wd_105 (Nat.le_of_ble_eq_true rfl) (Nat.le_of_ble_eq_true rfl) dX0_init_7 ?_
  refine gc_putr X hin (by omega) (o := 100) (k := 0) (g := 101) (n := 102) (by decide) kd_100 fc0 (by decide) wd_257 rfl rfl rfl rfl dX0_init_9 ?_
  refine gc_aload X dX0_init_12 rfl rfl ?_
  refine gc_bipush X dX0_init_13 (by decide +kernel) ?_
  refine gc_newi X (n := 102) (a := 16) (N := 16) (by decide) rfl kd_102 (fun j => hM0 _ _ (by decide)) wd_105 (Nat.le_of_ble_eq_true rfl) (Nat.le_of_ble_eq_true rfl) dX0_init_15 ?_
  refine gc_putr X hin (by omega) (o := 100) (k := 1) (g := 102) (n := 103) (by decide) kd_100 fc0 (by decide) wd_259 rfl rfl rfl rfl dX0_init_17 ?_
  refine gc_aload X dX0_init_20 rfl rfl ?_
  refine gc_bipush X dX0_init_21 (by decide +kernel) ?_
  refine gc_sipush X dX0_init_23 (by decide +kernel) ?_
  refine gc_mnew X (n := 103) (a := 9) (b := 129) (N := 9) (K := 129) (by decide) rfl (by decide) rfl kd_103 (by decide +kernel) (fun j i hj => hM0 _ _ (by omega)) wd_256 wd_105 (Nat.le_of_ble_eq_true rfl) (Nat.le_of_ble_eq_true rfl) dX0_init_26 ?_
  refine gc_putr X hin (by omega) (o := 100) (k := 7) (g := 103) (n := 113) (by decide) kd_100 fc0 (by decide) wd_271 rfl rfl rfl rfl dX0_init_30 ?_
  exact gc_ret X hr hlk dX0_init_33
theorem cc_X6_init_113 (l : Launch) (t : TT) (D : va_G) (B : Nat) (M : Mem) (S : Sts) (hM0 : ∀ o k : Int, 114 ≤ o → M o k = 0) : CC l yX6_init cX6_init 1 1 12 t D B 113 114 114 M M S S 0 0 := by
  refine CC.of (own := "RedSkies$Painter") (ls0 := [some (.ref (alB B ((113 : Nat) : Int)))]) (by decide +kernel) rfl rfl (Nat.le_of_ble_eq_true rfl) rfl ?_
  intro p e s m args below meth c X hz0 hin hr hlk
  refine gc_aload X dX6_init_0 rfl rfl ?_
  refine gc_objI X wd_297 wd_88 wd_89 rfl (Nat.le_of_ble_eq_true rfl) (Nat.le_of_ble_eq_true rfl) dX6_init_1 ?_
  exact gc_ret X hr hlk dX6_init_4

