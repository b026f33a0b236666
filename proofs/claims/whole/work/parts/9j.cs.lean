/-! The show, the class whole. -/
theorem cc_X8_init_24 (l : Launch) (t : TT) (D : va_G) (B : Nat) (M : Mem) (S : Sts) (hM0 : ∀ o k : Int, 25 ≤ o → M o k = 0) : CC l yX8_init cX8_init 1 1 23 t D B 24 25 62 M (fil M ((60 : Nat) : Int) ((401 : Nat) : Int) (-1)) S (stU (stU (stU (stU (stU S ((24 : Nat) : Int) ((0 : Nat) : Int)) ((24 : Nat) : Int) ((1 : Nat) : Int)) ((24 : Nat) : Int) ((2 : Nat) : Int)) ((24 : Nat) : Int) ((3 : Nat) : Int)) ((24 : Nat) : Int) ((4 : Nat) : Int)) 37 1128 := by
  refine CC.of (own := "RedSkies$Show") (ls0 := [some (.ref (alB B ((24 : Nat) : Int)))]) (by decide +kernel) rfl rfl (Nat.le_of_ble_eq_true rfl) rfl ?_
  intro p e s m args below meth c X hz0 hin hr hlk
  refine gc_aload X dX8_init_0 rfl rfl ?_
  refine gc_objI X wd_211 wd_88 wd_89 rfl (Nat.le_of_ble_eq_true rfl) (Nat.le_of_ble_eq_true rfl) dX8_init_1 ?_
  refine gc_aload X dX8_init_4 rfl rfl ?_
  refine gc_bipush X dX8_init_5 (by decide +kernel) ?_
  refine gc_bipush X dX8_init_7 (by decide +kernel) ?_
  refine gc_mnew X (n := 25) (a := 16) (b := 6) (N := 16) (K := 6) (by decide) rfl (by decide) rfl kd_25 (by decide +kernel) (fun j i hj => hM0 _ _ (by omega)) wd_212 wd_105 (Nat.le_of_ble_eq_true rfl) (Nat.le_of_ble_eq_true rfl) dX8_init_9 ?_
  refine gc_putr X hin (by omega) (o := 24) (k := 0) (g := 25) (n := 42) (by decide) kd_24 fc7 (by decide) wd_216 rfl rfl rfl rfl dX8_init_13 ?_
  refine gc_aload X dX8_init_16 rfl rfl ?_
  refine gc_bipush X dX8_init_17 (by decide +kernel) ?_
  refine gc_bipush X dX8_init_19 (by decide +kernel) ?_
  refine gc_mnew X (n := 42) (a := 16) (b := 12) (N := 16) (K := 12) (by decide) rfl (by decide) rfl kd_42 (by decide +kernel) (fun j i hj => hM0 _ _ (by omega)) wd_212 wd_105 (Nat.le_of_ble_eq_true rfl) (Nat.le_of_ble_eq_true rfl) dX8_init_21 ?_
  refine gc_putr X hin (by omega) (o := 24) (k := 1) (g := 42) (n := 59) (by decide) kd_24 fc7 (by decide) wd_218 rfl rfl rfl rfl dX8_init_25 ?_
  refine gc_aload X dX8_init_28 rfl rfl ?_
  refine gc_bipush X dX8_init_29 (by decide +kernel) ?_
  refine gc_newi X (n := 59) (a := 6) (N := 6) (by decide) rfl kd_59 (fun j => hM0 _ _ (by decide)) wd_105 (Nat.le_of_ble_eq_true rfl) (Nat.le_of_ble_eq_true rfl) dX8_init_31 ?_
  refine gc_putr X hin (by omega) (o := 24) (k := 2) (g := 59) (n := 60) (by decide) kd_24 fc7 (by decide) wd_221 rfl rfl rfl rfl dX8_init_33 ?_
  refine gc_aload X dX8_init_36 rfl rfl ?_
  refine gc_sipush X dX8_init_37 (by decide +kernel) ?_
  refine gc_newi X (n := 60) (a := 401) (N := 401) (by decide) rfl kd_60 (fun j => hM0 _ _ (by decide)) wd_105 (Nat.le_of_ble_eq_true rfl) (Nat.le_of_ble_eq_true rfl) dX8_init_40 ?_
  refine gc_putr X hin (by omega) (o := 24) (k := 3) (g := 60) (n := 61) (by decide) kd_24 fc7 (by decide) wd_223 rfl rfl rfl rfl dX8_init_42 ?_
  refine gc_aload X dX8_init_45 rfl rfl ?_
  refine gc_sipush X dX8_init_46 (by decide +kernel) ?_
  refine gc_newi X (n := 61) (a := 401) (N := 401) (by decide) rfl kd_61 (fun j => hM0 _ _ (by decide)) wd_105 (Nat.le_of_ble_eq_true rfl) (Nat.le_of_ble_eq_true rfl) dX8_init_49 ?_
  refine gc_putr X hin (by omega) (o := 24) (k := 4) (g := 61) (n := 62) (by decide) kd_24 fc7 (by decide) wd_225 rfl rfl rfl rfl dX8_init_51 ?_
  refine gc_aload X dX8_init_54 rfl rfl ?_
  refine gc_getr X (o := 24) (k := 3) (g := 60) (n := 62) (by decide) kd_24 fc7 (by decide) wd_223 rfl (by simp [stU]) dX8_init_55 ?_
  refine gc_iconst X dX8_init_58 ?_
  refine gc_fill X (o := 60) (N := 401) (n := 62) (by decide) kd_60 (by decide) lk_RX8_29 ⟨Nat.le_of_ble_eq_true rfl, Nat.le_of_ble_eq_true rfl⟩ ⟨Nat.le_of_ble_eq_true rfl, Nat.le_of_ble_eq_true rfl⟩ rfl (Nat.le_of_ble_eq_true rfl) dX8_init_59 ?_
  exact gc_ret X hr hlk dX8_init_62
theorem cc_X8_init_62 (l : Launch) (t : TT) (D : va_G) (B : Nat) (M : Mem) (S : Sts) (hM0 : ∀ o k : Int, 63 ≤ o → M o k = 0) : CC l yX8_init cX8_init 1 1 23 t D B 62 63 100 M (fil M ((98 : Nat) : Int) ((401 : Nat) : Int) (-1)) S (stU (stU (stU (stU (stU S ((62 : Nat) : Int) ((0 : Nat) : Int)) ((62 : Nat) : Int) ((1 : Nat) : Int)) ((62 : Nat) : Int) ((2 : Nat) : Int)) ((62 : Nat) : Int) ((3 : Nat) : Int)) ((62 : Nat) : Int) ((4 : Nat) : Int)) 37 1128 := by
  refine CC.of (own := "RedSkies$Show") (ls0 := [some (.ref (alB B ((62 : Nat) : Int)))]) (by decide +kernel) rfl rfl (Nat.le_of_ble_eq_true rfl) rfl ?_
  intro p e s m args below meth c X hz0 hin hr hlk
  refine gc_aload X dX8_init_0 rfl rfl ?_
  refine gc_objI X wd_211 wd_88 wd_89 rfl (Nat.le_of_ble_eq_true rfl) (Nat.le_of_ble_eq_true rfl) dX8_init_1 ?_
  refine gc_aload X dX8_init_4 rfl rfl ?_
  refine gc_bipush X dX8_init_5 (by decide +kernel) ?_
  refine gc_bipush X dX8_init_7 (by decide +kernel) ?_
  refine gc_mnew X (n := 63) (a := 16) (b := 6) (N := 16) (K := 6) (by decide) rfl (by decide) rfl kd_63 (by decide +kernel) (fun j i hj => hM0 _ _ (by omega)) wd_212 wd_105 (Nat.le_of_ble_eq_true rfl) (Nat.le_of_ble_eq_true rfl) dX8_init_9 ?_
  refine gc_putr X hin (by omega) (o := 62) (k := 0) (g := 63) (n := 80) (by decide) kd_62 fc7 (by decide) wd_216 rfl rfl rfl rfl dX8_init_13 ?_
  refine gc_aload X dX8_init_16 rfl rfl ?_
  refine gc_bipush X dX8_init_17 (by decide +kernel) ?_
  refine gc_bipush X dX8_init_19 (by decide +kernel) ?_
  refine gc_mnew X (n := 80) (a := 16) (b := 12) (N := 16) (K := 12) (by decide) rfl (by decide) rfl kd_80 (by decide +kernel) (fun j i hj => hM0 _ _ (by omega)) wd_212 wd_105 (Nat.le_of_ble_eq_true rfl) (Nat.le_of_ble_eq_true rfl) dX8_init_21 ?_
  refine gc_putr X hin (by omega) (o := 62) (k := 1) (g := 80) (n := 97) (by decide) kd_62 fc7 (by decide) wd_218 rfl rfl rfl rfl dX8_init_25 ?_
  refine gc_aload X dX8_init_28 rfl rfl ?_
  refine gc_bipush X dX8_init_29 (by decide +kernel) ?_
  refine gc_newi X (n := 97) (a := 6) (N := 6) (by decide) rfl kd_97 (fun j => hM0 _ _ (by decide)) wd_105 (Nat.le_of_ble_eq_true rfl) (Nat.le_of_ble_eq_true rfl) dX8_init_31 ?_
  refine gc_putr X hin (by omega) (o := 62) (k := 2) (g := 97) (n := 98) (by decide) kd_62 fc7 (by decide) wd_221 rfl rfl rfl rfl dX8_init_33 ?_
  refine gc_aload X dX8_init_36 rfl rfl ?_
  refine gc_sipush X dX8_init_37 (by decide +kernel) ?_
  refine gc_newi X (n := 98) (a := 401) (N := 401) (by decide) rfl kd_98 (fun j => hM0 _ _ (by decide)) wd_105 (Nat.le_of_ble_eq_true rfl) (Nat.le_of_ble_eq_true rfl) dX8_init_40 ?_
  refine gc_putr X hin (by omega) (o := 62) (k := 3) (g := 98) (n := 99) (by decide) kd_62 fc7 (by decide) wd_223 rfl rfl rfl rfl dX8_init_42 ?_
  refine gc_aload X dX8_init_45 rfl rfl ?_
  refine gc_sipush X dX8_init_46 (by decide +kernel) ?_
  refine gc_newi X (n := 99) (a := 401) (N := 401) (by decide) rfl kd_99 (fun j => hM0 _ _ (by decide)) wd_105 (Nat.le_of_ble_eq_true rfl) (Nat.le_of_ble_eq_true rfl) dX8_init_49 ?_
  refine gc_putr X hin (by omega) (o := 62) (k := 4) (g := 99) (n := 100) (by decide) kd_62 fc7 (by decide) wd_225 rfl rfl rfl rfl dX8_init_51 ?_
  refine gc_aload X dX8_init_54 rfl rfl ?_
  refine gc_getr X (o := 62) (k := 3) (g := 98) (n := 100) (by decide) kd_62 fc7 (by decide) wd_223 rfl (by simp [stU]) dX8_init_55 ?_
  refine gc_iconst X dX8_init_58 ?_
  refine gc_fill X (o := 98) (N := 401) (n := 100) (by decide) kd_98 (by decide) lk_RX8_29 ⟨Nat.le_of_ble_eq_true rfl, Nat.le_of_ble_eq_true rfl⟩ ⟨Nat.le_of_ble_eq_true rfl, Nat.le_of_ble_eq_true rfl⟩ rfl (Nat.le_of_ble_eq_true rfl) dX8_init_59 ?_
  exact gc_ret X hr hlk dX8_init_62

