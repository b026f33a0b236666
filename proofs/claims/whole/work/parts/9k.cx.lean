/-! The class whole. -/
theorem cc_X9_init_0 (l : Launch) (t : TT) (D : va_G) (B : Nat) (M : Mem) (S : Sts) (hM0 : ∀ o k : Int, 1 ≤ o → M o k = 0) (hS0 : ∀ o k : Int, 1 ≤ o → S o k = false) : CC l yX9_init cX9_init 1 3 52 t D B 0 1 114 M (fil (fil M ((60 : Nat) : Int) ((401 : Nat) : Int) (-1)) ((98 : Nat) : Int) ((401 : Nat) : Int) (-1)) S (stU (stU (stU (stU (stU (stU (stU (stU (stU (stU (stU (stU (stU (stU (stU (stU (stU (stU (stU (stU (stU (stU (stU (stU (stU (stU (stU (stU (stU (stU (stU (stU S ((1 : Nat) : Int) ((0 : Nat) : Int)) ((0 : Nat) : Int) ((0 : Nat) : Int)) ((3 : Nat) : Int) ((0 : Nat) : Int)) ((3 : Nat) : Int) ((1 : Nat) : Int)) ((0 : Nat) : Int) ((1 : Nat) : Int)) ((6 : Nat) : Int) ((0 : Nat) : Int)) ((0 : Nat) : Int) ((2 : Nat) : Int)) ((8 : Nat) : Int) ((0 : Nat) : Int)) ((0 : Nat) : Int) ((3 : Nat) : Int)) ((0 : Nat) : Int) ((4 : Nat) : Int)) ((0 : Nat) : Int) ((5 : Nat) : Int)) ((0 : Nat) : Int) ((6 : Nat) : Int)) ((0 : Nat) : Int) ((7 : Nat) : Int)) ((22 : Nat) : Int) ((0 : Nat) : Int)) ((0 : Nat) : Int) ((8 : Nat) : Int)) ((24 : Nat) : Int) ((0 : Nat) : Int)) ((24 : Nat) : Int) ((1 : Nat) : Int)) ((24 : Nat) : Int) ((2 : Nat) : Int)) ((24 : Nat) : Int) ((3 : Nat) : Int)) ((24 : Nat) : Int) ((4 : Nat) : Int)) ((0 : Nat) : Int) ((9 : Nat) : Int)) ((62 : Nat) : Int) ((0 : Nat) : Int)) ((62 : Nat) : Int) ((1 : Nat) : Int)) ((62 : Nat) : Int) ((2 : Nat) : Int)) ((62 : Nat) : Int) ((3 : Nat) : Int)) ((62 : Nat) : Int) ((4 : Nat) : Int)) ((0 : Nat) : Int) ((10 : Nat) : Int)) ((100 : Nat) : Int) ((0 : Nat) : Int)) ((100 : Nat) : Int) ((1 : Nat) : Int)) ((100 : Nat) : Int) ((7 : Nat) : Int)) ((0 : Nat) : Int) ((11 : Nat) : Int)) ((0 : Nat) : Int) ((12 : Nat) : Int)) 113 3710 := by
  refine CC.of (own := "RedSkies") (ls0 := [some (.ref (alB B ((0 : Nat) : Int)))]) (by decide +kernel) rfl rfl (Nat.le_of_ble_eq_true rfl) rfl ?_
  intro p e s m args below meth c X hz0 hin hr hlk
  refine gc_aload X dX9_init_0 rfl rfl ?_
  refine gc_objI X wd_87 wd_88 wd_89 rfl (Nat.le_of_ble_eq_true rfl) (Nat.le_of_ble_eq_true rfl) dX9_init_1 ?_
  refine gc_aload X dX9_init_4 rfl rfl ?_
  refine gc_obj X (n := 1) fc5 kd_1 (fun k => by simp [stU]; exact hS0 _ _ (by decide)) (fun k => hM0 _ _ (by decide)) rfl wd_90 wd_91 wd_68 (Nat.le_of_ble_eq_true rfl) (Nat.le_of_ble_eq_true rfl) dX9_init_5 ?_
  refine gc_dup X dX9_init_8 ?_
  refine gc_initN X (cc_X5_init_1 l t D B _ _ (fun o k h => hM0 o k (by omega))) wd_94 wd_68 nwd_0 wd_93 rfl (by decide +kernel) ⟨Nat.le_of_ble_eq_true rfl, Nat.le_of_ble_eq_true rfl⟩ ⟨Nat.le_of_ble_eq_true rfl, Nat.le_of_ble_eq_true rfl⟩ rfl (Nat.le_of_ble_eq_true rfl) dX9_init_9 ?_
  refine gc_putr X hin (by omega) (o := 0) (k := 0) (g := 1) (n := 3) (by decide) kd_0 fc8 (by decide) wd_303 rfl rfl rfl rfl dX9_init_12 ?_
  refine gc_aload X dX9_init_15 rfl rfl ?_
  refine gc_obj X (n := 3) fc1 kd_3 (fun k => by simp [stU]; exact hS0 _ _ (by decide)) (fun k => hM0 _ _ (by decide)) rfl wd_106 wd_107 wd_70 (Nat.le_of_ble_eq_true rfl) (Nat.le_of_ble_eq_true rfl) dX9_init_16 ?_
  refine gc_dup X dX9_init_19 ?_
  refine gc_initN X (cc_X1_init_3 l t D B _ _ (fun o k h => hM0 o k (by omega))) wd_110 wd_70 nwd_1 wd_109 rfl (by decide +kernel) ⟨Nat.le_of_ble_eq_true rfl, Nat.le_of_ble_eq_true rfl⟩ ⟨Nat.le_of_ble_eq_true rfl, Nat.le_of_ble_eq_true rfl⟩ rfl (Nat.le_of_ble_eq_true rfl) dX9_init_20 ?_
  refine gc_putr X hin (by omega) (o := 0) (k := 1) (g := 3) (n := 6) (by decide) kd_0 fc8 (by decide) wd_304 rfl rfl rfl rfl dX9_init_23 ?_
  refine gc_aload X dX9_init_26 rfl rfl ?_
  refine gc_obj X (n := 6) fc4 kd_6 (fun k => by simp [stU]; exact hS0 _ _ (by decide)) (fun k => hM0 _ _ (by decide)) rfl wd_136 wd_137 wd_71 (Nat.le_of_ble_eq_true rfl) (Nat.le_of_ble_eq_true rfl) dX9_init_27 ?_
  refine gc_dup X dX9_init_30 ?_
  refine gc_initN X (cc_X4_init_6 l t D B _ _ (fun o k h => hM0 o k (by omega))) wd_140 wd_71 nwd_3 wd_139 rfl (by decide +kernel) ⟨Nat.le_of_ble_eq_true rfl, Nat.le_of_ble_eq_true rfl⟩ ⟨Nat.le_of_ble_eq_true rfl, Nat.le_of_ble_eq_true rfl⟩ rfl (Nat.le_of_ble_eq_true rfl) dX9_init_31 ?_
  refine gc_putr X hin (by omega) (o := 0) (k := 2) (g := 6) (n := 8) (by decide) kd_0 fc8 (by decide) wd_305 rfl rfl rfl rfl dX9_init_34 ?_
  refine gc_aload X dX9_init_37 rfl rfl ?_
  refine gc_obj X (n := 8) fc3 kd_8 (fun k => by simp [stU]; exact hS0 _ _ (by decide)) (fun k => hM0 _ _ (by decide)) rfl wd_162 wd_163 wd_72 (Nat.le_of_ble_eq_true rfl) (Nat.le_of_ble_eq_true rfl) dX9_init_38 ?_
  refine gc_dup X dX9_init_41 ?_
  refine gc_initN X (cc_X3_init_8 l t D B _ _ (fun o k h => hM0 o k (by omega))) wd_166 wd_72 nwd_5 wd_165 rfl (by decide +kernel) ⟨Nat.le_of_ble_eq_true rfl, Nat.le_of_ble_eq_true rfl⟩ ⟨Nat.le_of_ble_eq_true rfl, Nat.le_of_ble_eq_true rfl⟩ rfl (Nat.le_of_ble_eq_true rfl) dX9_init_42 ?_
  refine gc_putr X hin (by omega) (o := 0) (k := 3) (g := 8) (n := 10) (by decide) kd_0 fc8 (by decide) wd_306 rfl rfl rfl rfl dX9_init_45 ?_
  refine gc_aload X dX9_init_48 rfl rfl ?_
  refine gc_iconst X dX9_init_49 ?_
  refine gc_iconst X dX9_init_50 ?_
  refine gc_mnew X (n := 10) (a := 4) (b := 3) (N := 4) (K := 3) (by decide) rfl (by decide) rfl kd_10 (by decide +kernel) (fun j i hj => hM0 _ _ (by omega)) wd_187 wd_105 (Nat.le_of_ble_eq_true rfl) (Nat.le_of_ble_eq_true rfl) dX9_init_51 ?_
  refine gc_putr X hin (by omega) (o := 0) (k := 4) (g := 10) (n := 15) (by decide) kd_0 fc8 (by decide) wd_307 rfl rfl rfl rfl dX9_init_55 ?_
  refine gc_aload X dX9_init_58 rfl rfl ?_
  refine gc_iconst X dX9_init_59 ?_
  refine gc_newi X (n := 15) (a := 4) (N := 4) (by decide) rfl kd_15 (fun j => hM0 _ _ (by decide)) wd_105 (Nat.le_of_ble_eq_true rfl) (Nat.le_of_ble_eq_true rfl) dX9_init_60 ?_
  refine gc_putr X hin (by omega) (o := 0) (k := 5) (g := 15) (n := 16) (by decide) kd_0 fc8 (by decide) wd_308 rfl rfl rfl rfl dX9_init_62 ?_
  refine gc_aload X dX9_init_65 rfl rfl ?_
  refine gc_iconst X dX9_init_66 ?_
  refine gc_newi X (n := 16) (a := 4) (N := 4) (by decide) rfl kd_16 (fun j => hM0 _ _ (by decide)) wd_105 (Nat.le_of_ble_eq_true rfl) (Nat.le_of_ble_eq_true rfl) dX9_init_67 ?_
  refine gc_putr X hin (by omega) (o := 0) (k := 6) (g := 16) (n := 17) (by decide) kd_0 fc8 (by decide) wd_309 rfl rfl rfl rfl dX9_init_69 ?_
  refine gc_aload X dX9_init_72 rfl rfl ?_
  refine gc_iconst X dX9_init_73 ?_
  refine gc_bipush X dX9_init_74 (by decide +kernel) ?_
  refine gc_mnew X (n := 17) (a := 4) (b := 24) (N := 4) (K := 24) (by decide) rfl (by decide) rfl kd_17 (by decide +kernel) (fun j i hj => hM0 _ _ (by omega)) wd_187 wd_105 (Nat.le_of_ble_eq_true rfl) (Nat.le_of_ble_eq_true rfl) dX9_init_76 ?_
  refine gc_putr X hin (by omega) (o := 0) (k := 7) (g := 17) (n := 22) (by decide) kd_0 fc8 (by decide) wd_310 rfl rfl rfl rfl dX9_init_80 ?_
  refine gc_aload X dX9_init_83 rfl rfl ?_
  refine gc_obj X (n := 22) fc2 kd_22 (fun k => by simp [stU]; exact hS0 _ _ (by decide)) (fun k => hM0 _ _ (by decide)) rfl wd_189 wd_190 wd_73 (Nat.le_of_ble_eq_true rfl) (Nat.le_of_ble_eq_true rfl) dX9_init_84 ?_
  refine gc_dup X dX9_init_87 ?_
  refine gc_initN X (cc_X2_init_22 l t D B _ _ (fun o k h => hM0 o k (by omega))) wd_193 wd_73 nwd_7 wd_192 rfl (by decide +kernel) ⟨Nat.le_of_ble_eq_true rfl, Nat.le_of_ble_eq_true rfl⟩ ⟨Nat.le_of_ble_eq_true rfl, Nat.le_of_ble_eq_true rfl⟩ rfl (Nat.le_of_ble_eq_true rfl) dX9_init_88 ?_
  refine gc_putr X hin (by omega) (o := 0) (k := 8) (g := 22) (n := 24) (by decide) kd_0 fc8 (by decide) wd_311 rfl rfl rfl rfl dX9_init_91 ?_
  refine gc_aload X dX9_init_94 rfl rfl ?_
  refine gc_obj X (n := 24) fc7 kd_24 (fun k => by simp [stU]; exact hS0 _ _ (by decide)) (fun k => hM0 _ _ (by decide)) rfl wd_206 wd_207 wd_74 (Nat.le_of_ble_eq_true rfl) (Nat.le_of_ble_eq_true rfl) dX9_init_95 ?_
  refine gc_dup X dX9_init_98 ?_
  refine gc_initL X (cc_X8_init_24 l t D B _ _ (fun o k h => hM0 o k (by omega))) wd_210 wd_74 wd_208 wd_209 rfl (by decide +kernel) ⟨Nat.le_of_ble_eq_true rfl, Nat.le_of_ble_eq_true rfl⟩ ⟨Nat.le_of_ble_eq_true rfl, Nat.le_of_ble_eq_true rfl⟩ rfl (Nat.le_of_ble_eq_true rfl) dX9_init_99 ?_
  have hM1 : ∀ o k : Int, 62 ≤ o → (fil M ((60 : Nat) : Int) ((401 : Nat) : Int) (-1)) o k = 0 := fun o k h => (if_neg (fun q => by have := q.1; omega)).trans (hM0 o k (by omega))
  refine gc_putr X hin (by omega) (o := 0) (k := 9) (g := 24) (n := 62) (by decide) kd_0 fc8 (by decide) wd_312 rfl rfl rfl rfl dX9_init_102 ?_
  refine gc_aload X dX9_init_105 rfl rfl ?_
  refine gc_obj X (n := 62) fc7 kd_62 (fun k => by simp [stU]; exact hS0 _ _ (by decide)) (fun k => hM1 _ _ (by decide)) rfl wd_206 wd_207 wd_74 (Nat.le_of_ble_eq_true rfl) (Nat.le_of_ble_eq_true rfl) dX9_init_106 ?_
  refine gc_dup X dX9_init_109 ?_
  refine gc_initL X (cc_X8_init_62 l t D B _ _ (fun o k h => hM1 o k (by omega))) wd_210 wd_74 wd_208 wd_209 rfl (by decide +kernel) ⟨Nat.le_of_ble_eq_true rfl, Nat.le_of_ble_eq_true rfl⟩ ⟨Nat.le_of_ble_eq_true rfl, Nat.le_of_ble_eq_true rfl⟩ rfl (Nat.le_of_ble_eq_true rfl) dX9_init_110 ?_
  have hM2 : ∀ o k : Int, 100 ≤ o → (fil (fil M ((60 : Nat) : Int) ((401 : Nat) : Int) (-1)) ((98 : Nat) : Int) ((401 : Nat) : Int) (-1)) o k = 0 := fun o k h => (if_neg (fun q => by have := q.1; omega)).trans (hM1 o k (by omega))
  refine gc_putr X hin (by omega) (o := 0) (k := 10) (g := 62) (n := 100) (by decide) kd_0 fc8 (by decide) wd_313 rfl rfl rfl rfl dX9_init_113 ?_
  refine gc_aload X dX9_init_116 rfl rfl ?_
  refine gc_obj X (n := 100) fc0 kd_100 (fun k => by simp [stU]; exact hS0 _ _ (by decide)) (fun k => hM2 _ _ (by decide)) rfl wd_250 wd_251 wd_76 (Nat.le_of_ble_eq_true rfl) (Nat.le_of_ble_eq_true rfl) dX9_init_117 ?_
  refine gc_dup X dX9_init_120 ?_
  refine gc_initN X (cc_X0_init_100 l t D B _ _ (fun o k h => hM2 o k (by omega))) wd_254 wd_76 nwd_8 wd_253 rfl (by decide +kernel) ⟨Nat.le_of_ble_eq_true rfl, Nat.le_of_ble_eq_true rfl⟩ ⟨Nat.le_of_ble_eq_true rfl, Nat.le_of_ble_eq_true rfl⟩ rfl (Nat.le_of_ble_eq_true rfl) dX9_init_121 ?_
  refine gc_putr X hin (by omega) (o := 0) (k := 11) (g := 100) (n := 113) (by decide) kd_0 fc8 (by decide) wd_314 rfl rfl rfl rfl dX9_init_124 ?_
  refine gc_aload X dX9_init_127 rfl rfl ?_
  refine gc_obj X (n := 113) fc6 kd_113 (fun k => by simp [stU]; exact hS0 _ _ (by decide)) (fun k => hM2 _ _ (by decide)) rfl wd_292 wd_293 wd_77 (Nat.le_of_ble_eq_true rfl) (Nat.le_of_ble_eq_true rfl) dX9_init_128 ?_
  refine gc_dup X dX9_init_131 ?_
  refine gc_initN X (cc_X6_init_113 l t D B _ _ (fun o k h => hM2 o k (by omega))) wd_296 wd_77 nwd_9 wd_295 rfl (by decide +kernel) ⟨Nat.le_of_ble_eq_true rfl, Nat.le_of_ble_eq_true rfl⟩ ⟨Nat.le_of_ble_eq_true rfl, Nat.le_of_ble_eq_true rfl⟩ rfl (Nat.le_of_ble_eq_true rfl) dX9_init_132 ?_
  refine gc_putr X hin (by omega) (o := 0) (k := 12) (g := 113) (n := 114) (by decide) kd_0 fc8 (by decide) wd_315 rfl rfl rfl rfl dX9_init_135 ?_
  exact gc_ret X hr hlk dX9_init_138

