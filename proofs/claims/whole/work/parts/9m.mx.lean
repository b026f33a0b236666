/-! The reference whole. -/
theorem cc_X10_init_114 (l : Launch) (t : TT) (D : va_G) (B : Nat) (M : Mem) (S : Sts) (hM0 : ∀ o k : Int, 115 ≤ o → M o k = 0) : CC l yX10_init cX10_init 2 1 12 t D B 114 115 141 M (mu (fil M ((134 : Nat) : Int) 401 (-1)) ((114 : Nat) : Int) ((46 : Nat) : Int) (-1)) S (stU (stU (stU (stU (stU (stU (stU (stU (stU (stU (stU (stU (stU (stU (stU (stU (stU (stU (stU (stU (stU (stU (stU (stU (stU (stU S ((114 : Nat) : Int) ((0 : Nat) : Int)) ((114 : Nat) : Int) ((9 : Nat) : Int)) ((114 : Nat) : Int) ((11 : Nat) : Int)) ((114 : Nat) : Int) ((12 : Nat) : Int)) ((114 : Nat) : Int) ((14 : Nat) : Int)) ((114 : Nat) : Int) ((16 : Nat) : Int)) ((114 : Nat) : Int) ((18 : Nat) : Int)) ((114 : Nat) : Int) ((21 : Nat) : Int)) ((114 : Nat) : Int) ((22 : Nat) : Int)) ((114 : Nat) : Int) ((24 : Nat) : Int)) ((114 : Nat) : Int) ((25 : Nat) : Int)) ((114 : Nat) : Int) ((27 : Nat) : Int)) ((114 : Nat) : Int) ((30 : Nat) : Int)) ((114 : Nat) : Int) ((31 : Nat) : Int)) ((114 : Nat) : Int) ((32 : Nat) : Int)) ((114 : Nat) : Int) ((33 : Nat) : Int)) ((114 : Nat) : Int) ((34 : Nat) : Int)) ((114 : Nat) : Int) ((35 : Nat) : Int)) ((114 : Nat) : Int) ((36 : Nat) : Int)) ((114 : Nat) : Int) ((41 : Nat) : Int)) ((114 : Nat) : Int) ((42 : Nat) : Int)) ((114 : Nat) : Int) ((49 : Nat) : Int)) ((114 : Nat) : Int) ((50 : Nat) : Int)) ((114 : Nat) : Int) ((51 : Nat) : Int)) ((114 : Nat) : Int) ((52 : Nat) : Int)) ((114 : Nat) : Int) ((53 : Nat) : Int)) 26 12196 := by
  refine CC.of (own := "RedSkiesModel") (ls0 := [some (.ref (alB B ((114 : Nat) : Int))), none]) (by decide +kernel) rfl rfl (Nat.le_of_ble_eq_true rfl) rfl ?_
  intro p e s m args below meth c X hz0 hin hr hlk
  refine gc_aload X dX10_init_0 rfl rfl ?_
  refine gc_objI X wd_826 wd_88 wd_89 rfl (Nat.le_of_ble_eq_true rfl) (Nat.le_of_ble_eq_true rfl) dX10_init_1 ?_
  refine gc_aload X dX10_init_4 rfl rfl ?_
  refine gc_bipush X dX10_init_5 (by decide +kernel) ?_
  refine gc_newi X (n := 115) (a := 40) (N := 40) (by decide) rfl kd_115 (fun j => hM0 _ _ (by decide)) wd_105 (Nat.le_of_ble_eq_true rfl) (Nat.le_of_ble_eq_true rfl) dX10_init_7 ?_
  refine gc_putr X hin (by omega) (o := 114) (k := 0) (g := 115) (n := 116) (by decide) kd_114 fc9 (by decide) wd_827 rfl rfl rfl rfl dX10_init_9 ?_
  refine gc_aload X dX10_init_12 rfl rfl ?_
  refine gc_iconst X dX10_init_13 ?_
  refine gc_newi X (n := 116) (a := 3) (N := 3) (by decide) rfl kd_116 (fun j => hM0 _ _ (by decide)) wd_105 (Nat.le_of_ble_eq_true rfl) (Nat.le_of_ble_eq_true rfl) dX10_init_14 ?_
  refine gc_putr X hin (by omega) (o := 114) (k := 9) (g := 116) (n := 117) (by decide) kd_114 fc9 (by decide) wd_836 rfl rfl rfl rfl dX10_init_16 ?_
  refine gc_aload X dX10_init_19 rfl rfl ?_
  refine gc_bipush X dX10_init_20 (by decide +kernel) ?_
  refine gc_newi X (n := 117) (a := 24) (N := 24) (by decide) rfl kd_117 (fun j => hM0 _ _ (by decide)) wd_105 (Nat.le_of_ble_eq_true rfl) (Nat.le_of_ble_eq_true rfl) dX10_init_22 ?_
  refine gc_putr X hin (by omega) (o := 114) (k := 11) (g := 117) (n := 118) (by decide) kd_114 fc9 (by decide) wd_838 rfl rfl rfl rfl dX10_init_24 ?_
  refine gc_aload X dX10_init_27 rfl rfl ?_
  refine gc_iconst X dX10_init_28 ?_
  refine gc_newi X (n := 118) (a := 5) (N := 5) (by decide) rfl kd_118 (fun j => hM0 _ _ (by decide)) wd_105 (Nat.le_of_ble_eq_true rfl) (Nat.le_of_ble_eq_true rfl) dX10_init_29 ?_
  refine gc_putr X hin (by omega) (o := 114) (k := 12) (g := 118) (n := 119) (by decide) kd_114 fc9 (by decide) wd_839 rfl rfl rfl rfl dX10_init_31 ?_
  refine gc_aload X dX10_init_34 rfl rfl ?_
  refine gc_bipush X dX10_init_35 (by decide +kernel) ?_
  refine gc_newi X (n := 119) (a := 12) (N := 12) (by decide) rfl kd_119 (fun j => hM0 _ _ (by decide)) wd_105 (Nat.le_of_ble_eq_true rfl) (Nat.le_of_ble_eq_true rfl) dX10_init_37 ?_
  refine gc_putr X hin (by omega) (o := 114) (k := 14) (g := 119) (n := 120) (by decide) kd_114 fc9 (by decide) wd_841 rfl rfl rfl rfl dX10_init_39 ?_
  refine gc_aload X dX10_init_42 rfl rfl ?_
  refine gc_bipush X dX10_init_43 (by decide +kernel) ?_
  refine gc_newi X (n := 120) (a := 96) (N := 96) (by decide) rfl kd_120 (fun j => hM0 _ _ (by decide)) wd_105 (Nat.le_of_ble_eq_true rfl) (Nat.le_of_ble_eq_true rfl) dX10_init_45 ?_
  refine gc_putr X hin (by omega) (o := 114) (k := 16) (g := 120) (n := 121) (by decide) kd_114 fc9 (by decide) wd_843 rfl rfl rfl rfl dX10_init_47 ?_
  refine gc_aload X dX10_init_50 rfl rfl ?_
  refine gc_iconst X dX10_init_51 ?_
  refine gc_newi X (n := 121) (a := 5) (N := 5) (by decide) rfl kd_121 (fun j => hM0 _ _ (by decide)) wd_105 (Nat.le_of_ble_eq_true rfl) (Nat.le_of_ble_eq_true rfl) dX10_init_52 ?_
  refine gc_putr X hin (by omega) (o := 114) (k := 18) (g := 121) (n := 122) (by decide) kd_114 fc9 (by decide) wd_845 rfl rfl rfl rfl dX10_init_54 ?_
  refine gc_aload X dX10_init_57 rfl rfl ?_
  refine gc_iconst X dX10_init_58 ?_
  refine gc_newi X (n := 122) (a := 4) (N := 4) (by decide) rfl kd_122 (fun j => hM0 _ _ (by decide)) wd_105 (Nat.le_of_ble_eq_true rfl) (Nat.le_of_ble_eq_true rfl) dX10_init_59 ?_
  refine gc_putr X hin (by omega) (o := 114) (k := 21) (g := 122) (n := 123) (by decide) kd_114 fc9 (by decide) wd_848 rfl rfl rfl rfl dX10_init_61 ?_
  refine gc_aload X dX10_init_64 rfl rfl ?_
  refine gc_iconst X dX10_init_65 ?_
  refine gc_newi X (n := 123) (a := 4) (N := 4) (by decide) rfl kd_123 (fun j => hM0 _ _ (by decide)) wd_105 (Nat.le_of_ble_eq_true rfl) (Nat.le_of_ble_eq_true rfl) dX10_init_66 ?_
  refine gc_putr X hin (by omega) (o := 114) (k := 22) (g := 123) (n := 124) (by decide) kd_114 fc9 (by decide) wd_849 rfl rfl rfl rfl dX10_init_68 ?_
  refine gc_aload X dX10_init_71 rfl rfl ?_
  refine gc_bipush X dX10_init_72 (by decide +kernel) ?_
  refine gc_newi X (n := 124) (a := 96) (N := 96) (by decide) rfl kd_124 (fun j => hM0 _ _ (by decide)) wd_105 (Nat.le_of_ble_eq_true rfl) (Nat.le_of_ble_eq_true rfl) dX10_init_74 ?_
  refine gc_putr X hin (by omega) (o := 114) (k := 24) (g := 124) (n := 125) (by decide) kd_114 fc9 (by decide) wd_851 rfl rfl rfl rfl dX10_init_76 ?_
  refine gc_aload X dX10_init_79 rfl rfl ?_
  refine gc_sipush X dX10_init_80 (by decide +kernel) ?_
  refine gc_newi X (n := 125) (a := 192) (N := 192) (by decide) rfl kd_125 (fun j => hM0 _ _ (by decide)) wd_105 (Nat.le_of_ble_eq_true rfl) (Nat.le_of_ble_eq_true rfl) dX10_init_83 ?_
  refine gc_putr X hin (by omega) (o := 114) (k := 25) (g := 125) (n := 126) (by decide) kd_114 fc9 (by decide) wd_852 rfl rfl rfl rfl dX10_init_85 ?_
  refine gc_aload X dX10_init_88 rfl rfl ?_
  refine gc_bipush X dX10_init_89 (by decide +kernel) ?_
  refine gc_newi X (n := 126) (a := 6) (N := 6) (by decide) rfl kd_126 (fun j => hM0 _ _ (by decide)) wd_105 (Nat.le_of_ble_eq_true rfl) (Nat.le_of_ble_eq_true rfl) dX10_init_91 ?_
  refine gc_putr X hin (by omega) (o := 114) (k := 27) (g := 126) (n := 127) (by decide) kd_114 fc9 (by decide) wd_854 rfl rfl rfl rfl dX10_init_93 ?_
  refine gc_aload X dX10_init_96 rfl rfl ?_
  refine gc_bipush X dX10_init_97 (by decide +kernel) ?_
  refine gc_newi X (n := 127) (a := 16) (N := 16) (by decide) rfl kd_127 (fun j => hM0 _ _ (by decide)) wd_105 (Nat.le_of_ble_eq_true rfl) (Nat.le_of_ble_eq_true rfl) dX10_init_99 ?_
  refine gc_putr X hin (by omega) (o := 114) (k := 30) (g := 127) (n := 128) (by decide) kd_114 fc9 (by decide) wd_857 rfl rfl rfl rfl dX10_init_101 ?_
  refine gc_aload X dX10_init_104 rfl rfl ?_
  refine gc_bipush X dX10_init_105 (by decide +kernel) ?_
  refine gc_newi X (n := 128) (a := 16) (N := 16) (by decide) rfl kd_128 (fun j => hM0 _ _ (by decide)) wd_105 (Nat.le_of_ble_eq_true rfl) (Nat.le_of_ble_eq_true rfl) dX10_init_107 ?_
  refine gc_putr X hin (by omega) (o := 114) (k := 31) (g := 128) (n := 129) (by decide) kd_114 fc9 (by decide) wd_858 rfl rfl rfl rfl dX10_init_109 ?_
  refine gc_aload X dX10_init_112 rfl rfl ?_
  refine gc_bipush X dX10_init_113 (by decide +kernel) ?_
  refine gc_newz X (n := 129) (a := 16) (N := 16) (by decide) rfl kd_129 (fun j => hM0 _ _ (by decide)) wd_135 (Nat.le_of_ble_eq_true rfl) (Nat.le_of_ble_eq_true rfl) dX10_init_115 ?_
  refine gc_putr X hin (by omega) (o := 114) (k := 32) (g := 129) (n := 130) (by decide) kd_114 fc9 (by decide) wd_859 rfl rfl rfl rfl dX10_init_117 ?_
  refine gc_aload X dX10_init_120 rfl rfl ?_
  refine gc_bipush X dX10_init_121 (by decide +kernel) ?_
  refine gc_newi X (n := 130) (a := 16) (N := 16) (by decide) rfl kd_130 (fun j => hM0 _ _ (by decide)) wd_105 (Nat.le_of_ble_eq_true rfl) (Nat.le_of_ble_eq_true rfl) dX10_init_123 ?_
  refine gc_putr X hin (by omega) (o := 114) (k := 33) (g := 130) (n := 131) (by decide) kd_114 fc9 (by decide) wd_860 rfl rfl rfl rfl dX10_init_125 ?_
  refine gc_aload X dX10_init_128 rfl rfl ?_
  refine gc_sipush X dX10_init_129 (by decide +kernel) ?_
  refine gc_newj X (n := 131) (a := 8721) (N := 8721) (by decide) rfl kd_131 (fun j => hM0 _ _ (by decide)) wd_993 (Nat.le_of_ble_eq_true rfl) (Nat.le_of_ble_eq_true rfl) dX10_init_132 ?_
  refine gc_putr X hin (by omega) (o := 114) (k := 34) (g := 131) (n := 132) (by decide) kd_114 fc9 (by decide) wd_861 rfl rfl rfl rfl dX10_init_134 ?_
  refine gc_aload X dX10_init_137 rfl rfl ?_
  refine gc_sipush X dX10_init_138 (by decide +kernel) ?_
  refine gc_newj X (n := 132) (a := 513) (N := 513) (by decide) rfl kd_132 (fun j => hM0 _ _ (by decide)) wd_993 (Nat.le_of_ble_eq_true rfl) (Nat.le_of_ble_eq_true rfl) dX10_init_141 ?_
  refine gc_putr X hin (by omega) (o := 114) (k := 35) (g := 132) (n := 133) (by decide) kd_114 fc9 (by decide) wd_862 rfl rfl rfl rfl dX10_init_143 ?_
  refine gc_aload X dX10_init_146 rfl rfl ?_
  refine gc_sipush X dX10_init_147 (by decide +kernel) ?_
  refine gc_newj X (n := 133) (a := 513) (N := 513) (by decide) rfl kd_133 (fun j => hM0 _ _ (by decide)) wd_993 (Nat.le_of_ble_eq_true rfl) (Nat.le_of_ble_eq_true rfl) dX10_init_150 ?_
  refine gc_putr X hin (by omega) (o := 114) (k := 36) (g := 133) (n := 134) (by decide) kd_114 fc9 (by decide) wd_863 rfl rfl rfl rfl dX10_init_152 ?_
  refine gc_aload X dX10_init_155 rfl rfl ?_
  refine gc_sipush X dX10_init_156 (by decide +kernel) ?_
  refine gc_newi X (n := 134) (a := 401) (N := 401) (by decide) rfl kd_134 (fun j => hM0 _ _ (by decide)) wd_105 (Nat.le_of_ble_eq_true rfl) (Nat.le_of_ble_eq_true rfl) dX10_init_159 ?_
  refine gc_putr X hin (by omega) (o := 114) (k := 41) (g := 134) (n := 135) (by decide) kd_114 fc9 (by decide) wd_868 rfl rfl rfl rfl dX10_init_161 ?_
  refine gc_aload X dX10_init_164 rfl rfl ?_
  refine gc_sipush X dX10_init_165 (by decide +kernel) ?_
  refine gc_newi X (n := 135) (a := 401) (N := 401) (by decide) rfl kd_135 (fun j => hM0 _ _ (by decide)) wd_105 (Nat.le_of_ble_eq_true rfl) (Nat.le_of_ble_eq_true rfl) dX10_init_168 ?_
  refine gc_putr X hin (by omega) (o := 114) (k := 42) (g := 135) (n := 136) (by decide) kd_114 fc9 (by decide) wd_869 rfl rfl rfl rfl dX10_init_170 ?_
  refine gc_aload X dX10_init_173 rfl rfl ?_
  refine gc_bipush X dX10_init_174 (by decide +kernel) ?_
  refine gc_newi X (n := 136) (a := 96) (N := 96) (by decide) rfl kd_136 (fun j => hM0 _ _ (by decide)) wd_105 (Nat.le_of_ble_eq_true rfl) (Nat.le_of_ble_eq_true rfl) dX10_init_176 ?_
  refine gc_putr X hin (by omega) (o := 114) (k := 49) (g := 136) (n := 137) (by decide) kd_114 fc9 (by decide) wd_876 rfl rfl rfl rfl dX10_init_178 ?_
  refine gc_aload X dX10_init_181 rfl rfl ?_
  refine gc_sipush X dX10_init_182 (by decide +kernel) ?_
  refine gc_newi X (n := 137) (a := 192) (N := 192) (by decide) rfl kd_137 (fun j => hM0 _ _ (by decide)) wd_105 (Nat.le_of_ble_eq_true rfl) (Nat.le_of_ble_eq_true rfl) dX10_init_185 ?_
  refine gc_putr X hin (by omega) (o := 114) (k := 50) (g := 137) (n := 138) (by decide) kd_114 fc9 (by decide) wd_877 rfl rfl rfl rfl dX10_init_187 ?_
  refine gc_aload X dX10_init_190 rfl rfl ?_
  refine gc_bipush X dX10_init_191 (by decide +kernel) ?_
  refine gc_newi X (n := 138) (a := 6) (N := 6) (by decide) rfl kd_138 (fun j => hM0 _ _ (by decide)) wd_105 (Nat.le_of_ble_eq_true rfl) (Nat.le_of_ble_eq_true rfl) dX10_init_193 ?_
  refine gc_putr X hin (by omega) (o := 114) (k := 51) (g := 138) (n := 139) (by decide) kd_114 fc9 (by decide) wd_878 rfl rfl rfl rfl dX10_init_195 ?_
  refine gc_aload X dX10_init_198 rfl rfl ?_
  refine gc_sipush X dX10_init_199 (by decide +kernel) ?_
  refine gc_newi X (n := 139) (a := 401) (N := 401) (by decide) rfl kd_139 (fun j => hM0 _ _ (by decide)) wd_105 (Nat.le_of_ble_eq_true rfl) (Nat.le_of_ble_eq_true rfl) dX10_init_202 ?_
  refine gc_putr X hin (by omega) (o := 114) (k := 52) (g := 139) (n := 140) (by decide) kd_114 fc9 (by decide) wd_879 rfl rfl rfl rfl dX10_init_204 ?_
  refine gc_aload X dX10_init_207 rfl rfl ?_
  refine gc_sipush X dX10_init_208 (by decide +kernel) ?_
  refine gc_newi X (n := 140) (a := 401) (N := 401) (by decide) rfl kd_140 (fun j => hM0 _ _ (by decide)) wd_105 (Nat.le_of_ble_eq_true rfl) (Nat.le_of_ble_eq_true rfl) dX10_init_211 ?_
  refine gc_putr X hin (by omega) (o := 114) (k := 53) (g := 140) (n := 141) (by decide) kd_114 fc9 (by decide) wd_880 rfl rfl rfl rfl dX10_init_213 ?_
  refine gc_iconst X dX10_init_216 ?_
  refine gc_istore X dX10_init_217 rfl (by simp) (by simp [lok]; rfl) ?_
  have L : ∀ (r : Nat) (i : Int), 0 ≤ i → i ≤ 401 → (401 - i).toNat < r → Gc p l e (rmC 1 12 26 12196) s m args below meth c (MQ below (QC t D B 141 (mu (fil M ((134 : Nat) : Int) 401 (-1)) ((114 : Nat) : Int) ((46 : Nat) : Int) (-1)) (stU (stU (stU (stU (stU (stU (stU (stU (stU (stU (stU (stU (stU (stU (stU (stU (stU (stU (stU (stU (stU (stU (stU (stU (stU (stU S ((114 : Nat) : Int) ((0 : Nat) : Int)) ((114 : Nat) : Int) ((9 : Nat) : Int)) ((114 : Nat) : Int) ((11 : Nat) : Int)) ((114 : Nat) : Int) ((12 : Nat) : Int)) ((114 : Nat) : Int) ((14 : Nat) : Int)) ((114 : Nat) : Int) ((16 : Nat) : Int)) ((114 : Nat) : Int) ((18 : Nat) : Int)) ((114 : Nat) : Int) ((21 : Nat) : Int)) ((114 : Nat) : Int) ((22 : Nat) : Int)) ((114 : Nat) : Int) ((24 : Nat) : Int)) ((114 : Nat) : Int) ((25 : Nat) : Int)) ((114 : Nat) : Int) ((27 : Nat) : Int)) ((114 : Nat) : Int) ((30 : Nat) : Int)) ((114 : Nat) : Int) ((31 : Nat) : Int)) ((114 : Nat) : Int) ((32 : Nat) : Int)) ((114 : Nat) : Int) ((33 : Nat) : Int)) ((114 : Nat) : Int) ((34 : Nat) : Int)) ((114 : Nat) : Int) ((35 : Nat) : Int)) ((114 : Nat) : Int) ((36 : Nat) : Int)) ((114 : Nat) : Int) ((41 : Nat) : Int)) ((114 : Nat) : Int) ((42 : Nat) : Int)) ((114 : Nat) : Int) ((49 : Nat) : Int)) ((114 : Nat) : Int) ((50 : Nat) : Int)) ((114 : Nat) : Int) ((51 : Nat) : Int)) ((114 : Nat) : Int) ((52 : Nat) : Int)) ((114 : Nat) : Int) ((53 : Nat) : Int))) args s 26 12196 (fun q => B ≤ q)) t D B 141 26 12196 218 [some (.ref (alB B ((114 : Nat) : Int))), some (.int (iN i))] [] (fil M ((134 : Nat) : Int) i (-1)) (stU (stU (stU (stU (stU (stU (stU (stU (stU (stU (stU (stU (stU (stU (stU (stU (stU (stU (stU (stU (stU (stU (stU (stU (stU (stU S ((114 : Nat) : Int) ((0 : Nat) : Int)) ((114 : Nat) : Int) ((9 : Nat) : Int)) ((114 : Nat) : Int) ((11 : Nat) : Int)) ((114 : Nat) : Int) ((12 : Nat) : Int)) ((114 : Nat) : Int) ((14 : Nat) : Int)) ((114 : Nat) : Int) ((16 : Nat) : Int)) ((114 : Nat) : Int) ((18 : Nat) : Int)) ((114 : Nat) : Int) ((21 : Nat) : Int)) ((114 : Nat) : Int) ((22 : Nat) : Int)) ((114 : Nat) : Int) ((24 : Nat) : Int)) ((114 : Nat) : Int) ((25 : Nat) : Int)) ((114 : Nat) : Int) ((27 : Nat) : Int)) ((114 : Nat) : Int) ((30 : Nat) : Int)) ((114 : Nat) : Int) ((31 : Nat) : Int)) ((114 : Nat) : Int) ((32 : Nat) : Int)) ((114 : Nat) : Int) ((33 : Nat) : Int)) ((114 : Nat) : Int) ((34 : Nat) : Int)) ((114 : Nat) : Int) ((35 : Nat) : Int)) ((114 : Nat) : Int) ((36 : Nat) : Int)) ((114 : Nat) : Int) ((41 : Nat) : Int)) ((114 : Nat) : Int) ((42 : Nat) : Int)) ((114 : Nat) : Int) ((49 : Nat) : Int)) ((114 : Nat) : Int) ((50 : Nat) : Int)) ((114 : Nat) : Int) ((51 : Nat) : Int)) ((114 : Nat) : Int) ((52 : Nat) : Int)) ((114 : Nat) : Int) ((53 : Nat) : Int)) := by
    intro r
    induction r with
    | zero => intro i i0 i1 hm; exact absurd hm (Nat.not_lt_zero _)
    | succ r ih =>
      intro i i0 i1 hm
      refine gc_iload X dX10_init_218 rfl rfl ?_
      refine gc_sipush X dX10_init_219 (by decide +kernel) ?_
      refine gc_icmp_ge (tgt := 238) X dX10_init_222 (by decide) ⟨by omega, by omega⟩ (by decide) (fun q => ?_) (fun q => ?_)
      · obtain rfl : i = 401 := by omega
        refine gc_aload X dX10_init_238 rfl rfl ?_
        refine gc_iconst X dX10_init_239 ?_
        refine gc_puti X (by omega) (o := 114) (k := 46) (n := 141) (by decide) kd_114 fc9 (by decide) wd_873 rfl rfl rfl dX10_init_240 ?_
        exact gc_ret X hr hlk dX10_init_243
      · refine gc_aload X dX10_init_225 rfl rfl ?_
        refine gc_getr X (o := 114) (k := 41) (g := 134) (n := 141) (by decide) kd_114 fc9 (by decide) wd_868 rfl (by simp [stU]) dX10_init_226 ?_
        refine gc_iload X dX10_init_229 rfl rfl ?_
        refine gc_iconst X dX10_init_230 ?_
        refine gc_iast X (by omega) (o := 134) (N := 401) (by decide) kd_134 (by decide) i0 q dX10_init_231 ?_
        rw [fil_s i0]
        refine gc_iinc X dX10_init_232 rfl (by simp) (by simp [lok]; rfl) ?_
        refine gc_goto (tgt := 218) X dX10_init_235 (by decide) ?_
        exact ih (i + 1) (by omega) (by omega) (by omega)
  have h := L _ 0 (by omega) (by omega) (Nat.lt_succ_self _)
  rw [fil_0] at h
  exact h

