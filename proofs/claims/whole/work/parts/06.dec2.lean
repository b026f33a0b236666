theorem dX10_layTotal_0 : decode cX10_layTotal 0 = .ok (.iconst 0, 1) := by decide +kernel
theorem dX10_layTotal_1 : decode cX10_layTotal 1 = .ok (.istore_n 1, 1) := by decide +kernel
theorem dX10_layTotal_2 : decode cX10_layTotal 2 = .ok (.iload_n 1, 1) := by decide +kernel
theorem dX10_layTotal_3 : decode cX10_layTotal 3 = .ok (.sipush 513, 3) := by decide +kernel
theorem dX10_layTotal_6 : decode cX10_layTotal 6 = .ok (.if_icmp .ge 27, 3) := by decide +kernel
theorem dX10_layTotal_9 : decode cX10_layTotal 9 = .ok (.aload_n 0, 1) := by decide +kernel
theorem dX10_layTotal_10 : decode cX10_layTotal 10 = .ok (.getfield 63, 3) := by decide +kernel
theorem dX10_layTotal_13 : decode cX10_layTotal 13 = .ok (.iload_n 1, 1) := by decide +kernel
theorem dX10_layTotal_14 : decode cX10_layTotal 14 = .ok (.iload_n 1, 1) := by decide +kernel
theorem dX10_layTotal_15 : decode cX10_layTotal 15 = .ok (.sipush 256, 3) := by decide +kernel
theorem dX10_layTotal_18 : decode cX10_layTotal 18 = .ok (.if_icmp .ne 7, 3) := by decide +kernel
theorem dX10_layTotal_21 : decode cX10_layTotal 21 = .ok (.lconst 1, 1) := by decide +kernel
theorem dX10_layTotal_22 : decode cX10_layTotal 22 = .ok (.goto 4, 3) := by decide +kernel
theorem dX10_layTotal_25 : decode cX10_layTotal 25 = .ok (.lconst 0, 1) := by decide +kernel
theorem dX10_layTotal_26 : decode cX10_layTotal 26 = .ok (.lastore, 1) := by decide +kernel
theorem dX10_layTotal_27 : decode cX10_layTotal 27 = .ok (.iinc 1 1, 3) := by decide +kernel
theorem dX10_layTotal_30 : decode cX10_layTotal 30 = .ok (.goto (-28), 3) := by decide +kernel
theorem dX10_layTotal_33 : decode cX10_layTotal 33 = .ok (.iconst 0, 1) := by decide +kernel
theorem dX10_layTotal_34 : decode cX10_layTotal 34 = .ok (.istore_n 1, 1) := by decide +kernel
theorem dX10_layTotal_35 : decode cX10_layTotal 35 = .ok (.iload_n 1, 1) := by decide +kernel
theorem dX10_layTotal_36 : decode cX10_layTotal 36 = .ok (.iconst 5, 1) := by decide +kernel
theorem dX10_layTotal_37 : decode cX10_layTotal 37 = .ok (.if_icmp .ge 139, 3) := by decide +kernel
theorem dX10_layTotal_40 : decode cX10_layTotal 40 = .ok (.aload_n 0, 1) := by decide +kernel
theorem dX10_layTotal_41 : decode cX10_layTotal 41 = .ok (.iload_n 1, 1) := by decide +kernel
theorem dX10_layTotal_42 : decode cX10_layTotal 42 = .ok (.invokevirtual 269, 3) := by decide +kernel
theorem dX10_layTotal_45 : decode cX10_layTotal 45 = .ok (.istore_n 2, 1) := by decide +kernel
theorem dX10_layTotal_46 : decode cX10_layTotal 46 = .ok (.iconst 0, 1) := by decide +kernel
theorem dX10_layTotal_47 : decode cX10_layTotal 47 = .ok (.istore_n 3, 1) := by decide +kernel
theorem dX10_layTotal_48 : decode cX10_layTotal 48 = .ok (.iload_n 3, 1) := by decide +kernel
theorem dX10_layTotal_49 : decode cX10_layTotal 49 = .ok (.sipush 513, 3) := by decide +kernel
theorem dX10_layTotal_52 : decode cX10_layTotal 52 = .ok (.if_icmp .ge 28, 3) := by decide +kernel
theorem dX10_layTotal_55 : decode cX10_layTotal 55 = .ok (.aload_n 0, 1) := by decide +kernel
theorem dX10_layTotal_56 : decode cX10_layTotal 56 = .ok (.getfield 66, 3) := by decide +kernel
theorem dX10_layTotal_59 : decode cX10_layTotal 59 = .ok (.iload_n 3, 1) := by decide +kernel
theorem dX10_layTotal_60 : decode cX10_layTotal 60 = .ok (.aload_n 0, 1) := by decide +kernel
theorem dX10_layTotal_61 : decode cX10_layTotal 61 = .ok (.getfield 63, 3) := by decide +kernel
theorem dX10_layTotal_64 : decode cX10_layTotal 64 = .ok (.iload_n 3, 1) := by decide +kernel
theorem dX10_layTotal_65 : decode cX10_layTotal 65 = .ok (.laload, 1) := by decide +kernel
theorem dX10_layTotal_66 : decode cX10_layTotal 66 = .ok (.lastore, 1) := by decide +kernel
theorem dX10_layTotal_67 : decode cX10_layTotal 67 = .ok (.aload_n 0, 1) := by decide +kernel
theorem dX10_layTotal_68 : decode cX10_layTotal 68 = .ok (.getfield 63, 3) := by decide +kernel
theorem dX10_layTotal_71 : decode cX10_layTotal 71 = .ok (.iload_n 3, 1) := by decide +kernel
theorem dX10_layTotal_72 : decode cX10_layTotal 72 = .ok (.lconst 0, 1) := by decide +kernel
theorem dX10_layTotal_73 : decode cX10_layTotal 73 = .ok (.lastore, 1) := by decide +kernel
theorem dX10_layTotal_74 : decode cX10_layTotal 74 = .ok (.iinc 3 1, 3) := by decide +kernel
theorem dX10_layTotal_77 : decode cX10_layTotal 77 = .ok (.goto (-29), 3) := by decide +kernel
theorem dX10_layTotal_80 : decode cX10_layTotal 80 = .ok (.iconst 0, 1) := by decide +kernel
theorem dX10_layTotal_81 : decode cX10_layTotal 81 = .ok (.istore_n 3, 1) := by decide +kernel
theorem dX10_layTotal_82 : decode cX10_layTotal 82 = .ok (.iload_n 3, 1) := by decide +kernel
theorem dX10_layTotal_83 : decode cX10_layTotal 83 = .ok (.sipush 513, 3) := by decide +kernel
theorem dX10_layTotal_86 : decode cX10_layTotal 86 = .ok (.if_icmp .ge 84, 3) := by decide +kernel
theorem dX10_layTotal_89 : decode cX10_layTotal 89 = .ok (.iconst 0, 1) := by decide +kernel
theorem dX10_layTotal_90 : decode cX10_layTotal 90 = .ok (.istore 4, 2) := by decide +kernel
theorem dX10_layTotal_92 : decode cX10_layTotal 92 = .ok (.iload 4, 2) := by decide +kernel
theorem dX10_layTotal_94 : decode cX10_layTotal 94 = .ok (.sipush 513, 3) := by decide +kernel
theorem dX10_layTotal_97 : decode cX10_layTotal 97 = .ok (.if_icmp .ge 67, 3) := by decide +kernel
theorem dX10_layTotal_100 : decode cX10_layTotal 100 = .ok (.aload_n 0, 1) := by decide +kernel
theorem dX10_layTotal_101 : decode cX10_layTotal 101 = .ok (.getfield 66, 3) := by decide +kernel
theorem dX10_layTotal_104 : decode cX10_layTotal 104 = .ok (.iload_n 3, 1) := by decide +kernel
theorem dX10_layTotal_105 : decode cX10_layTotal 105 = .ok (.laload, 1) := by decide +kernel
theorem dX10_layTotal_106 : decode cX10_layTotal 106 = .ok (.lconst 0, 1) := by decide +kernel
theorem dX10_layTotal_107 : decode cX10_layTotal 107 = .ok (.lcmp, 1) := by decide +kernel
theorem dX10_layTotal_108 : decode cX10_layTotal 108 = .ok (.ifCond .le 56, 3) := by decide +kernel
theorem dX10_layTotal_111 : decode cX10_layTotal 111 = .ok (.aload_n 0, 1) := by decide +kernel
theorem dX10_layTotal_112 : decode cX10_layTotal 112 = .ok (.getfield 59, 3) := by decide +kernel
theorem dX10_layTotal_115 : decode cX10_layTotal 115 = .ok (.sipush 513, 3) := by decide +kernel
theorem dX10_layTotal_118 : decode cX10_layTotal 118 = .ok (.iload_n 2, 1) := by decide +kernel
theorem dX10_layTotal_119 : decode cX10_layTotal 119 = .ok (.imul, 1) := by decide +kernel
theorem dX10_layTotal_120 : decode cX10_layTotal 120 = .ok (.iload 4, 2) := by decide +kernel
theorem dX10_layTotal_122 : decode cX10_layTotal 122 = .ok (.iadd, 1) := by decide +kernel
theorem dX10_layTotal_123 : decode cX10_layTotal 123 = .ok (.laload, 1) := by decide +kernel
theorem dX10_layTotal_124 : decode cX10_layTotal 124 = .ok (.lstore 5, 2) := by decide +kernel
theorem dX10_layTotal_126 : decode cX10_layTotal 126 = .ok (.lload 5, 2) := by decide +kernel
theorem dX10_layTotal_128 : decode cX10_layTotal 128 = .ok (.lconst 0, 1) := by decide +kernel
theorem dX10_layTotal_129 : decode cX10_layTotal 129 = .ok (.lcmp, 1) := by decide +kernel
theorem dX10_layTotal_130 : decode cX10_layTotal 130 = .ok (.ifCond .le 28, 3) := by decide +kernel
theorem dX10_layTotal_133 : decode cX10_layTotal 133 = .ok (.aload_n 0, 1) := by decide +kernel
theorem dX10_layTotal_134 : decode cX10_layTotal 134 = .ok (.getfield 63, 3) := by decide +kernel
theorem dX10_layTotal_137 : decode cX10_layTotal 137 = .ok (.iload_n 3, 1) := by decide +kernel
theorem dX10_layTotal_138 : decode cX10_layTotal 138 = .ok (.iload 4, 2) := by decide +kernel
theorem dX10_layTotal_140 : decode cX10_layTotal 140 = .ok (.iadd, 1) := by decide +kernel
theorem dX10_layTotal_141 : decode cX10_layTotal 141 = .ok (.sipush 256, 3) := by decide +kernel
theorem dX10_layTotal_144 : decode cX10_layTotal 144 = .ok (.isub, 1) := by decide +kernel
theorem dX10_layTotal_145 : decode cX10_layTotal 145 = .ok (.dup2, 1) := by decide +kernel
theorem dX10_layTotal_146 : decode cX10_layTotal 146 = .ok (.laload, 1) := by decide +kernel
theorem dX10_layTotal_147 : decode cX10_layTotal 147 = .ok (.aload_n 0, 1) := by decide +kernel
theorem dX10_layTotal_148 : decode cX10_layTotal 148 = .ok (.getfield 66, 3) := by decide +kernel
theorem dX10_layTotal_151 : decode cX10_layTotal 151 = .ok (.iload_n 3, 1) := by decide +kernel
theorem dX10_layTotal_152 : decode cX10_layTotal 152 = .ok (.laload, 1) := by decide +kernel
theorem dX10_layTotal_153 : decode cX10_layTotal 153 = .ok (.lload 5, 2) := by decide +kernel
theorem dX10_layTotal_155 : decode cX10_layTotal 155 = .ok (.lmul, 1) := by decide +kernel
theorem dX10_layTotal_156 : decode cX10_layTotal 156 = .ok (.ladd, 1) := by decide +kernel
theorem dX10_layTotal_157 : decode cX10_layTotal 157 = .ok (.lastore, 1) := by decide +kernel
theorem dX10_layTotal_158 : decode cX10_layTotal 158 = .ok (.iinc 4 1, 3) := by decide +kernel
theorem dX10_layTotal_161 : decode cX10_layTotal 161 = .ok (.goto (-69), 3) := by decide +kernel
theorem dX10_layTotal_164 : decode cX10_layTotal 164 = .ok (.iinc 3 1, 3) := by decide +kernel
theorem dX10_layTotal_167 : decode cX10_layTotal 167 = .ok (.goto (-85), 3) := by decide +kernel
theorem dX10_layTotal_170 : decode cX10_layTotal 170 = .ok (.iinc 1 1, 3) := by decide +kernel
theorem dX10_layTotal_173 : decode cX10_layTotal 173 = .ok (.goto (-138), 3) := by decide +kernel
theorem dX10_layTotal_176 : decode cX10_layTotal 176 = .ok (.return_, 1) := by decide +kernel
theorem dX10_letters_0 : decode cX10_letters 0 = .ok (.iconst 0, 1) := by decide +kernel
theorem dX10_letters_1 : decode cX10_letters 1 = .ok (.istore_n 3, 1) := by decide +kernel
theorem dX10_letters_2 : decode cX10_letters 2 = .ok (.iconst 1, 1) := by decide +kernel
theorem dX10_letters_3 : decode cX10_letters 3 = .ok (.istore 4, 2) := by decide +kernel
theorem dX10_letters_5 : decode cX10_letters 5 = .ok (.lload_n 1, 1) := by decide +kernel
theorem dX10_letters_6 : decode cX10_letters 6 = .ok (.lstore 5, 2) := by decide +kernel
theorem dX10_letters_8 : decode cX10_letters 8 = .ok (.iconst 0, 1) := by decide +kernel
theorem dX10_letters_9 : decode cX10_letters 9 = .ok (.istore 7, 2) := by decide +kernel
theorem dX10_letters_11 : decode cX10_letters 11 = .ok (.iload 7, 2) := by decide +kernel
theorem dX10_letters_13 : decode cX10_letters 13 = .ok (.bipush 8, 2) := by decide +kernel
theorem dX10_letters_15 : decode cX10_letters 15 = .ok (.if_icmp .ge 68, 3) := by decide +kernel
theorem dX10_letters_18 : decode cX10_letters 18 = .ok (.lload 5, 2) := by decide +kernel
theorem dX10_letters_20 : decode cX10_letters 20 = .ok (.ldc2_w 102, 3) := by decide +kernel
theorem dX10_letters_23 : decode cX10_letters 23 = .ok (.land, 1) := by decide +kernel
theorem dX10_letters_24 : decode cX10_letters 24 = .ok (.l2i, 1) := by decide +kernel
theorem dX10_letters_25 : decode cX10_letters 25 = .ok (.istore 8, 2) := by decide +kernel
theorem dX10_letters_27 : decode cX10_letters 27 = .ok (.lload 5, 2) := by decide +kernel
theorem dX10_letters_29 : decode cX10_letters 29 = .ok (.bipush 8, 2) := by decide +kernel
theorem dX10_letters_31 : decode cX10_letters 31 = .ok (.lushr, 1) := by decide +kernel
theorem dX10_letters_32 : decode cX10_letters 32 = .ok (.lstore 5, 2) := by decide +kernel
theorem dX10_letters_34 : decode cX10_letters 34 = .ok (.iload 4, 2) := by decide +kernel
theorem dX10_letters_36 : decode cX10_letters 36 = .ok (.ifCond .eq 25, 3) := by decide +kernel
theorem dX10_letters_39 : decode cX10_letters 39 = .ok (.iload 8, 2) := by decide +kernel
theorem dX10_letters_41 : decode cX10_letters 41 = .ok (.bipush 126, 2) := by decide +kernel
theorem dX10_letters_43 : decode cX10_letters 43 = .ok (.if_icmp .gt 18, 3) := by decide +kernel
theorem dX10_letters_46 : decode cX10_letters 46 = .ok (.iload 8, 2) := by decide +kernel
theorem dX10_letters_48 : decode cX10_letters 48 = .ok (.ifCond .eq 9, 3) := by decide +kernel
theorem dX10_letters_51 : decode cX10_letters 51 = .ok (.iload_n 3, 1) := by decide +kernel
theorem dX10_letters_52 : decode cX10_letters 52 = .ok (.iload 7, 2) := by decide +kernel
theorem dX10_letters_54 : decode cX10_letters 54 = .ok (.if_icmp .ne 7, 3) := by decide +kernel
theorem dX10_letters_57 : decode cX10_letters 57 = .ok (.iconst 1, 1) := by decide +kernel
theorem dX10_letters_58 : decode cX10_letters 58 = .ok (.goto 4, 3) := by decide +kernel
theorem dX10_letters_61 : decode cX10_letters 61 = .ok (.iconst 0, 1) := by decide +kernel
theorem dX10_letters_62 : decode cX10_letters 62 = .ok (.istore 4, 2) := by decide +kernel
theorem dX10_letters_64 : decode cX10_letters 64 = .ok (.iload_n 3, 1) := by decide +kernel
theorem dX10_letters_65 : decode cX10_letters 65 = .ok (.iload 8, 2) := by decide +kernel
theorem dX10_letters_67 : decode cX10_letters 67 = .ok (.ifCond .le 7, 3) := by decide +kernel
theorem dX10_letters_70 : decode cX10_letters 70 = .ok (.iconst 1, 1) := by decide +kernel
theorem dX10_letters_71 : decode cX10_letters 71 = .ok (.goto 4, 3) := by decide +kernel
theorem dX10_letters_74 : decode cX10_letters 74 = .ok (.iconst 0, 1) := by decide +kernel
theorem dX10_letters_75 : decode cX10_letters 75 = .ok (.iadd, 1) := by decide +kernel
theorem dX10_letters_76 : decode cX10_letters 76 = .ok (.istore_n 3, 1) := by decide +kernel
theorem dX10_letters_77 : decode cX10_letters 77 = .ok (.iinc 7 1, 3) := by decide +kernel
theorem dX10_letters_80 : decode cX10_letters 80 = .ok (.goto (-69), 3) := by decide +kernel
theorem dX10_letters_83 : decode cX10_letters 83 = .ok (.iload 4, 2) := by decide +kernel
theorem dX10_letters_85 : decode cX10_letters 85 = .ok (.ifCond .ne 6, 3) := by decide +kernel
theorem dX10_letters_88 : decode cX10_letters 88 = .ok (.bipush (-102), 2) := by decide +kernel
theorem dX10_letters_90 : decode cX10_letters 90 = .ok (.ireturn, 1) := by decide +kernel
theorem dX10_letters_91 : decode cX10_letters 91 = .ok (.aload_n 0, 1) := by decide +kernel
theorem dX10_letters_92 : decode cX10_letters 92 = .ok (.getfield 104, 3) := by decide +kernel
theorem dX10_letters_95 : decode cX10_letters 95 = .ok (.iload_n 3, 1) := by decide +kernel
theorem dX10_letters_96 : decode cX10_letters 96 = .ok (.iadd, 1) := by decide +kernel
theorem dX10_letters_97 : decode cX10_letters 97 = .ok (.bipush 40, 2) := by decide +kernel
theorem dX10_letters_99 : decode cX10_letters 99 = .ok (.if_icmp .le 6, 3) := by decide +kernel
theorem dX10_letters_102 : decode cX10_letters 102 = .ok (.bipush (-104), 2) := by decide +kernel
theorem dX10_letters_104 : decode cX10_letters 104 = .ok (.ireturn, 1) := by decide +kernel
theorem dX10_letters_105 : decode cX10_letters 105 = .ok (.iconst 0, 1) := by decide +kernel
theorem dX10_letters_106 : decode cX10_letters 106 = .ok (.istore 7, 2) := by decide +kernel
theorem dX10_letters_108 : decode cX10_letters 108 = .ok (.iload 7, 2) := by decide +kernel
theorem dX10_letters_110 : decode cX10_letters 110 = .ok (.iload_n 3, 1) := by decide +kernel
theorem dX10_letters_111 : decode cX10_letters 111 = .ok (.if_icmp .ge 40, 3) := by decide +kernel
theorem dX10_letters_114 : decode cX10_letters 114 = .ok (.aload_n 0, 1) := by decide +kernel
theorem dX10_letters_115 : decode cX10_letters 115 = .ok (.getfield 7, 3) := by decide +kernel
theorem dX10_letters_118 : decode cX10_letters 118 = .ok (.aload_n 0, 1) := by decide +kernel
theorem dX10_letters_119 : decode cX10_letters 119 = .ok (.getfield 104, 3) := by decide +kernel
theorem dX10_letters_122 : decode cX10_letters 122 = .ok (.lload_n 1, 1) := by decide +kernel
theorem dX10_letters_123 : decode cX10_letters 123 = .ok (.bipush 8, 2) := by decide +kernel
theorem dX10_letters_125 : decode cX10_letters 125 = .ok (.iload 7, 2) := by decide +kernel
theorem dX10_letters_127 : decode cX10_letters 127 = .ok (.imul, 1) := by decide +kernel
theorem dX10_letters_128 : decode cX10_letters 128 = .ok (.lushr, 1) := by decide +kernel
theorem dX10_letters_129 : decode cX10_letters 129 = .ok (.ldc2_w 102, 3) := by decide +kernel
theorem dX10_letters_132 : decode cX10_letters 132 = .ok (.land, 1) := by decide +kernel
theorem dX10_letters_133 : decode cX10_letters 133 = .ok (.l2i, 1) := by decide +kernel
theorem dX10_letters_134 : decode cX10_letters 134 = .ok (.iastore, 1) := by decide +kernel
theorem dX10_letters_135 : decode cX10_letters 135 = .ok (.aload_n 0, 1) := by decide +kernel
theorem dX10_letters_136 : decode cX10_letters 136 = .ok (.dup, 1) := by decide +kernel
theorem dX10_letters_137 : decode cX10_letters 137 = .ok (.getfield 104, 3) := by decide +kernel
theorem dX10_letters_140 : decode cX10_letters 140 = .ok (.iconst 1, 1) := by decide +kernel
theorem dX10_letters_141 : decode cX10_letters 141 = .ok (.iadd, 1) := by decide +kernel
theorem dX10_letters_142 : decode cX10_letters 142 = .ok (.putfield 104, 3) := by decide +kernel
theorem dX10_letters_145 : decode cX10_letters 145 = .ok (.iinc 7 1, 3) := by decide +kernel
theorem dX10_letters_148 : decode cX10_letters 148 = .ok (.goto (-40), 3) := by decide +kernel
theorem dX10_letters_151 : decode cX10_letters 151 = .ok (.aload_n 0, 1) := by decide +kernel
theorem dX10_letters_152 : decode cX10_letters 152 = .ok (.getfield 104, 3) := by decide +kernel
theorem dX10_letters_155 : decode cX10_letters 155 = .ok (.ireturn, 1) := by decide +kernel
theorem dX10_look_0 : decode cX10_look 0 = .ok (.aload_n 0, 1) := by decide +kernel
theorem dX10_look_1 : decode cX10_look 1 = .ok (.iconst 0, 1) := by decide +kernel
theorem dX10_look_2 : decode cX10_look 2 = .ok (.putfield 256, 3) := by decide +kernel
theorem dX10_look_5 : decode cX10_look 5 = .ok (.iconst 0, 1) := by decide +kernel
theorem dX10_look_6 : decode cX10_look 6 = .ok (.istore 4, 2) := by decide +kernel
theorem dX10_look_8 : decode cX10_look 8 = .ok (.iload 4, 2) := by decide +kernel
theorem dX10_look_10 : decode cX10_look 10 = .ok (.aload_n 0, 1) := by decide +kernel
theorem dX10_look_11 : decode cX10_look 11 = .ok (.getfield 178, 3) := by decide +kernel
theorem dX10_look_14 : decode cX10_look 14 = .ok (.if_icmp .ge 98, 3) := by decide +kernel
theorem dX10_look_17 : decode cX10_look 17 = .ok (.aload_n 0, 1) := by decide +kernel
theorem dX10_look_18 : decode cX10_look 18 = .ok (.iload 4, 2) := by decide +kernel
theorem dX10_look_20 : decode cX10_look 20 = .ok (.invokevirtual 228, 3) := by decide +kernel
theorem dX10_look_23 : decode cX10_look 23 = .ok (.ifCond .eq 83, 3) := by decide +kernel
theorem dX10_look_26 : decode cX10_look 26 = .ok (.iload 4, 2) := by decide +kernel
theorem dX10_look_28 : decode cX10_look 28 = .ok (.iload_n 3, 1) := by decide +kernel
theorem dX10_look_29 : decode cX10_look 29 = .ok (.if_icmp .eq 77, 3) := by decide +kernel
theorem dX10_look_32 : decode cX10_look 32 = .ok (.aload_n 0, 1) := by decide +kernel
theorem dX10_look_33 : decode cX10_look 33 = .ok (.getfield 46, 3) := by decide +kernel
theorem dX10_look_36 : decode cX10_look 36 = .ok (.aload_n 0, 1) := by decide +kernel
theorem dX10_look_37 : decode cX10_look 37 = .ok (.getfield 256, 3) := by decide +kernel
theorem dX10_look_40 : decode cX10_look 40 = .ok (.aload_n 0, 1) := by decide +kernel
theorem dX10_look_41 : decode cX10_look 41 = .ok (.getfield 37, 3) := by decide +kernel
theorem dX10_look_44 : decode cX10_look 44 = .ok (.bipush 6, 2) := by decide +kernel
theorem dX10_look_46 : decode cX10_look 46 = .ok (.iload 4, 2) := by decide +kernel
theorem dX10_look_48 : decode cX10_look 48 = .ok (.imul, 1) := by decide +kernel
theorem dX10_look_49 : decode cX10_look 49 = .ok (.iconst 1, 1) := by decide +kernel
theorem dX10_look_50 : decode cX10_look 50 = .ok (.iadd, 1) := by decide +kernel
theorem dX10_look_51 : decode cX10_look 51 = .ok (.iaload, 1) := by decide +kernel
theorem dX10_look_52 : decode cX10_look 52 = .ok (.iastore, 1) := by decide +kernel
theorem dX10_look_53 : decode cX10_look 53 = .ok (.aload_n 0, 1) := by decide +kernel
theorem dX10_look_54 : decode cX10_look 54 = .ok (.getfield 49, 3) := by decide +kernel
theorem dX10_look_57 : decode cX10_look 57 = .ok (.aload_n 0, 1) := by decide +kernel
theorem dX10_look_58 : decode cX10_look 58 = .ok (.getfield 256, 3) := by decide +kernel
theorem dX10_look_61 : decode cX10_look 61 = .ok (.aload_n 0, 1) := by decide +kernel
theorem dX10_look_62 : decode cX10_look 62 = .ok (.iload_n 1, 1) := by decide +kernel
theorem dX10_look_63 : decode cX10_look 63 = .ok (.iload 4, 2) := by decide +kernel
theorem dX10_look_65 : decode cX10_look 65 = .ok (.invokevirtual 218, 3) := by decide +kernel
theorem dX10_look_68 : decode cX10_look 68 = .ok (.iastore, 1) := by decide +kernel
theorem dX10_look_69 : decode cX10_look 69 = .ok (.aload_n 0, 1) := by decide +kernel
theorem dX10_look_70 : decode cX10_look 70 = .ok (.getfield 52, 3) := by decide +kernel
theorem dX10_look_73 : decode cX10_look 73 = .ok (.aload_n 0, 1) := by decide +kernel
theorem dX10_look_74 : decode cX10_look 74 = .ok (.getfield 256, 3) := by decide +kernel
theorem dX10_look_77 : decode cX10_look 77 = .ok (.aload_n 0, 1) := by decide +kernel
theorem dX10_look_78 : decode cX10_look 78 = .ok (.iload 4, 2) := by decide +kernel
theorem dX10_look_80 : decode cX10_look 80 = .ok (.iload_n 2, 1) := by decide +kernel
theorem dX10_look_81 : decode cX10_look 81 = .ok (.invokevirtual 231, 3) := by decide +kernel
theorem dX10_look_84 : decode cX10_look 84 = .ok (.bastore, 1) := by decide +kernel
theorem dX10_look_85 : decode cX10_look 85 = .ok (.aload_n 0, 1) := by decide +kernel
theorem dX10_look_86 : decode cX10_look 86 = .ok (.getfield 56, 3) := by decide +kernel
theorem dX10_look_89 : decode cX10_look 89 = .ok (.aload_n 0, 1) := by decide +kernel
theorem dX10_look_90 : decode cX10_look 90 = .ok (.getfield 256, 3) := by decide +kernel
theorem dX10_look_93 : decode cX10_look 93 = .ok (.iload 4, 2) := by decide +kernel
theorem dX10_look_95 : decode cX10_look 95 = .ok (.iastore, 1) := by decide +kernel
theorem dX10_look_96 : decode cX10_look 96 = .ok (.aload_n 0, 1) := by decide +kernel
theorem dX10_look_97 : decode cX10_look 97 = .ok (.dup, 1) := by decide +kernel
theorem dX10_look_98 : decode cX10_look 98 = .ok (.getfield 256, 3) := by decide +kernel
theorem dX10_look_101 : decode cX10_look 101 = .ok (.iconst 1, 1) := by decide +kernel
theorem dX10_look_102 : decode cX10_look 102 = .ok (.iadd, 1) := by decide +kernel
theorem dX10_look_103 : decode cX10_look 103 = .ok (.putfield 256, 3) := by decide +kernel
theorem dX10_look_106 : decode cX10_look 106 = .ok (.iinc 4 1, 3) := by decide +kernel
theorem dX10_look_109 : decode cX10_look 109 = .ok (.goto (-101), 3) := by decide +kernel
theorem dX10_look_112 : decode cX10_look 112 = .ok (.return_, 1) := by decide +kernel
theorem dX10_lowClass_0 : decode cX10_lowClass 0 = .ok (.aload_n 0, 1) := by decide +kernel
theorem dX10_lowClass_1 : decode cX10_lowClass 1 = .ok (.aload_n 0, 1) := by decide +kernel
theorem dX10_lowClass_2 : decode cX10_lowClass 2 = .ok (.iload_n 1, 1) := by decide +kernel
theorem dX10_lowClass_3 : decode cX10_lowClass 3 = .ok (.iload_n 2, 1) := by decide +kernel
theorem dX10_lowClass_4 : decode cX10_lowClass 4 = .ok (.invokevirtual 218, 3) := by decide +kernel
theorem dX10_lowClass_7 : decode cX10_lowClass 7 = .ok (.aload_n 0, 1) := by decide +kernel
theorem dX10_lowClass_8 : decode cX10_lowClass 8 = .ok (.getfield 168, 3) := by decide +kernel
theorem dX10_lowClass_11 : decode cX10_lowClass 11 = .ok (.isub, 1) := by decide +kernel
theorem dX10_lowClass_12 : decode cX10_lowClass 12 = .ok (.invokevirtual 309, 3) := by decide +kernel
theorem dX10_lowClass_15 : decode cX10_lowClass 15 = .ok (.ireturn, 1) := by decide +kernel
theorem dX10_measure_0 : decode cX10_measure 0 = .ok (.aload_n 0, 1) := by decide +kernel
theorem dX10_measure_1 : decode cX10_measure 1 = .ok (.iconst 1, 1) := by decide +kernel
theorem dX10_measure_2 : decode cX10_measure 2 = .ok (.invokevirtual 156, 3) := by decide +kernel
theorem dX10_measure_5 : decode cX10_measure 5 = .ok (.aload_n 0, 1) := by decide +kernel
theorem dX10_measure_6 : decode cX10_measure 6 = .ok (.getfield 104, 3) := by decide +kernel
theorem dX10_measure_9 : decode cX10_measure 9 = .ok (.if_icmp .lt 19, 3) := by decide +kernel
theorem dX10_measure_12 : decode cX10_measure 12 = .ok (.aload_n 0, 1) := by decide +kernel
theorem dX10_measure_13 : decode cX10_measure 13 = .ok (.getfield 107, 3) := by decide +kernel
theorem dX10_measure_16 : decode cX10_measure 16 = .ok (.iconst 2, 1) := by decide +kernel
theorem dX10_measure_17 : decode cX10_measure 17 = .ok (.if_icmp .ne 11, 3) := by decide +kernel
theorem dX10_measure_20 : decode cX10_measure 20 = .ok (.aload_n 0, 1) := by decide +kernel
theorem dX10_measure_21 : decode cX10_measure 21 = .ok (.getfield 138, 3) := by decide +kernel
theorem dX10_measure_24 : decode cX10_measure 24 = .ok (.iconst 1, 1) := by decide +kernel
theorem dX10_measure_25 : decode cX10_measure 25 = .ok (.if_icmp .eq 6, 3) := by decide +kernel
theorem dX10_measure_28 : decode cX10_measure 28 = .ok (.bipush (-103), 2) := by decide +kernel
theorem dX10_measure_30 : decode cX10_measure 30 = .ok (.ireturn, 1) := by decide +kernel
theorem dX10_measure_31 : decode cX10_measure 31 = .ok (.aload_n 0, 1) := by decide +kernel
theorem dX10_measure_32 : decode cX10_measure 32 = .ok (.getfield 162, 3) := by decide +kernel
theorem dX10_measure_35 : decode cX10_measure 35 = .ok (.iconst 4, 1) := by decide +kernel
theorem dX10_measure_36 : decode cX10_measure 36 = .ok (.if_icmp .ne 6, 3) := by decide +kernel
theorem dX10_measure_39 : decode cX10_measure 39 = .ok (.bipush (-104), 2) := by decide +kernel
theorem dX10_measure_41 : decode cX10_measure 41 = .ok (.ireturn, 1) := by decide +kernel
theorem dX10_measure_42 : decode cX10_measure 42 = .ok (.iconst 0, 1) := by decide +kernel
theorem dX10_measure_43 : decode cX10_measure 43 = .ok (.istore_n 1, 1) := by decide +kernel
theorem dX10_measure_44 : decode cX10_measure 44 = .ok (.iload_n 1, 1) := by decide +kernel
theorem dX10_measure_45 : decode cX10_measure 45 = .ok (.bipush 24, 2) := by decide +kernel
theorem dX10_measure_47 : decode cX10_measure 47 = .ok (.if_icmp .ge 29, 3) := by decide +kernel
theorem dX10_measure_50 : decode cX10_measure 50 = .ok (.aload_n 0, 1) := by decide +kernel
theorem dX10_measure_51 : decode cX10_measure 51 = .ok (.getfield 25, 3) := by decide +kernel
theorem dX10_measure_54 : decode cX10_measure 54 = .ok (.bipush 24, 2) := by decide +kernel
theorem dX10_measure_56 : decode cX10_measure 56 = .ok (.aload_n 0, 1) := by decide +kernel
theorem dX10_measure_57 : decode cX10_measure 57 = .ok (.getfield 162, 3) := by decide +kernel
theorem dX10_measure_60 : decode cX10_measure 60 = .ok (.imul, 1) := by decide +kernel
theorem dX10_measure_61 : decode cX10_measure 61 = .ok (.iload_n 1, 1) := by decide +kernel
theorem dX10_measure_62 : decode cX10_measure 62 = .ok (.iadd, 1) := by decide +kernel
theorem dX10_measure_63 : decode cX10_measure 63 = .ok (.aload_n 0, 1) := by decide +kernel
theorem dX10_measure_64 : decode cX10_measure 64 = .ok (.getfield 16, 3) := by decide +kernel
theorem dX10_measure_67 : decode cX10_measure 67 = .ok (.iload_n 1, 1) := by decide +kernel
theorem dX10_measure_68 : decode cX10_measure 68 = .ok (.iaload, 1) := by decide +kernel
theorem dX10_measure_69 : decode cX10_measure 69 = .ok (.iastore, 1) := by decide +kernel
theorem dX10_measure_70 : decode cX10_measure 70 = .ok (.iinc 1 1, 3) := by decide +kernel
theorem dX10_measure_73 : decode cX10_measure 73 = .ok (.goto (-29), 3) := by decide +kernel
theorem dX10_measure_76 : decode cX10_measure 76 = .ok (.aload_n 0, 1) := by decide +kernel
theorem dX10_measure_77 : decode cX10_measure 77 = .ok (.dup, 1) := by decide +kernel
theorem dX10_measure_78 : decode cX10_measure 78 = .ok (.getfield 162, 3) := by decide +kernel
theorem dX10_measure_81 : decode cX10_measure 81 = .ok (.iconst 1, 1) := by decide +kernel
theorem dX10_measure_82 : decode cX10_measure 82 = .ok (.iadd, 1) := by decide +kernel
theorem dX10_measure_83 : decode cX10_measure 83 = .ok (.putfield 162, 3) := by decide +kernel
theorem dX10_measure_86 : decode cX10_measure 86 = .ok (.aload_n 0, 1) := by decide +kernel
theorem dX10_measure_87 : decode cX10_measure 87 = .ok (.iconst 0, 1) := by decide +kernel
theorem dX10_measure_88 : decode cX10_measure 88 = .ok (.putfield 104, 3) := by decide +kernel
theorem dX10_measure_91 : decode cX10_measure 91 = .ok (.aload_n 0, 1) := by decide +kernel
theorem dX10_measure_92 : decode cX10_measure 92 = .ok (.getfield 162, 3) := by decide +kernel
theorem dX10_measure_95 : decode cX10_measure 95 = .ok (.iconst 1, 1) := by decide +kernel
theorem dX10_measure_96 : decode cX10_measure 96 = .ok (.isub, 1) := by decide +kernel
theorem dX10_measure_97 : decode cX10_measure 97 = .ok (.ireturn, 1) := by decide +kernel
theorem dX10_mountain_0 : decode cX10_mountain 0 = .ok (.iload_n 1, 1) := by decide +kernel
theorem dX10_mountain_1 : decode cX10_mountain 1 = .ok (.i2l, 1) := by decide +kernel
theorem dX10_mountain_2 : decode cX10_mountain 2 = .ok (.lconst 0, 1) := by decide +kernel
theorem dX10_mountain_3 : decode cX10_mountain 3 = .ok (.ldc2_w 171, 3) := by decide +kernel
theorem dX10_mountain_6 : decode cX10_mountain 6 = .ok (.invokestatic 98, 3) := by decide +kernel
theorem dX10_mountain_9 : decode cX10_mountain 9 = .ok (.ifCond .ne 6, 3) := by decide +kernel
theorem dX10_mountain_12 : decode cX10_mountain 12 = .ok (.bipush (-102), 2) := by decide +kernel
theorem dX10_mountain_14 : decode cX10_mountain 14 = .ok (.ireturn, 1) := by decide +kernel
theorem dX10_mountain_15 : decode cX10_mountain 15 = .ok (.aload_n 0, 1) := by decide +kernel
theorem dX10_mountain_16 : decode cX10_mountain 16 = .ok (.getfield 221, 3) := by decide +kernel
theorem dX10_mountain_19 : decode cX10_mountain 19 = .ok (.bipush 6, 2) := by decide +kernel
theorem dX10_mountain_21 : decode cX10_mountain 21 = .ok (.if_icmp .ne 6, 3) := by decide +kernel
theorem dX10_mountain_24 : decode cX10_mountain 24 = .ok (.bipush (-104), 2) := by decide +kernel
theorem dX10_mountain_26 : decode cX10_mountain 26 = .ok (.ireturn, 1) := by decide +kernel
theorem dX10_mountain_27 : decode cX10_mountain 27 = .ok (.aload_n 0, 1) := by decide +kernel
theorem dX10_mountain_28 : decode cX10_mountain 28 = .ok (.getfield 43, 3) := by decide +kernel
theorem dX10_mountain_31 : decode cX10_mountain 31 = .ok (.aload_n 0, 1) := by decide +kernel
theorem dX10_mountain_32 : decode cX10_mountain 32 = .ok (.getfield 221, 3) := by decide +kernel
theorem dX10_mountain_35 : decode cX10_mountain 35 = .ok (.iload_n 1, 1) := by decide +kernel
theorem dX10_mountain_36 : decode cX10_mountain 36 = .ok (.iastore, 1) := by decide +kernel
theorem dX10_mountain_37 : decode cX10_mountain 37 = .ok (.aload_n 0, 1) := by decide +kernel
theorem dX10_mountain_38 : decode cX10_mountain 38 = .ok (.dup, 1) := by decide +kernel
theorem dX10_mountain_39 : decode cX10_mountain 39 = .ok (.getfield 221, 3) := by decide +kernel
theorem dX10_mountain_42 : decode cX10_mountain 42 = .ok (.iconst 1, 1) := by decide +kernel
theorem dX10_mountain_43 : decode cX10_mountain 43 = .ok (.iadd, 1) := by decide +kernel
theorem dX10_mountain_44 : decode cX10_mountain 44 = .ok (.putfield 221, 3) := by decide +kernel
theorem dX10_mountain_47 : decode cX10_mountain 47 = .ok (.aload_n 0, 1) := by decide +kernel
theorem dX10_mountain_48 : decode cX10_mountain 48 = .ok (.getfield 221, 3) := by decide +kernel
theorem dX10_mountain_51 : decode cX10_mountain 51 = .ok (.iconst 1, 1) := by decide +kernel
theorem dX10_mountain_52 : decode cX10_mountain 52 = .ok (.isub, 1) := by decide +kernel
theorem dX10_mountain_53 : decode cX10_mountain 53 = .ok (.ireturn, 1) := by decide +kernel
theorem dX10_near_0 : decode cX10_near 0 = .ok (.aload_n 0, 1) := by decide +kernel
theorem dX10_near_1 : decode cX10_near 1 = .ok (.iload_n 1, 1) := by decide +kernel
theorem dX10_near_2 : decode cX10_near 2 = .ok (.invokevirtual 191, 3) := by decide +kernel
theorem dX10_near_5 : decode cX10_near 5 = .ok (.ifCond .ne 6, 3) := by decide +kernel
theorem dX10_near_8 : decode cX10_near 8 = .ok (.bipush (-101), 2) := by decide +kernel
theorem dX10_near_10 : decode cX10_near 10 = .ok (.ireturn, 1) := by decide +kernel
theorem dX10_near_11 : decode cX10_near 11 = .ok (.iload_n 2, 1) := by decide +kernel
theorem dX10_near_12 : decode cX10_near 12 = .ok (.invokestatic 235, 3) := by decide +kernel
theorem dX10_near_15 : decode cX10_near 15 = .ok (.ifCond .eq 12, 3) := by decide +kernel
theorem dX10_near_18 : decode cX10_near 18 = .ok (.aload_n 0, 1) := by decide +kernel
theorem dX10_near_19 : decode cX10_near 19 = .ok (.iload_n 1, 1) := by decide +kernel
theorem dX10_near_20 : decode cX10_near 20 = .ok (.iload_n 2, 1) := by decide +kernel
theorem dX10_near_21 : decode cX10_near 21 = .ok (.invokevirtual 238, 3) := by decide +kernel
theorem dX10_near_24 : decode cX10_near 24 = .ok (.goto 5, 3) := by decide +kernel
theorem dX10_near_27 : decode cX10_near 27 = .ok (.bipush (-102), 2) := by decide +kernel
theorem dX10_near_29 : decode cX10_near 29 = .ok (.ireturn, 1) := by decide +kernel
theorem dX10_nearOf_0 : decode cX10_nearOf 0 = .ok (.aload_n 0, 1) := by decide +kernel
theorem dX10_nearOf_1 : decode cX10_nearOf 1 = .ok (.iload_n 1, 1) := by decide +kernel
theorem dX10_nearOf_2 : decode cX10_nearOf 2 = .ok (.invokevirtual 228, 3) := by decide +kernel
theorem dX10_nearOf_5 : decode cX10_nearOf 5 = .ok (.ifCond .ne 7, 3) := by decide +kernel
theorem dX10_nearOf_8 : decode cX10_nearOf 8 = .ok (.iconst (-1), 1) := by decide +kernel
theorem dX10_nearOf_9 : decode cX10_nearOf 9 = .ok (.goto 17, 3) := by decide +kernel
theorem dX10_nearOf_12 : decode cX10_nearOf 12 = .ok (.aload_n 0, 1) := by decide +kernel
theorem dX10_nearOf_13 : decode cX10_nearOf 13 = .ok (.iload_n 1, 1) := by decide +kernel
theorem dX10_nearOf_14 : decode cX10_nearOf 14 = .ok (.iload_n 2, 1) := by decide +kernel
theorem dX10_nearOf_15 : decode cX10_nearOf 15 = .ok (.invokevirtual 231, 3) := by decide +kernel
theorem dX10_nearOf_18 : decode cX10_nearOf 18 = .ok (.ifCond .eq 7, 3) := by decide +kernel
theorem dX10_nearOf_21 : decode cX10_nearOf 21 = .ok (.iconst 1, 1) := by decide +kernel
theorem dX10_nearOf_22 : decode cX10_nearOf 22 = .ok (.goto 4, 3) := by decide +kernel
theorem dX10_nearOf_25 : decode cX10_nearOf 25 = .ok (.iconst 0, 1) := by decide +kernel
theorem dX10_nearOf_26 : decode cX10_nearOf 26 = .ok (.ireturn, 1) := by decide +kernel
theorem dX10_next_0 : decode cX10_next 0 = .ok (.aload_n 0, 1) := by decide +kernel
theorem dX10_next_1 : decode cX10_next 1 = .ok (.iload_n 1, 1) := by decide +kernel
theorem dX10_next_2 : decode cX10_next 2 = .ok (.invokevirtual 215, 3) := by decide +kernel
theorem dX10_next_5 : decode cX10_next 5 = .ok (.ifCond .ne 6, 3) := by decide +kernel
theorem dX10_next_8 : decode cX10_next 8 = .ok (.bipush (-101), 2) := by decide +kernel
theorem dX10_next_10 : decode cX10_next 10 = .ok (.ireturn, 1) := by decide +kernel
theorem dX10_next_11 : decode cX10_next 11 = .ok (.iload_n 2, 1) := by decide +kernel
theorem dX10_next_12 : decode cX10_next 12 = .ok (.invokestatic 235, 3) := by decide +kernel
theorem dX10_next_15 : decode cX10_next 15 = .ok (.ifCond .ne 6, 3) := by decide +kernel
theorem dX10_next_18 : decode cX10_next 18 = .ok (.bipush (-102), 2) := by decide +kernel
theorem dX10_next_20 : decode cX10_next 20 = .ok (.ireturn, 1) := by decide +kernel
theorem dX10_next_21 : decode cX10_next 21 = .ok (.aload_n 0, 1) := by decide +kernel
theorem dX10_next_22 : decode cX10_next 22 = .ok (.getfield 302, 3) := by decide +kernel
theorem dX10_next_25 : decode cX10_next 25 = .ok (.bipush 30, 2) := by decide +kernel
theorem dX10_next_27 : decode cX10_next 27 = .ok (.if_icmp .ne 6, 3) := by decide +kernel
theorem dX10_next_30 : decode cX10_next 30 = .ok (.bipush (-103), 2) := by decide +kernel
theorem dX10_next_32 : decode cX10_next 32 = .ok (.ireturn, 1) := by decide +kernel
theorem dX10_next_33 : decode cX10_next 33 = .ok (.aload_n 0, 1) := by decide +kernel
theorem dX10_next_34 : decode cX10_next 34 = .ok (.dup, 1) := by decide +kernel
theorem dX10_next_35 : decode cX10_next 35 = .ok (.getfield 302, 3) := by decide +kernel
theorem dX10_next_38 : decode cX10_next 38 = .ok (.iconst 1, 1) := by decide +kernel
theorem dX10_next_39 : decode cX10_next 39 = .ok (.iadd, 1) := by decide +kernel
theorem dX10_next_40 : decode cX10_next 40 = .ok (.putfield 302, 3) := by decide +kernel
theorem dX10_next_43 : decode cX10_next 43 = .ok (.iconst (-1), 1) := by decide +kernel
theorem dX10_next_44 : decode cX10_next 44 = .ok (.istore_n 3, 1) := by decide +kernel
theorem dX10_next_45 : decode cX10_next 45 = .ok (.ldc2_w 185, 3) := by decide +kernel
theorem dX10_next_48 : decode cX10_next 48 = .ok (.lstore 4, 2) := by decide +kernel
theorem dX10_next_50 : decode cX10_next 50 = .ok (.aload_n 0, 1) := by decide +kernel
theorem dX10_next_51 : decode cX10_next 51 = .ok (.iload_n 1, 1) := by decide +kernel
theorem dX10_next_52 : decode cX10_next 52 = .ok (.iload_n 2, 1) := by decide +kernel
theorem dX10_next_53 : decode cX10_next 53 = .ok (.iconst (-1), 1) := by decide +kernel
theorem dX10_next_54 : decode cX10_next 54 = .ok (.invokevirtual 262, 3) := by decide +kernel
theorem dX10_next_57 : decode cX10_next 57 = .ok (.iconst 0, 1) := by decide +kernel
theorem dX10_next_58 : decode cX10_next 58 = .ok (.istore 6, 2) := by decide +kernel
theorem dX10_next_60 : decode cX10_next 60 = .ok (.iload 6, 2) := by decide +kernel
theorem dX10_next_62 : decode cX10_next 62 = .ok (.aload_n 0, 1) := by decide +kernel
theorem dX10_next_63 : decode cX10_next 63 = .ok (.getfield 256, 3) := by decide +kernel
theorem dX10_next_66 : decode cX10_next 66 = .ok (.if_icmp .ge 125, 3) := by decide +kernel
theorem dX10_next_69 : decode cX10_next 69 = .ok (.aload_n 0, 1) := by decide +kernel
theorem dX10_next_70 : decode cX10_next 70 = .ok (.getfield 49, 3) := by decide +kernel
theorem dX10_next_73 : decode cX10_next 73 = .ok (.iload 6, 2) := by decide +kernel
theorem dX10_next_75 : decode cX10_next 75 = .ok (.iaload, 1) := by decide +kernel
theorem dX10_next_76 : decode cX10_next 76 = .ok (.istore 7, 2) := by decide +kernel
theorem dX10_next_78 : decode cX10_next 78 = .ok (.aload_n 0, 1) := by decide +kernel
theorem dX10_next_79 : decode cX10_next 79 = .ok (.getfield 49, 3) := by decide +kernel
theorem dX10_next_82 : decode cX10_next 82 = .ok (.iload 6, 2) := by decide +kernel
theorem dX10_next_84 : decode cX10_next 84 = .ok (.iconst (-1), 1) := by decide +kernel
theorem dX10_next_85 : decode cX10_next 85 = .ok (.iastore, 1) := by decide +kernel
theorem dX10_next_86 : decode cX10_next 86 = .ok (.aload_n 0, 1) := by decide +kernel
theorem dX10_next_87 : decode cX10_next 87 = .ok (.invokevirtual 293, 3) := by decide +kernel
theorem dX10_next_90 : decode cX10_next 90 = .ok (.aload_n 0, 1) := by decide +kernel
theorem dX10_next_91 : decode cX10_next 91 = .ok (.getfield 275, 3) := by decide +kernel
theorem dX10_next_94 : decode cX10_next 94 = .ok (.lstore 8, 2) := by decide +kernel
theorem dX10_next_96 : decode cX10_next 96 = .ok (.aload_n 0, 1) := by decide +kernel
theorem dX10_next_97 : decode cX10_next 97 = .ok (.getfield 49, 3) := by decide +kernel
theorem dX10_next_100 : decode cX10_next 100 = .ok (.iload 6, 2) := by decide +kernel
theorem dX10_next_102 : decode cX10_next 102 = .ok (.ldc_w 305, 3) := by decide +kernel
theorem dX10_next_105 : decode cX10_next 105 = .ok (.iastore, 1) := by decide +kernel
theorem dX10_next_106 : decode cX10_next 106 = .ok (.aload_n 0, 1) := by decide +kernel
theorem dX10_next_107 : decode cX10_next 107 = .ok (.invokevirtual 293, 3) := by decide +kernel
theorem dX10_next_110 : decode cX10_next 110 = .ok (.lload 8, 2) := by decide +kernel
theorem dX10_next_112 : decode cX10_next 112 = .ok (.aload_n 0, 1) := by decide +kernel
theorem dX10_next_113 : decode cX10_next 113 = .ok (.getfield 275, 3) := by decide +kernel
theorem dX10_next_116 : decode cX10_next 116 = .ok (.lcmp, 1) := by decide +kernel
theorem dX10_next_117 : decode cX10_next 117 = .ok (.ifCond .le 13, 3) := by decide +kernel
theorem dX10_next_120 : decode cX10_next 120 = .ok (.lload 8, 2) := by decide +kernel
theorem dX10_next_122 : decode cX10_next 122 = .ok (.aload_n 0, 1) := by decide +kernel
theorem dX10_next_123 : decode cX10_next 123 = .ok (.getfield 275, 3) := by decide +kernel
theorem dX10_next_126 : decode cX10_next 126 = .ok (.lsub, 1) := by decide +kernel
theorem dX10_next_127 : decode cX10_next 127 = .ok (.goto 10, 3) := by decide +kernel
theorem dX10_next_130 : decode cX10_next 130 = .ok (.aload_n 0, 1) := by decide +kernel
theorem dX10_next_131 : decode cX10_next 131 = .ok (.getfield 275, 3) := by decide +kernel
theorem dX10_next_134 : decode cX10_next 134 = .ok (.lload 8, 2) := by decide +kernel
theorem dX10_next_136 : decode cX10_next 136 = .ok (.lsub, 1) := by decide +kernel
theorem dX10_next_137 : decode cX10_next 137 = .ok (.lstore 10, 2) := by decide +kernel
theorem dX10_next_139 : decode cX10_next 139 = .ok (.aload_n 0, 1) := by decide +kernel
theorem dX10_next_140 : decode cX10_next 140 = .ok (.getfield 49, 3) := by decide +kernel
theorem dX10_next_143 : decode cX10_next 143 = .ok (.iload 6, 2) := by decide +kernel
theorem dX10_next_145 : decode cX10_next 145 = .ok (.iload 7, 2) := by decide +kernel
theorem dX10_next_147 : decode cX10_next 147 = .ok (.iastore, 1) := by decide +kernel
theorem dX10_next_148 : decode cX10_next 148 = .ok (.lload 10, 2) := by decide +kernel
theorem dX10_next_150 : decode cX10_next 150 = .ok (.lload 4, 2) := by decide +kernel
theorem dX10_next_152 : decode cX10_next 152 = .ok (.lcmp, 1) := by decide +kernel
theorem dX10_next_153 : decode cX10_next 153 = .ok (.ifCond .le 13, 3) := by decide +kernel
theorem dX10_next_156 : decode cX10_next 156 = .ok (.aload_n 0, 1) := by decide +kernel
theorem dX10_next_157 : decode cX10_next 157 = .ok (.getfield 56, 3) := by decide +kernel
theorem dX10_next_160 : decode cX10_next 160 = .ok (.iload 6, 2) := by decide +kernel
theorem dX10_next_162 : decode cX10_next 162 = .ok (.iaload, 1) := by decide +kernel
theorem dX10_next_163 : decode cX10_next 163 = .ok (.goto 4, 3) := by decide +kernel
theorem dX10_next_166 : decode cX10_next 166 = .ok (.iload_n 3, 1) := by decide +kernel
theorem dX10_next_167 : decode cX10_next 167 = .ok (.istore_n 3, 1) := by decide +kernel
theorem dX10_next_168 : decode cX10_next 168 = .ok (.lload 10, 2) := by decide +kernel
theorem dX10_next_170 : decode cX10_next 170 = .ok (.lload 4, 2) := by decide +kernel
theorem dX10_next_172 : decode cX10_next 172 = .ok (.lcmp, 1) := by decide +kernel
theorem dX10_next_173 : decode cX10_next 173 = .ok (.ifCond .le 8, 3) := by decide +kernel
theorem dX10_next_176 : decode cX10_next 176 = .ok (.lload 10, 2) := by decide +kernel
theorem dX10_next_178 : decode cX10_next 178 = .ok (.goto 5, 3) := by decide +kernel
theorem dX10_next_181 : decode cX10_next 181 = .ok (.lload 4, 2) := by decide +kernel
theorem dX10_next_183 : decode cX10_next 183 = .ok (.lstore 4, 2) := by decide +kernel
theorem dX10_next_185 : decode cX10_next 185 = .ok (.iinc 6 1, 3) := by decide +kernel
theorem dX10_next_188 : decode cX10_next 188 = .ok (.goto (-128), 3) := by decide +kernel
theorem dX10_next_191 : decode cX10_next 191 = .ok (.iload_n 3, 1) := by decide +kernel
theorem dX10_next_192 : decode cX10_next 192 = .ok (.ireturn, 1) := by decide +kernel
theorem dX10_odds_0 : decode cX10_odds 0 = .ok (.aload_n 0, 1) := by decide +kernel
theorem dX10_odds_1 : decode cX10_odds 1 = .ok (.iload_n 1, 1) := by decide +kernel
theorem dX10_odds_2 : decode cX10_odds 2 = .ok (.invokevirtual 215, 3) := by decide +kernel
theorem dX10_odds_5 : decode cX10_odds 5 = .ok (.ifCond .ne 7, 3) := by decide +kernel
theorem dX10_odds_8 : decode cX10_odds 8 = .ok (.ldc2_w 286, 3) := by decide +kernel
theorem dX10_odds_11 : decode cX10_odds 11 = .ok (.lreturn, 1) := by decide +kernel
theorem dX10_odds_12 : decode cX10_odds 12 = .ok (.iload_n 2, 1) := by decide +kernel
theorem dX10_odds_13 : decode cX10_odds 13 = .ok (.invokestatic 235, 3) := by decide +kernel
theorem dX10_odds_16 : decode cX10_odds 16 = .ok (.ifCond .eq 10, 3) := by decide +kernel
theorem dX10_odds_19 : decode cX10_odds 19 = .ok (.iload_n 3, 1) := by decide +kernel
theorem dX10_odds_20 : decode cX10_odds 20 = .ok (.invokestatic 288, 3) := by decide +kernel
theorem dX10_odds_23 : decode cX10_odds 23 = .ok (.ifCond .ne 7, 3) := by decide +kernel
theorem dX10_odds_26 : decode cX10_odds 26 = .ok (.ldc2_w 291, 3) := by decide +kernel
theorem dX10_odds_29 : decode cX10_odds 29 = .ok (.lreturn, 1) := by decide +kernel
theorem dX10_odds_30 : decode cX10_odds 30 = .ok (.aload_n 0, 1) := by decide +kernel
theorem dX10_odds_31 : decode cX10_odds 31 = .ok (.iload_n 1, 1) := by decide +kernel
theorem dX10_odds_32 : decode cX10_odds 32 = .ok (.iload_n 2, 1) := by decide +kernel
theorem dX10_odds_33 : decode cX10_odds 33 = .ok (.iconst (-1), 1) := by decide +kernel
theorem dX10_odds_34 : decode cX10_odds 34 = .ok (.invokevirtual 262, 3) := by decide +kernel
theorem dX10_odds_37 : decode cX10_odds 37 = .ok (.aload_n 0, 1) := by decide +kernel
theorem dX10_odds_38 : decode cX10_odds 38 = .ok (.invokevirtual 293, 3) := by decide +kernel
theorem dX10_odds_41 : decode cX10_odds 41 = .ok (.aload_n 0, 1) := by decide +kernel
theorem dX10_odds_42 : decode cX10_odds 42 = .ok (.getfield 275, 3) := by decide +kernel
theorem dX10_odds_45 : decode cX10_odds 45 = .ok (.aload_n 0, 1) := by decide +kernel
theorem dX10_odds_46 : decode cX10_odds 46 = .ok (.getfield 279, 3) := by decide +kernel
theorem dX10_odds_49 : decode cX10_odds 49 = .ok (.iload_n 3, 1) := by decide +kernel
theorem dX10_odds_50 : decode cX10_odds 50 = .ok (.invokestatic 296, 3) := by decide +kernel
theorem dX10_odds_53 : decode cX10_odds 53 = .ok (.lreturn, 1) := by decide +kernel
theorem dX10_paid_0 : decode cX10_paid 0 = .ok (.iload_n 1, 1) := by decide +kernel
theorem dX10_paid_1 : decode cX10_paid 1 = .ok (.invokestatic 235, 3) := by decide +kernel
theorem dX10_paid_4 : decode cX10_paid 4 = .ok (.ifCond .eq 10, 3) := by decide +kernel
theorem dX10_paid_7 : decode cX10_paid 7 = .ok (.iload_n 2, 1) := by decide +kernel
theorem dX10_paid_8 : decode cX10_paid 8 = .ok (.invokestatic 288, 3) := by decide +kernel
theorem dX10_paid_11 : decode cX10_paid 11 = .ok (.ifCond .ne 7, 3) := by decide +kernel
theorem dX10_paid_14 : decode cX10_paid 14 = .ok (.ldc2_w 291, 3) := by decide +kernel
theorem dX10_paid_17 : decode cX10_paid 17 = .ok (.lreturn, 1) := by decide +kernel
theorem dX10_paid_18 : decode cX10_paid 18 = .ok (.aload_n 0, 1) := by decide +kernel
theorem dX10_paid_19 : decode cX10_paid 19 = .ok (.getfield 162, 3) := by decide +kernel
theorem dX10_paid_22 : decode cX10_paid 22 = .ok (.ifCond .ne 7, 3) := by decide +kernel
theorem dX10_paid_25 : decode cX10_paid 25 = .ok (.ldc2_w 300, 3) := by decide +kernel
theorem dX10_paid_28 : decode cX10_paid 28 = .ok (.lreturn, 1) := by decide +kernel
theorem dX10_paid_29 : decode cX10_paid 29 = .ok (.lconst 1, 1) := by decide +kernel
theorem dX10_paid_30 : decode cX10_paid 30 = .ok (.lstore_n 3, 1) := by decide +kernel
theorem dX10_paid_31 : decode cX10_paid 31 = .ok (.lconst 1, 1) := by decide +kernel
theorem dX10_paid_32 : decode cX10_paid 32 = .ok (.lstore 5, 2) := by decide +kernel
theorem dX10_paid_34 : decode cX10_paid 34 = .ok (.iconst 0, 1) := by decide +kernel
theorem dX10_paid_35 : decode cX10_paid 35 = .ok (.istore 7, 2) := by decide +kernel
theorem dX10_paid_37 : decode cX10_paid 37 = .ok (.iload 7, 2) := by decide +kernel
theorem dX10_paid_39 : decode cX10_paid 39 = .ok (.aload_n 0, 1) := by decide +kernel
theorem dX10_paid_40 : decode cX10_paid 40 = .ok (.getfield 162, 3) := by decide +kernel
theorem dX10_paid_43 : decode cX10_paid 43 = .ok (.if_icmp .ge 91, 3) := by decide +kernel
theorem dX10_paid_46 : decode cX10_paid 46 = .ok (.iconst 0, 1) := by decide +kernel
theorem dX10_paid_47 : decode cX10_paid 47 = .ok (.istore 8, 2) := by decide +kernel
theorem dX10_paid_49 : decode cX10_paid 49 = .ok (.iload 8, 2) := by decide +kernel
theorem dX10_paid_51 : decode cX10_paid 51 = .ok (.iload_n 1, 1) := by decide +kernel
theorem dX10_paid_52 : decode cX10_paid 52 = .ok (.if_icmp .gt 76, 3) := by decide +kernel
theorem dX10_paid_55 : decode cX10_paid 55 = .ok (.aload_n 0, 1) := by decide +kernel
theorem dX10_paid_56 : decode cX10_paid 56 = .ok (.iload 7, 2) := by decide +kernel
theorem dX10_paid_58 : decode cX10_paid 58 = .ok (.iload 8, 2) := by decide +kernel
theorem dX10_paid_60 : decode cX10_paid 60 = .ok (.iconst (-1), 1) := by decide +kernel
theorem dX10_paid_61 : decode cX10_paid 61 = .ok (.invokevirtual 262, 3) := by decide +kernel
theorem dX10_paid_64 : decode cX10_paid 64 = .ok (.aload_n 0, 1) := by decide +kernel
theorem dX10_paid_65 : decode cX10_paid 65 = .ok (.invokevirtual 293, 3) := by decide +kernel
theorem dX10_paid_68 : decode cX10_paid 68 = .ok (.aload_n 0, 1) := by decide +kernel
theorem dX10_paid_69 : decode cX10_paid 69 = .ok (.getfield 275, 3) := by decide +kernel
theorem dX10_paid_72 : decode cX10_paid 72 = .ok (.lload 5, 2) := by decide +kernel
theorem dX10_paid_74 : decode cX10_paid 74 = .ok (.lmul, 1) := by decide +kernel
theorem dX10_paid_75 : decode cX10_paid 75 = .ok (.lload_n 3, 1) := by decide +kernel
theorem dX10_paid_76 : decode cX10_paid 76 = .ok (.aload_n 0, 1) := by decide +kernel
theorem dX10_paid_77 : decode cX10_paid 77 = .ok (.getfield 279, 3) := by decide +kernel
theorem dX10_paid_80 : decode cX10_paid 80 = .ok (.lmul, 1) := by decide +kernel
theorem dX10_paid_81 : decode cX10_paid 81 = .ok (.lcmp, 1) := by decide +kernel
theorem dX10_paid_82 : decode cX10_paid 82 = .ok (.ifCond .ge 7, 3) := by decide +kernel
theorem dX10_paid_85 : decode cX10_paid 85 = .ok (.iconst 1, 1) := by decide +kernel
theorem dX10_paid_86 : decode cX10_paid 86 = .ok (.goto 4, 3) := by decide +kernel
theorem dX10_paid_89 : decode cX10_paid 89 = .ok (.iconst 0, 1) := by decide +kernel
theorem dX10_paid_90 : decode cX10_paid 90 = .ok (.istore 9, 2) := by decide +kernel
theorem dX10_paid_92 : decode cX10_paid 92 = .ok (.iload 9, 2) := by decide +kernel
theorem dX10_paid_94 : decode cX10_paid 94 = .ok (.ifCond .eq 10, 3) := by decide +kernel
theorem dX10_paid_97 : decode cX10_paid 97 = .ok (.aload_n 0, 1) := by decide +kernel
theorem dX10_paid_98 : decode cX10_paid 98 = .ok (.getfield 275, 3) := by decide +kernel
theorem dX10_paid_101 : decode cX10_paid 101 = .ok (.goto 4, 3) := by decide +kernel
theorem dX10_paid_104 : decode cX10_paid 104 = .ok (.lload_n 3, 1) := by decide +kernel
theorem dX10_paid_105 : decode cX10_paid 105 = .ok (.lstore_n 3, 1) := by decide +kernel
theorem dX10_paid_106 : decode cX10_paid 106 = .ok (.iload 9, 2) := by decide +kernel
theorem dX10_paid_108 : decode cX10_paid 108 = .ok (.ifCond .eq 10, 3) := by decide +kernel
theorem dX10_paid_111 : decode cX10_paid 111 = .ok (.aload_n 0, 1) := by decide +kernel
theorem dX10_paid_112 : decode cX10_paid 112 = .ok (.getfield 279, 3) := by decide +kernel
theorem dX10_paid_115 : decode cX10_paid 115 = .ok (.goto 5, 3) := by decide +kernel
theorem dX10_paid_118 : decode cX10_paid 118 = .ok (.lload 5, 2) := by decide +kernel
theorem dX10_paid_120 : decode cX10_paid 120 = .ok (.lstore 5, 2) := by decide +kernel
theorem dX10_paid_122 : decode cX10_paid 122 = .ok (.iinc 8 1, 3) := by decide +kernel
theorem dX10_paid_125 : decode cX10_paid 125 = .ok (.goto (-76), 3) := by decide +kernel
theorem dX10_paid_128 : decode cX10_paid 128 = .ok (.iinc 7 1, 3) := by decide +kernel
theorem dX10_paid_131 : decode cX10_paid 131 = .ok (.goto (-94), 3) := by decide +kernel
theorem dX10_paid_134 : decode cX10_paid 134 = .ok (.lload_n 3, 1) := by decide +kernel
theorem dX10_paid_135 : decode cX10_paid 135 = .ok (.aload_n 0, 1) := by decide +kernel
theorem dX10_paid_136 : decode cX10_paid 136 = .ok (.getfield 162, 3) := by decide +kernel
theorem dX10_paid_139 : decode cX10_paid 139 = .ok (.i2l, 1) := by decide +kernel
theorem dX10_paid_140 : decode cX10_paid 140 = .ok (.iload_n 1, 1) := by decide +kernel
theorem dX10_paid_141 : decode cX10_paid 141 = .ok (.i2l, 1) := by decide +kernel
theorem dX10_paid_142 : decode cX10_paid 142 = .ok (.lconst 1, 1) := by decide +kernel
theorem dX10_paid_143 : decode cX10_paid 143 = .ok (.ladd, 1) := by decide +kernel
theorem dX10_paid_144 : decode cX10_paid 144 = .ok (.lmul, 1) := by decide +kernel
theorem dX10_paid_145 : decode cX10_paid 145 = .ok (.lmul, 1) := by decide +kernel
theorem dX10_paid_146 : decode cX10_paid 146 = .ok (.lstore_n 3, 1) := by decide +kernel
theorem dX10_paid_147 : decode cX10_paid 147 = .ok (.lload_n 3, 1) := by decide +kernel
theorem dX10_paid_148 : decode cX10_paid 148 = .ok (.lload 5, 2) := by decide +kernel
theorem dX10_paid_150 : decode cX10_paid 150 = .ok (.lcmp, 1) := by decide +kernel
theorem dX10_paid_151 : decode cX10_paid 151 = .ok (.ifCond .le 7, 3) := by decide +kernel
theorem dX10_paid_154 : decode cX10_paid 154 = .ok (.lconst 1, 1) := by decide +kernel
theorem dX10_paid_155 : decode cX10_paid 155 = .ok (.goto 10, 3) := by decide +kernel
theorem dX10_paid_158 : decode cX10_paid 158 = .ok (.lload_n 3, 1) := by decide +kernel
theorem dX10_paid_159 : decode cX10_paid 159 = .ok (.lload 5, 2) := by decide +kernel
theorem dX10_paid_161 : decode cX10_paid 161 = .ok (.iload_n 2, 1) := by decide +kernel
theorem dX10_paid_162 : decode cX10_paid 162 = .ok (.invokestatic 296, 3) := by decide +kernel
theorem dX10_paid_165 : decode cX10_paid 165 = .ok (.lreturn, 1) := by decide +kernel
theorem dX10_paint_0 : decode cX10_paint 0 = .ok (.iload_n 1, 1) := by decide +kernel
theorem dX10_paint_1 : decode cX10_paint 1 = .ok (.i2l, 1) := by decide +kernel
theorem dX10_paint_2 : decode cX10_paint 2 = .ok (.lconst 0, 1) := by decide +kernel
theorem dX10_paint_3 : decode cX10_paint 3 = .ok (.ldc2_w 181, 3) := by decide +kernel
theorem dX10_paint_6 : decode cX10_paint 6 = .ok (.invokestatic 98, 3) := by decide +kernel
theorem dX10_paint_9 : decode cX10_paint 9 = .ok (.ifCond .eq 19, 3) := by decide +kernel
theorem dX10_paint_12 : decode cX10_paint 12 = .ok (.iload_n 2, 1) := by decide +kernel
theorem dX10_paint_13 : decode cX10_paint 13 = .ok (.i2l, 1) := by decide +kernel
theorem dX10_paint_14 : decode cX10_paint 14 = .ok (.lconst 1, 1) := by decide +kernel
theorem dX10_paint_15 : decode cX10_paint 15 = .ok (.ldc2_w 251, 3) := by decide +kernel
theorem dX10_paint_18 : decode cX10_paint 18 = .ok (.invokestatic 98, 3) := by decide +kernel
theorem dX10_paint_21 : decode cX10_paint 21 = .ok (.ifCond .eq 7, 3) := by decide +kernel
theorem dX10_paint_24 : decode cX10_paint 24 = .ok (.iload_n 3, 1) := by decide +kernel
theorem dX10_paint_25 : decode cX10_paint 25 = .ok (.ifCond .ge 6, 3) := by decide +kernel
theorem dX10_paint_28 : decode cX10_paint 28 = .ok (.bipush (-102), 2) := by decide +kernel
theorem dX10_paint_30 : decode cX10_paint 30 = .ok (.ireturn, 1) := by decide +kernel
theorem dX10_paint_31 : decode cX10_paint 31 = .ok (.aload_n 0, 1) := by decide +kernel
theorem dX10_paint_32 : decode cX10_paint 32 = .ok (.iload_n 3, 1) := by decide +kernel
theorem dX10_paint_33 : decode cX10_paint 33 = .ok (.putfield 243, 3) := by decide +kernel
theorem dX10_paint_36 : decode cX10_paint 36 = .ok (.iconst 0, 1) := by decide +kernel
theorem dX10_paint_37 : decode cX10_paint 37 = .ok (.istore 4, 2) := by decide +kernel
theorem dX10_paint_39 : decode cX10_paint 39 = .ok (.iload 4, 2) := by decide +kernel
theorem dX10_paint_41 : decode cX10_paint 41 = .ok (.iload_n 2, 1) := by decide +kernel
theorem dX10_paint_42 : decode cX10_paint 42 = .ok (.if_icmp .ge 148, 3) := by decide +kernel
theorem dX10_paint_45 : decode cX10_paint 45 = .ok (.aload_n 0, 1) := by decide +kernel
theorem dX10_paint_46 : decode cX10_paint 46 = .ok (.getfield 178, 3) := by decide +kernel
theorem dX10_paint_49 : decode cX10_paint 49 = .ok (.bipush 16, 2) := by decide +kernel
theorem dX10_paint_51 : decode cX10_paint 51 = .ok (.if_icmp .ge 139, 3) := by decide +kernel
theorem dX10_paint_54 : decode cX10_paint 54 = .ok (.aload_n 0, 1) := by decide +kernel
theorem dX10_paint_55 : decode cX10_paint 55 = .ok (.sipush 401, 3) := by decide +kernel
theorem dX10_paint_58 : decode cX10_paint 58 = .ok (.invokevirtual 253, 3) := by decide +kernel
theorem dX10_paint_61 : decode cX10_paint 61 = .ok (.istore 5, 2) := by decide +kernel
theorem dX10_paint_63 : decode cX10_paint 63 = .ok (.aload_n 0, 1) := by decide +kernel
theorem dX10_paint_64 : decode cX10_paint 64 = .ok (.iconst 4, 1) := by decide +kernel
theorem dX10_paint_65 : decode cX10_paint 65 = .ok (.invokevirtual 253, 3) := by decide +kernel
theorem dX10_paint_68 : decode cX10_paint 68 = .ok (.istore 6, 2) := by decide +kernel
theorem dX10_paint_70 : decode cX10_paint 70 = .ok (.aload_n 0, 1) := by decide +kernel
theorem dX10_paint_71 : decode cX10_paint 71 = .ok (.iconst 0, 1) := by decide +kernel
theorem dX10_paint_72 : decode cX10_paint 72 = .ok (.iload 5, 2) := by decide +kernel
theorem dX10_paint_74 : decode cX10_paint 74 = .ok (.iconst 3, 1) := by decide +kernel
theorem dX10_paint_75 : decode cX10_paint 75 = .ok (.invokevirtual 224, 3) := by decide +kernel
theorem dX10_paint_78 : decode cX10_paint 78 = .ok (.ifCond .eq 8, 3) := by decide +kernel
theorem dX10_paint_81 : decode cX10_paint 81 = .ok (.bipush 15, 2) := by decide +kernel
theorem dX10_paint_83 : decode cX10_paint 83 = .ok (.goto 4, 3) := by decide +kernel
theorem dX10_paint_86 : decode cX10_paint 86 = .ok (.iconst 0, 1) := by decide +kernel
theorem dX10_paint_87 : decode cX10_paint 87 = .ok (.istore 7, 2) := by decide +kernel
theorem dX10_paint_89 : decode cX10_paint 89 = .ok (.aload_n 0, 1) := by decide +kernel
theorem dX10_paint_90 : decode cX10_paint 90 = .ok (.iconst 0, 1) := by decide +kernel
theorem dX10_paint_91 : decode cX10_paint 91 = .ok (.iload_n 1, 1) := by decide +kernel
theorem dX10_paint_92 : decode cX10_paint 92 = .ok (.iload 5, 2) := by decide +kernel
theorem dX10_paint_94 : decode cX10_paint 94 = .ok (.iload 6, 2) := by decide +kernel
theorem dX10_paint_96 : decode cX10_paint 96 = .ok (.iconst (-1), 1) := by decide +kernel
theorem dX10_paint_97 : decode cX10_paint 97 = .ok (.iconst (-1), 1) := by decide +kernel
theorem dX10_paint_98 : decode cX10_paint 98 = .ok (.invokevirtual 187, 3) := by decide +kernel
theorem dX10_paint_101 : decode cX10_paint 101 = .ok (.iconst 0, 1) := by decide +kernel
theorem dX10_paint_102 : decode cX10_paint 102 = .ok (.istore 8, 2) := by decide +kernel
theorem dX10_paint_104 : decode cX10_paint 104 = .ok (.iload 8, 2) := by decide +kernel
theorem dX10_paint_106 : decode cX10_paint 106 = .ok (.iconst 4, 1) := by decide +kernel
theorem dX10_paint_107 : decode cX10_paint 107 = .ok (.if_icmp .ge 77, 3) := by decide +kernel
theorem dX10_paint_110 : decode cX10_paint 110 = .ok (.bipush 12, 2) := by decide +kernel
theorem dX10_paint_112 : decode cX10_paint 112 = .ok (.aload_n 0, 1) := by decide +kernel
theorem dX10_paint_113 : decode cX10_paint 113 = .ok (.getfield 178, 3) := by decide +kernel
theorem dX10_paint_116 : decode cX10_paint 116 = .ok (.iconst 1, 1) := by decide +kernel
theorem dX10_paint_117 : decode cX10_paint 117 = .ok (.isub, 1) := by decide +kernel
theorem dX10_paint_118 : decode cX10_paint 118 = .ok (.imul, 1) := by decide +kernel
theorem dX10_paint_119 : decode cX10_paint 119 = .ok (.iconst 3, 1) := by decide +kernel
theorem dX10_paint_120 : decode cX10_paint 120 = .ok (.iload 8, 2) := by decide +kernel
theorem dX10_paint_122 : decode cX10_paint 122 = .ok (.imul, 1) := by decide +kernel
theorem dX10_paint_123 : decode cX10_paint 123 = .ok (.iadd, 1) := by decide +kernel
theorem dX10_paint_124 : decode cX10_paint 124 = .ok (.istore 9, 2) := by decide +kernel
theorem dX10_paint_126 : decode cX10_paint 126 = .ok (.aload_n 0, 1) := by decide +kernel
theorem dX10_paint_127 : decode cX10_paint 127 = .ok (.getfield 40, 3) := by decide +kernel
theorem dX10_paint_130 : decode cX10_paint 130 = .ok (.iload 9, 2) := by decide +kernel
theorem dX10_paint_132 : decode cX10_paint 132 = .ok (.bipush 20, 2) := by decide +kernel
theorem dX10_paint_134 : decode cX10_paint 134 = .ok (.aload_n 0, 1) := by decide +kernel
theorem dX10_paint_135 : decode cX10_paint 135 = .ok (.bipush 40, 2) := by decide +kernel
theorem dX10_paint_137 : decode cX10_paint 137 = .ok (.invokevirtual 253, 3) := by decide +kernel
theorem dX10_paint_140 : decode cX10_paint 140 = .ok (.iadd, 1) := by decide +kernel
theorem dX10_paint_141 : decode cX10_paint 141 = .ok (.iload 7, 2) := by decide +kernel
theorem dX10_paint_143 : decode cX10_paint 143 = .ok (.iadd, 1) := by decide +kernel
theorem dX10_paint_144 : decode cX10_paint 144 = .ok (.iastore, 1) := by decide +kernel
theorem dX10_paint_145 : decode cX10_paint 145 = .ok (.aload_n 0, 1) := by decide +kernel
theorem dX10_paint_146 : decode cX10_paint 146 = .ok (.getfield 40, 3) := by decide +kernel
theorem dX10_paint_149 : decode cX10_paint 149 = .ok (.iload 9, 2) := by decide +kernel
theorem dX10_paint_151 : decode cX10_paint 151 = .ok (.iconst 1, 1) := by decide +kernel
theorem dX10_paint_152 : decode cX10_paint 152 = .ok (.iadd, 1) := by decide +kernel
theorem dX10_paint_153 : decode cX10_paint 153 = .ok (.bipush 20, 2) := by decide +kernel
theorem dX10_paint_155 : decode cX10_paint 155 = .ok (.aload_n 0, 1) := by decide +kernel
theorem dX10_paint_156 : decode cX10_paint 156 = .ok (.bipush 40, 2) := by decide +kernel
theorem dX10_paint_158 : decode cX10_paint 158 = .ok (.invokevirtual 253, 3) := by decide +kernel
theorem dX10_paint_161 : decode cX10_paint 161 = .ok (.iadd, 1) := by decide +kernel
theorem dX10_paint_162 : decode cX10_paint 162 = .ok (.iastore, 1) := by decide +kernel
theorem dX10_paint_163 : decode cX10_paint 163 = .ok (.aload_n 0, 1) := by decide +kernel
theorem dX10_paint_164 : decode cX10_paint 164 = .ok (.getfield 40, 3) := by decide +kernel
theorem dX10_paint_167 : decode cX10_paint 167 = .ok (.iload 9, 2) := by decide +kernel
theorem dX10_paint_169 : decode cX10_paint 169 = .ok (.iconst 2, 1) := by decide +kernel
theorem dX10_paint_170 : decode cX10_paint 170 = .ok (.iadd, 1) := by decide +kernel
theorem dX10_paint_171 : decode cX10_paint 171 = .ok (.aload_n 0, 1) := by decide +kernel
theorem dX10_paint_172 : decode cX10_paint 172 = .ok (.bipush 60, 2) := by decide +kernel
theorem dX10_paint_174 : decode cX10_paint 174 = .ok (.invokevirtual 253, 3) := by decide +kernel
theorem dX10_paint_177 : decode cX10_paint 177 = .ok (.iastore, 1) := by decide +kernel
theorem dX10_paint_178 : decode cX10_paint 178 = .ok (.iinc 8 1, 3) := by decide +kernel
theorem dX10_paint_181 : decode cX10_paint 181 = .ok (.goto (-77), 3) := by decide +kernel
theorem dX10_paint_184 : decode cX10_paint 184 = .ok (.iinc 4 1, 3) := by decide +kernel
theorem dX10_paint_187 : decode cX10_paint 187 = .ok (.goto (-148), 3) := by decide +kernel
theorem dX10_paint_190 : decode cX10_paint 190 = .ok (.aload_n 0, 1) := by decide +kernel
theorem dX10_paint_191 : decode cX10_paint 191 = .ok (.getfield 178, 3) := by decide +kernel
theorem dX10_paint_194 : decode cX10_paint 194 = .ok (.ireturn, 1) := by decide +kernel
theorem dX10_picture_0 : decode cX10_picture 0 = .ok (.iload_n 1, 1) := by decide +kernel
theorem dX10_picture_1 : decode cX10_picture 1 = .ok (.i2l, 1) := by decide +kernel
theorem dX10_picture_2 : decode cX10_picture 2 = .ok (.lconst 0, 1) := by decide +kernel
theorem dX10_picture_3 : decode cX10_picture 3 = .ok (.ldc2_w 181, 3) := by decide +kernel
theorem dX10_picture_6 : decode cX10_picture 6 = .ok (.invokestatic 98, 3) := by decide +kernel
theorem dX10_picture_9 : decode cX10_picture 9 = .ok (.ifCond .eq 40, 3) := by decide +kernel
theorem dX10_picture_12 : decode cX10_picture 12 = .ok (.iload_n 2, 1) := by decide +kernel
theorem dX10_picture_13 : decode cX10_picture 13 = .ok (.i2l, 1) := by decide +kernel
theorem dX10_picture_14 : decode cX10_picture 14 = .ok (.lconst 0, 1) := by decide +kernel
theorem dX10_picture_15 : decode cX10_picture 15 = .ok (.ldc2_w 181, 3) := by decide +kernel
theorem dX10_picture_18 : decode cX10_picture 18 = .ok (.invokestatic 98, 3) := by decide +kernel
theorem dX10_picture_21 : decode cX10_picture 21 = .ok (.ifCond .eq 28, 3) := by decide +kernel
theorem dX10_picture_24 : decode cX10_picture 24 = .ok (.iload_n 3, 1) := by decide +kernel
theorem dX10_picture_25 : decode cX10_picture 25 = .ok (.i2l, 1) := by decide +kernel
theorem dX10_picture_26 : decode cX10_picture 26 = .ok (.lconst 0, 1) := by decide +kernel
theorem dX10_picture_27 : decode cX10_picture 27 = .ok (.ldc2_w 171, 3) := by decide +kernel
theorem dX10_picture_30 : decode cX10_picture 30 = .ok (.invokestatic 98, 3) := by decide +kernel
theorem dX10_picture_33 : decode cX10_picture 33 = .ok (.ifCond .eq 16, 3) := by decide +kernel
theorem dX10_picture_36 : decode cX10_picture 36 = .ok (.iload 4, 2) := by decide +kernel
theorem dX10_picture_38 : decode cX10_picture 38 = .ok (.i2l, 1) := by decide +kernel
theorem dX10_picture_39 : decode cX10_picture 39 = .ok (.lconst 0, 1) := by decide +kernel
theorem dX10_picture_40 : decode cX10_picture 40 = .ok (.ldc2_w 183, 3) := by decide +kernel
theorem dX10_picture_43 : decode cX10_picture 43 = .ok (.invokestatic 98, 3) := by decide +kernel
theorem dX10_picture_46 : decode cX10_picture 46 = .ok (.ifCond .ne 6, 3) := by decide +kernel
theorem dX10_picture_49 : decode cX10_picture 49 = .ok (.bipush (-102), 2) := by decide +kernel
theorem dX10_picture_51 : decode cX10_picture 51 = .ok (.ireturn, 1) := by decide +kernel
theorem dX10_picture_52 : decode cX10_picture 52 = .ok (.iload 5, 2) := by decide +kernel
theorem dX10_picture_54 : decode cX10_picture 54 = .ok (.i2l, 1) := by decide +kernel
theorem dX10_picture_55 : decode cX10_picture 55 = .ok (.ldc2_w 185, 3) := by decide +kernel
theorem dX10_picture_58 : decode cX10_picture 58 = .ok (.aload_n 0, 1) := by decide +kernel
theorem dX10_picture_59 : decode cX10_picture 59 = .ok (.getfield 159, 3) := by decide +kernel
theorem dX10_picture_62 : decode cX10_picture 62 = .ok (.iconst 1, 1) := by decide +kernel
theorem dX10_picture_63 : decode cX10_picture 63 = .ok (.isub, 1) := by decide +kernel
theorem dX10_picture_64 : decode cX10_picture 64 = .ok (.i2l, 1) := by decide +kernel
theorem dX10_picture_65 : decode cX10_picture 65 = .ok (.invokestatic 98, 3) := by decide +kernel
theorem dX10_picture_68 : decode cX10_picture 68 = .ok (.ifCond .eq 22, 3) := by decide +kernel
theorem dX10_picture_71 : decode cX10_picture 71 = .ok (.iload 6, 2) := by decide +kernel
theorem dX10_picture_73 : decode cX10_picture 73 = .ok (.i2l, 1) := by decide +kernel
theorem dX10_picture_74 : decode cX10_picture 74 = .ok (.ldc2_w 185, 3) := by decide +kernel
theorem dX10_picture_77 : decode cX10_picture 77 = .ok (.aload_n 0, 1) := by decide +kernel
theorem dX10_picture_78 : decode cX10_picture 78 = .ok (.getfield 175, 3) := by decide +kernel
theorem dX10_picture_81 : decode cX10_picture 81 = .ok (.iconst 1, 1) := by decide +kernel
theorem dX10_picture_82 : decode cX10_picture 82 = .ok (.isub, 1) := by decide +kernel
theorem dX10_picture_83 : decode cX10_picture 83 = .ok (.i2l, 1) := by decide +kernel
theorem dX10_picture_84 : decode cX10_picture 84 = .ok (.invokestatic 98, 3) := by decide +kernel
theorem dX10_picture_87 : decode cX10_picture 87 = .ok (.ifCond .ne 6, 3) := by decide +kernel
theorem dX10_picture_90 : decode cX10_picture 90 = .ok (.bipush (-101), 2) := by decide +kernel
theorem dX10_picture_92 : decode cX10_picture 92 = .ok (.ireturn, 1) := by decide +kernel
theorem dX10_picture_93 : decode cX10_picture 93 = .ok (.aload_n 0, 1) := by decide +kernel
theorem dX10_picture_94 : decode cX10_picture 94 = .ok (.getfield 178, 3) := by decide +kernel
theorem dX10_picture_97 : decode cX10_picture 97 = .ok (.bipush 16, 2) := by decide +kernel
theorem dX10_picture_99 : decode cX10_picture 99 = .ok (.if_icmp .ne 6, 3) := by decide +kernel
theorem dX10_picture_102 : decode cX10_picture 102 = .ok (.bipush (-104), 2) := by decide +kernel
theorem dX10_picture_104 : decode cX10_picture 104 = .ok (.ireturn, 1) := by decide +kernel
theorem dX10_picture_105 : decode cX10_picture 105 = .ok (.aload_n 0, 1) := by decide +kernel
theorem dX10_picture_106 : decode cX10_picture 106 = .ok (.iload_n 1, 1) := by decide +kernel
theorem dX10_picture_107 : decode cX10_picture 107 = .ok (.iload_n 2, 1) := by decide +kernel
theorem dX10_picture_108 : decode cX10_picture 108 = .ok (.iload_n 3, 1) := by decide +kernel
theorem dX10_picture_109 : decode cX10_picture 109 = .ok (.iload 4, 2) := by decide +kernel
theorem dX10_picture_111 : decode cX10_picture 111 = .ok (.iload 5, 2) := by decide +kernel
theorem dX10_picture_113 : decode cX10_picture 113 = .ok (.iload 6, 2) := by decide +kernel
theorem dX10_picture_115 : decode cX10_picture 115 = .ok (.invokevirtual 187, 3) := by decide +kernel
theorem dX10_picture_118 : decode cX10_picture 118 = .ok (.aload_n 0, 1) := by decide +kernel
theorem dX10_picture_119 : decode cX10_picture 119 = .ok (.getfield 178, 3) := by decide +kernel
theorem dX10_picture_122 : decode cX10_picture 122 = .ok (.iconst 1, 1) := by decide +kernel
theorem dX10_picture_123 : decode cX10_picture 123 = .ok (.isub, 1) := by decide +kernel
theorem dX10_picture_124 : decode cX10_picture 124 = .ok (.ireturn, 1) := by decide +kernel
theorem dX10_pigment_0 : decode cX10_pigment 0 = .ok (.iload_n 1, 1) := by decide +kernel
theorem dX10_pigment_1 : decode cX10_pigment 1 = .ok (.i2l, 1) := by decide +kernel
theorem dX10_pigment_2 : decode cX10_pigment 2 = .ok (.lconst 0, 1) := by decide +kernel
theorem dX10_pigment_3 : decode cX10_pigment 3 = .ok (.ldc2_w 171, 3) := by decide +kernel
theorem dX10_pigment_6 : decode cX10_pigment 6 = .ok (.invokestatic 98, 3) := by decide +kernel
theorem dX10_pigment_9 : decode cX10_pigment 9 = .ok (.ifCond .eq 15, 3) := by decide +kernel
theorem dX10_pigment_12 : decode cX10_pigment 12 = .ok (.iload_n 2, 1) := by decide +kernel
theorem dX10_pigment_13 : decode cX10_pigment 13 = .ok (.i2l, 1) := by decide +kernel
theorem dX10_pigment_14 : decode cX10_pigment 14 = .ok (.lconst 0, 1) := by decide +kernel
theorem dX10_pigment_15 : decode cX10_pigment 15 = .ok (.ldc2_w 173, 3) := by decide +kernel
theorem dX10_pigment_18 : decode cX10_pigment 18 = .ok (.invokestatic 98, 3) := by decide +kernel
theorem dX10_pigment_21 : decode cX10_pigment 21 = .ok (.ifCond .ne 6, 3) := by decide +kernel
theorem dX10_pigment_24 : decode cX10_pigment 24 = .ok (.bipush (-102), 2) := by decide +kernel
theorem dX10_pigment_26 : decode cX10_pigment 26 = .ok (.ireturn, 1) := by decide +kernel
theorem dX10_pigment_27 : decode cX10_pigment 27 = .ok (.aload_n 0, 1) := by decide +kernel
theorem dX10_pigment_28 : decode cX10_pigment 28 = .ok (.getfield 175, 3) := by decide +kernel
theorem dX10_pigment_31 : decode cX10_pigment 31 = .ok (.iconst 4, 1) := by decide +kernel
theorem dX10_pigment_32 : decode cX10_pigment 32 = .ok (.if_icmp .ne 6, 3) := by decide +kernel
theorem dX10_pigment_35 : decode cX10_pigment 35 = .ok (.bipush (-104), 2) := by decide +kernel
theorem dX10_pigment_37 : decode cX10_pigment 37 = .ok (.ireturn, 1) := by decide +kernel
theorem dX10_pigment_38 : decode cX10_pigment 38 = .ok (.aload_n 0, 1) := by decide +kernel
theorem dX10_pigment_39 : decode cX10_pigment 39 = .ok (.getfield 31, 3) := by decide +kernel
theorem dX10_pigment_42 : decode cX10_pigment 42 = .ok (.aload_n 0, 1) := by decide +kernel
theorem dX10_pigment_43 : decode cX10_pigment 43 = .ok (.getfield 175, 3) := by decide +kernel
theorem dX10_pigment_46 : decode cX10_pigment 46 = .ok (.iload_n 1, 1) := by decide +kernel
theorem dX10_pigment_47 : decode cX10_pigment 47 = .ok (.iastore, 1) := by decide +kernel
theorem dX10_pigment_48 : decode cX10_pigment 48 = .ok (.aload_n 0, 1) := by decide +kernel
theorem dX10_pigment_49 : decode cX10_pigment 49 = .ok (.getfield 34, 3) := by decide +kernel
theorem dX10_pigment_52 : decode cX10_pigment 52 = .ok (.aload_n 0, 1) := by decide +kernel
theorem dX10_pigment_53 : decode cX10_pigment 53 = .ok (.getfield 175, 3) := by decide +kernel
theorem dX10_pigment_56 : decode cX10_pigment 56 = .ok (.iload_n 2, 1) := by decide +kernel
theorem dX10_pigment_57 : decode cX10_pigment 57 = .ok (.iastore, 1) := by decide +kernel
theorem dX10_pigment_58 : decode cX10_pigment 58 = .ok (.aload_n 0, 1) := by decide +kernel
theorem dX10_pigment_59 : decode cX10_pigment 59 = .ok (.dup, 1) := by decide +kernel
theorem dX10_pigment_60 : decode cX10_pigment 60 = .ok (.getfield 175, 3) := by decide +kernel
theorem dX10_pigment_63 : decode cX10_pigment 63 = .ok (.iconst 1, 1) := by decide +kernel
theorem dX10_pigment_64 : decode cX10_pigment 64 = .ok (.iadd, 1) := by decide +kernel
theorem dX10_pigment_65 : decode cX10_pigment 65 = .ok (.putfield 175, 3) := by decide +kernel
theorem dX10_pigment_68 : decode cX10_pigment 68 = .ok (.aload_n 0, 1) := by decide +kernel
theorem dX10_pigment_69 : decode cX10_pigment 69 = .ok (.getfield 175, 3) := by decide +kernel
theorem dX10_pigment_72 : decode cX10_pigment 72 = .ok (.iconst 1, 1) := by decide +kernel
theorem dX10_pigment_73 : decode cX10_pigment 73 = .ok (.isub, 1) := by decide +kernel
theorem dX10_pigment_74 : decode cX10_pigment 74 = .ok (.ireturn, 1) := by decide +kernel
theorem dX10_reach_0 : decode cX10_reach 0 = .ok (.aload_n 0, 1) := by decide +kernel
theorem dX10_reach_1 : decode cX10_reach 1 = .ok (.getfield 117, 3) := by decide +kernel
theorem dX10_reach_4 : decode cX10_reach 4 = .ok (.iconst 1, 1) := by decide +kernel
theorem dX10_reach_5 : decode cX10_reach 5 = .ok (.if_icmp .ne 16, 3) := by decide +kernel
theorem dX10_reach_8 : decode cX10_reach 8 = .ok (.bipush 100, 2) := by decide +kernel
theorem dX10_reach_10 : decode cX10_reach 10 = .ok (.aload_n 0, 1) := by decide +kernel
theorem dX10_reach_11 : decode cX10_reach 11 = .ok (.getfield 114, 3) := by decide +kernel
theorem dX10_reach_14 : decode cX10_reach 14 = .ok (.imul, 1) := by decide +kernel
theorem dX10_reach_15 : decode cX10_reach 15 = .ok (.bipush 99, 2) := by decide +kernel
theorem dX10_reach_17 : decode cX10_reach 17 = .ok (.iadd, 1) := by decide +kernel
theorem dX10_reach_18 : decode cX10_reach 18 = .ok (.goto 28, 3) := by decide +kernel
theorem dX10_reach_21 : decode cX10_reach 21 = .ok (.aload_n 0, 1) := by decide +kernel
theorem dX10_reach_22 : decode cX10_reach 22 = .ok (.getfield 117, 3) := by decide +kernel
theorem dX10_reach_25 : decode cX10_reach 25 = .ok (.iconst 2, 1) := by decide +kernel
theorem dX10_reach_26 : decode cX10_reach 26 = .ok (.if_icmp .ne 16, 3) := by decide +kernel
theorem dX10_reach_29 : decode cX10_reach 29 = .ok (.bipush 10, 2) := by decide +kernel
theorem dX10_reach_31 : decode cX10_reach 31 = .ok (.aload_n 0, 1) := by decide +kernel
theorem dX10_reach_32 : decode cX10_reach 32 = .ok (.getfield 114, 3) := by decide +kernel
theorem dX10_reach_35 : decode cX10_reach 35 = .ok (.imul, 1) := by decide +kernel
theorem dX10_reach_36 : decode cX10_reach 36 = .ok (.bipush 9, 2) := by decide +kernel
theorem dX10_reach_38 : decode cX10_reach 38 = .ok (.iadd, 1) := by decide +kernel
theorem dX10_reach_39 : decode cX10_reach 39 = .ok (.goto 7, 3) := by decide +kernel
theorem dX10_reach_42 : decode cX10_reach 42 = .ok (.aload_n 0, 1) := by decide +kernel
theorem dX10_reach_43 : decode cX10_reach 43 = .ok (.getfield 114, 3) := by decide +kernel
theorem dX10_reach_46 : decode cX10_reach 46 = .ok (.ireturn, 1) := by decide +kernel
theorem dX10_restore_0 : decode cX10_restore 0 = .ok (.aload_n 0, 1) := by decide +kernel
theorem dX10_restore_1 : decode cX10_restore 1 = .ok (.getfield 90, 3) := by decide +kernel
theorem dX10_restore_4 : decode cX10_restore 4 = .ok (.iconst (-1), 1) := by decide +kernel
theorem dX10_restore_5 : decode cX10_restore 5 = .ok (.if_icmp .ne 6, 3) := by decide +kernel
theorem dX10_restore_8 : decode cX10_restore 8 = .ok (.bipush (-103), 2) := by decide +kernel
theorem dX10_restore_10 : decode cX10_restore 10 = .ok (.ireturn, 1) := by decide +kernel
theorem dX10_restore_11 : decode cX10_restore 11 = .ok (.iconst 0, 1) := by decide +kernel
theorem dX10_restore_12 : decode cX10_restore 12 = .ok (.istore_n 1, 1) := by decide +kernel
theorem dX10_restore_13 : decode cX10_restore 13 = .ok (.iload_n 1, 1) := by decide +kernel
theorem dX10_restore_14 : decode cX10_restore 14 = .ok (.bipush 96, 2) := by decide +kernel
theorem dX10_restore_16 : decode cX10_restore 16 = .ok (.if_icmp .ge 21, 3) := by decide +kernel
theorem dX10_restore_19 : decode cX10_restore 19 = .ok (.aload_n 0, 1) := by decide +kernel
theorem dX10_restore_20 : decode cX10_restore 20 = .ok (.getfield 37, 3) := by decide +kernel
theorem dX10_restore_23 : decode cX10_restore 23 = .ok (.iload_n 1, 1) := by decide +kernel
theorem dX10_restore_24 : decode cX10_restore 24 = .ok (.aload_n 0, 1) := by decide +kernel
theorem dX10_restore_25 : decode cX10_restore 25 = .ok (.getfield 75, 3) := by decide +kernel
theorem dX10_restore_28 : decode cX10_restore 28 = .ok (.iload_n 1, 1) := by decide +kernel
theorem dX10_restore_29 : decode cX10_restore 29 = .ok (.iaload, 1) := by decide +kernel
theorem dX10_restore_30 : decode cX10_restore 30 = .ok (.iastore, 1) := by decide +kernel
theorem dX10_restore_31 : decode cX10_restore 31 = .ok (.iinc 1 1, 3) := by decide +kernel
theorem dX10_restore_34 : decode cX10_restore 34 = .ok (.goto (-21), 3) := by decide +kernel
theorem dX10_restore_37 : decode cX10_restore 37 = .ok (.iconst 0, 1) := by decide +kernel
theorem dX10_restore_38 : decode cX10_restore 38 = .ok (.istore_n 1, 1) := by decide +kernel
theorem dX10_restore_39 : decode cX10_restore 39 = .ok (.iload_n 1, 1) := by decide +kernel
theorem dX10_restore_40 : decode cX10_restore 40 = .ok (.sipush 192, 3) := by decide +kernel
theorem dX10_restore_43 : decode cX10_restore 43 = .ok (.if_icmp .ge 21, 3) := by decide +kernel
theorem dX10_restore_46 : decode cX10_restore 46 = .ok (.aload_n 0, 1) := by decide +kernel
theorem dX10_restore_47 : decode cX10_restore 47 = .ok (.getfield 40, 3) := by decide +kernel
theorem dX10_restore_50 : decode cX10_restore 50 = .ok (.iload_n 1, 1) := by decide +kernel
theorem dX10_restore_51 : decode cX10_restore 51 = .ok (.aload_n 0, 1) := by decide +kernel
theorem dX10_restore_52 : decode cX10_restore 52 = .ok (.getfield 78, 3) := by decide +kernel
theorem dX10_restore_55 : decode cX10_restore 55 = .ok (.iload_n 1, 1) := by decide +kernel
theorem dX10_restore_56 : decode cX10_restore 56 = .ok (.iaload, 1) := by decide +kernel
theorem dX10_restore_57 : decode cX10_restore 57 = .ok (.iastore, 1) := by decide +kernel
theorem dX10_restore_58 : decode cX10_restore 58 = .ok (.iinc 1 1, 3) := by decide +kernel
theorem dX10_restore_61 : decode cX10_restore 61 = .ok (.goto (-22), 3) := by decide +kernel
theorem dX10_restore_64 : decode cX10_restore 64 = .ok (.iconst 0, 1) := by decide +kernel
theorem dX10_restore_65 : decode cX10_restore 65 = .ok (.istore_n 1, 1) := by decide +kernel
theorem dX10_restore_66 : decode cX10_restore 66 = .ok (.iload_n 1, 1) := by decide +kernel
theorem dX10_restore_67 : decode cX10_restore 67 = .ok (.bipush 6, 2) := by decide +kernel
theorem dX10_restore_69 : decode cX10_restore 69 = .ok (.if_icmp .ge 21, 3) := by decide +kernel
theorem dX10_restore_72 : decode cX10_restore 72 = .ok (.aload_n 0, 1) := by decide +kernel
theorem dX10_restore_73 : decode cX10_restore 73 = .ok (.getfield 43, 3) := by decide +kernel
theorem dX10_restore_76 : decode cX10_restore 76 = .ok (.iload_n 1, 1) := by decide +kernel
theorem dX10_restore_77 : decode cX10_restore 77 = .ok (.aload_n 0, 1) := by decide +kernel
theorem dX10_restore_78 : decode cX10_restore 78 = .ok (.getfield 81, 3) := by decide +kernel
theorem dX10_restore_81 : decode cX10_restore 81 = .ok (.iload_n 1, 1) := by decide +kernel
theorem dX10_restore_82 : decode cX10_restore 82 = .ok (.iaload, 1) := by decide +kernel
theorem dX10_restore_83 : decode cX10_restore 83 = .ok (.iastore, 1) := by decide +kernel
theorem dX10_restore_84 : decode cX10_restore 84 = .ok (.iinc 1 1, 3) := by decide +kernel
theorem dX10_restore_87 : decode cX10_restore 87 = .ok (.goto (-21), 3) := by decide +kernel
theorem dX10_restore_90 : decode cX10_restore 90 = .ok (.iconst 0, 1) := by decide +kernel
theorem dX10_restore_91 : decode cX10_restore 91 = .ok (.istore_n 1, 1) := by decide +kernel
theorem dX10_restore_92 : decode cX10_restore 92 = .ok (.iload_n 1, 1) := by decide +kernel
theorem dX10_restore_93 : decode cX10_restore 93 = .ok (.sipush 401, 3) := by decide +kernel
theorem dX10_restore_96 : decode cX10_restore 96 = .ok (.if_icmp .ge 33, 3) := by decide +kernel
theorem dX10_restore_99 : decode cX10_restore 99 = .ok (.aload_n 0, 1) := by decide +kernel
theorem dX10_restore_100 : decode cX10_restore 100 = .ok (.getfield 69, 3) := by decide +kernel
theorem dX10_restore_103 : decode cX10_restore 103 = .ok (.iload_n 1, 1) := by decide +kernel
theorem dX10_restore_104 : decode cX10_restore 104 = .ok (.aload_n 0, 1) := by decide +kernel
theorem dX10_restore_105 : decode cX10_restore 105 = .ok (.getfield 84, 3) := by decide +kernel
theorem dX10_restore_108 : decode cX10_restore 108 = .ok (.iload_n 1, 1) := by decide +kernel
theorem dX10_restore_109 : decode cX10_restore 109 = .ok (.iaload, 1) := by decide +kernel
theorem dX10_restore_110 : decode cX10_restore 110 = .ok (.iastore, 1) := by decide +kernel
theorem dX10_restore_111 : decode cX10_restore 111 = .ok (.aload_n 0, 1) := by decide +kernel
theorem dX10_restore_112 : decode cX10_restore 112 = .ok (.getfield 72, 3) := by decide +kernel
theorem dX10_restore_115 : decode cX10_restore 115 = .ok (.iload_n 1, 1) := by decide +kernel
theorem dX10_restore_116 : decode cX10_restore 116 = .ok (.aload_n 0, 1) := by decide +kernel
theorem dX10_restore_117 : decode cX10_restore 117 = .ok (.getfield 87, 3) := by decide +kernel
theorem dX10_restore_120 : decode cX10_restore 120 = .ok (.iload_n 1, 1) := by decide +kernel
theorem dX10_restore_121 : decode cX10_restore 121 = .ok (.iaload, 1) := by decide +kernel
theorem dX10_restore_122 : decode cX10_restore 122 = .ok (.iastore, 1) := by decide +kernel
theorem dX10_restore_123 : decode cX10_restore 123 = .ok (.iinc 1 1, 3) := by decide +kernel
theorem dX10_restore_126 : decode cX10_restore 126 = .ok (.goto (-34), 3) := by decide +kernel
theorem dX10_restore_129 : decode cX10_restore 129 = .ok (.aload_n 0, 1) := by decide +kernel
theorem dX10_restore_130 : decode cX10_restore 130 = .ok (.aload_n 0, 1) := by decide +kernel
theorem dX10_restore_131 : decode cX10_restore 131 = .ok (.getfield 337, 3) := by decide +kernel
theorem dX10_restore_134 : decode cX10_restore 134 = .ok (.putfield 221, 3) := by decide +kernel
theorem dX10_restore_137 : decode cX10_restore 137 = .ok (.aload_n 0, 1) := by decide +kernel
theorem dX10_restore_138 : decode cX10_restore 138 = .ok (.aload_n 0, 1) := by decide +kernel
theorem dX10_restore_139 : decode cX10_restore 139 = .ok (.getfield 340, 3) := by decide +kernel
theorem dX10_restore_142 : decode cX10_restore 142 = .ok (.putfield 306, 3) := by decide +kernel
theorem dX10_restore_145 : decode cX10_restore 145 = .ok (.aload_n 0, 1) := by decide +kernel
theorem dX10_restore_146 : decode cX10_restore 146 = .ok (.aload_n 0, 1) := by decide +kernel
theorem dX10_restore_147 : decode cX10_restore 147 = .ok (.getfield 90, 3) := by decide +kernel
theorem dX10_restore_150 : decode cX10_restore 150 = .ok (.putfield 178, 3) := by decide +kernel
theorem dX10_restore_153 : decode cX10_restore 153 = .ok (.aload_n 0, 1) := by decide +kernel
theorem dX10_restore_154 : decode cX10_restore 154 = .ok (.getfield 178, 3) := by decide +kernel
theorem dX10_restore_157 : decode cX10_restore 157 = .ok (.ireturn, 1) := by decide +kernel
theorem dX10_rightOf_0 : decode cX10_rightOf 0 = .ok (.aload_n 0, 1) := by decide +kernel
theorem dX10_rightOf_1 : decode cX10_rightOf 1 = .ok (.getfield 37, 3) := by decide +kernel
theorem dX10_rightOf_4 : decode cX10_rightOf 4 = .ok (.bipush 6, 2) := by decide +kernel
theorem dX10_rightOf_6 : decode cX10_rightOf 6 = .ok (.iload_n 1, 1) := by decide +kernel
theorem dX10_rightOf_7 : decode cX10_rightOf 7 = .ok (.imul, 1) := by decide +kernel
theorem dX10_rightOf_8 : decode cX10_rightOf 8 = .ok (.iconst 4, 1) := by decide +kernel
theorem dX10_rightOf_9 : decode cX10_rightOf 9 = .ok (.iadd, 1) := by decide +kernel
theorem dX10_rightOf_10 : decode cX10_rightOf 10 = .ok (.iaload, 1) := by decide +kernel
theorem dX10_rightOf_11 : decode cX10_rightOf 11 = .ok (.istore_n 3, 1) := by decide +kernel
theorem dX10_rightOf_12 : decode cX10_rightOf 12 = .ok (.aload_n 0, 1) := by decide +kernel
theorem dX10_rightOf_13 : decode cX10_rightOf 13 = .ok (.getfield 37, 3) := by decide +kernel
theorem dX10_rightOf_16 : decode cX10_rightOf 16 = .ok (.bipush 6, 2) := by decide +kernel
theorem dX10_rightOf_18 : decode cX10_rightOf 18 = .ok (.iload_n 1, 1) := by decide +kernel
theorem dX10_rightOf_19 : decode cX10_rightOf 19 = .ok (.imul, 1) := by decide +kernel
theorem dX10_rightOf_20 : decode cX10_rightOf 20 = .ok (.iconst 5, 1) := by decide +kernel
theorem dX10_rightOf_21 : decode cX10_rightOf 21 = .ok (.iadd, 1) := by decide +kernel
theorem dX10_rightOf_22 : decode cX10_rightOf 22 = .ok (.iaload, 1) := by decide +kernel
theorem dX10_rightOf_23 : decode cX10_rightOf 23 = .ok (.istore 4, 2) := by decide +kernel
theorem dX10_rightOf_25 : decode cX10_rightOf 25 = .ok (.aload_n 0, 1) := by decide +kernel
theorem dX10_rightOf_26 : decode cX10_rightOf 26 = .ok (.getfield 40, 3) := by decide +kernel
theorem dX10_rightOf_29 : decode cX10_rightOf 29 = .ok (.bipush 12, 2) := by decide +kernel
theorem dX10_rightOf_31 : decode cX10_rightOf 31 = .ok (.iload_n 1, 1) := by decide +kernel
theorem dX10_rightOf_32 : decode cX10_rightOf 32 = .ok (.imul, 1) := by decide +kernel
theorem dX10_rightOf_33 : decode cX10_rightOf 33 = .ok (.iload_n 2, 1) := by decide +kernel
theorem dX10_rightOf_34 : decode cX10_rightOf 34 = .ok (.iadd, 1) := by decide +kernel
theorem dX10_rightOf_35 : decode cX10_rightOf 35 = .ok (.iaload, 1) := by decide +kernel
theorem dX10_rightOf_36 : decode cX10_rightOf 36 = .ok (.istore 5, 2) := by decide +kernel
theorem dX10_rightOf_38 : decode cX10_rightOf 38 = .ok (.iload_n 3, 1) := by decide +kernel
theorem dX10_rightOf_39 : decode cX10_rightOf 39 = .ok (.iconst (-1), 1) := by decide +kernel
theorem dX10_rightOf_40 : decode cX10_rightOf 40 = .ok (.if_icmp .ne 8, 3) := by decide +kernel
theorem dX10_rightOf_43 : decode cX10_rightOf 43 = .ok (.iload 5, 2) := by decide +kernel
theorem dX10_rightOf_45 : decode cX10_rightOf 45 = .ok (.goto 18, 3) := by decide +kernel
theorem dX10_rightOf_48 : decode cX10_rightOf 48 = .ok (.iload 5, 2) := by decide +kernel
theorem dX10_rightOf_50 : decode cX10_rightOf 50 = .ok (.aload_n 0, 1) := by decide +kernel
theorem dX10_rightOf_51 : decode cX10_rightOf 51 = .ok (.getfield 22, 3) := by decide +kernel
theorem dX10_rightOf_54 : decode cX10_rightOf 54 = .ok (.iconst 3, 1) := by decide +kernel
theorem dX10_rightOf_55 : decode cX10_rightOf 55 = .ok (.iload_n 3, 1) := by decide +kernel
theorem dX10_rightOf_56 : decode cX10_rightOf 56 = .ok (.imul, 1) := by decide +kernel
theorem dX10_rightOf_57 : decode cX10_rightOf 57 = .ok (.iload_n 2, 1) := by decide +kernel
theorem dX10_rightOf_58 : decode cX10_rightOf 58 = .ok (.iconst 3, 1) := by decide +kernel
theorem dX10_rightOf_59 : decode cX10_rightOf 59 = .ok (.irem, 1) := by decide +kernel
theorem dX10_rightOf_60 : decode cX10_rightOf 60 = .ok (.iadd, 1) := by decide +kernel
theorem dX10_rightOf_61 : decode cX10_rightOf 61 = .ok (.iaload, 1) := by decide +kernel
theorem dX10_rightOf_62 : decode cX10_rightOf 62 = .ok (.isub, 1) := by decide +kernel
theorem dX10_rightOf_63 : decode cX10_rightOf 63 = .ok (.invokestatic 198, 3) := by decide +kernel
theorem dX10_rightOf_66 : decode cX10_rightOf 66 = .ok (.istore 5, 2) := by decide +kernel
theorem dX10_rightOf_68 : decode cX10_rightOf 68 = .ok (.iload_n 2, 1) := by decide +kernel
theorem dX10_rightOf_69 : decode cX10_rightOf 69 = .ok (.iconst 3, 1) := by decide +kernel
theorem dX10_rightOf_70 : decode cX10_rightOf 70 = .ok (.irem, 1) := by decide +kernel
theorem dX10_rightOf_71 : decode cX10_rightOf 71 = .ok (.ifCond .gt 9, 3) := by decide +kernel
theorem dX10_rightOf_74 : decode cX10_rightOf 74 = .ok (.iload 4, 2) := by decide +kernel
theorem dX10_rightOf_76 : decode cX10_rightOf 76 = .ok (.iconst (-1), 1) := by decide +kernel
theorem dX10_rightOf_77 : decode cX10_rightOf 77 = .ok (.if_icmp .ne 8, 3) := by decide +kernel
theorem dX10_rightOf_80 : decode cX10_rightOf 80 = .ok (.iload 5, 2) := by decide +kernel
theorem dX10_rightOf_82 : decode cX10_rightOf 82 = .ok (.goto 35, 3) := by decide +kernel
theorem dX10_rightOf_85 : decode cX10_rightOf 85 = .ok (.iload 5, 2) := by decide +kernel
theorem dX10_rightOf_87 : decode cX10_rightOf 87 = .ok (.aload_n 0, 1) := by decide +kernel
theorem dX10_rightOf_88 : decode cX10_rightOf 88 = .ok (.getfield 34, 3) := by decide +kernel
theorem dX10_rightOf_91 : decode cX10_rightOf 91 = .ok (.iload 4, 2) := by decide +kernel
theorem dX10_rightOf_93 : decode cX10_rightOf 93 = .ok (.iaload, 1) := by decide +kernel
theorem dX10_rightOf_94 : decode cX10_rightOf 94 = .ok (.sipush 500, 3) := by decide +kernel
theorem dX10_rightOf_97 : decode cX10_rightOf 97 = .ok (.aload_n 0, 1) := by decide +kernel
theorem dX10_rightOf_98 : decode cX10_rightOf 98 = .ok (.getfield 37, 3) := by decide +kernel
theorem dX10_rightOf_101 : decode cX10_rightOf 101 = .ok (.bipush 6, 2) := by decide +kernel
theorem dX10_rightOf_103 : decode cX10_rightOf 103 = .ok (.iload_n 1, 1) := by decide +kernel
theorem dX10_rightOf_104 : decode cX10_rightOf 104 = .ok (.imul, 1) := by decide +kernel
theorem dX10_rightOf_105 : decode cX10_rightOf 105 = .ok (.iconst 2, 1) := by decide +kernel
theorem dX10_rightOf_106 : decode cX10_rightOf 106 = .ok (.iadd, 1) := by decide +kernel
theorem dX10_rightOf_107 : decode cX10_rightOf 107 = .ok (.iaload, 1) := by decide +kernel
theorem dX10_rightOf_108 : decode cX10_rightOf 108 = .ok (.isub, 1) := by decide +kernel
theorem dX10_rightOf_109 : decode cX10_rightOf 109 = .ok (.bipush 50, 2) := by decide +kernel
theorem dX10_rightOf_111 : decode cX10_rightOf 111 = .ok (.idiv, 1) := by decide +kernel
theorem dX10_rightOf_112 : decode cX10_rightOf 112 = .ok (.imul, 1) := by decide +kernel
theorem dX10_rightOf_113 : decode cX10_rightOf 113 = .ok (.iadd, 1) := by decide +kernel
theorem dX10_rightOf_114 : decode cX10_rightOf 114 = .ok (.invokestatic 198, 3) := by decide +kernel
theorem dX10_rightOf_117 : decode cX10_rightOf 117 = .ok (.ireturn, 1) := by decide +kernel
theorem dX10_say_0 : decode cX10_say 0 = .ok (.aload_n 0, 1) := by decide +kernel
theorem dX10_say_1 : decode cX10_say 1 = .ok (.ldc2_w 346, 3) := by decide +kernel
theorem dX10_say_4 : decode cX10_say 4 = .ok (.aload_n 0, 1) := by decide +kernel
theorem dX10_say_5 : decode cX10_say 5 = .ok (.getfield 348, 3) := by decide +kernel
theorem dX10_say_8 : decode cX10_say 8 = .ok (.lmul, 1) := by decide +kernel
theorem dX10_say_9 : decode cX10_say 9 = .ok (.lload_n 1, 1) := by decide +kernel
theorem dX10_say_10 : decode cX10_say 10 = .ok (.ladd, 1) := by decide +kernel
theorem dX10_say_11 : decode cX10_say 11 = .ok (.putfield 348, 3) := by decide +kernel
theorem dX10_say_14 : decode cX10_say 14 = .ok (.return_, 1) := by decide +kernel
theorem dX10_sayMeasure_0 : decode cX10_sayMeasure 0 = .ok (.aload_n 0, 1) := by decide +kernel
theorem dX10_sayMeasure_1 : decode cX10_sayMeasure 1 = .ok (.iload_n 1, 1) := by decide +kernel
theorem dX10_sayMeasure_2 : decode cX10_sayMeasure 2 = .ok (.iconst 2, 1) := by decide +kernel
theorem dX10_sayMeasure_3 : decode cX10_sayMeasure 3 = .ok (.iconst (-1), 1) := by decide +kernel
theorem dX10_sayMeasure_4 : decode cX10_sayMeasure 4 = .ok (.invokevirtual 262, 3) := by decide +kernel
theorem dX10_sayMeasure_7 : decode cX10_sayMeasure 7 = .ok (.aload_n 0, 1) := by decide +kernel
theorem dX10_sayMeasure_8 : decode cX10_sayMeasure 8 = .ok (.aload_n 0, 1) := by decide +kernel
theorem dX10_sayMeasure_9 : decode cX10_sayMeasure 9 = .ok (.invokevirtual 266, 3) := by decide +kernel
theorem dX10_sayMeasure_12 : decode cX10_sayMeasure 12 = .ok (.i2l, 1) := by decide +kernel
theorem dX10_sayMeasure_13 : decode cX10_sayMeasure 13 = .ok (.invokevirtual 351, 3) := by decide +kernel
theorem dX10_sayMeasure_16 : decode cX10_sayMeasure 16 = .ok (.aload_n 0, 1) := by decide +kernel
theorem dX10_sayMeasure_17 : decode cX10_sayMeasure 17 = .ok (.invokevirtual 293, 3) := by decide +kernel
theorem dX10_sayMeasure_20 : decode cX10_sayMeasure 20 = .ok (.aload_n 0, 1) := by decide +kernel
theorem dX10_sayMeasure_21 : decode cX10_sayMeasure 21 = .ok (.aload_n 0, 1) := by decide +kernel
theorem dX10_sayMeasure_22 : decode cX10_sayMeasure 22 = .ok (.getfield 275, 3) := by decide +kernel
theorem dX10_sayMeasure_25 : decode cX10_sayMeasure 25 = .ok (.aload_n 0, 1) := by decide +kernel
theorem dX10_sayMeasure_26 : decode cX10_sayMeasure 26 = .ok (.getfield 279, 3) := by decide +kernel
theorem dX10_sayMeasure_29 : decode cX10_sayMeasure 29 = .ok (.iconst 0, 1) := by decide +kernel
theorem dX10_sayMeasure_30 : decode cX10_sayMeasure 30 = .ok (.invokestatic 296, 3) := by decide +kernel
theorem dX10_sayMeasure_33 : decode cX10_sayMeasure 33 = .ok (.invokevirtual 351, 3) := by decide +kernel
theorem dX10_sayMeasure_36 : decode cX10_sayMeasure 36 = .ok (.aload_n 0, 1) := by decide +kernel
theorem dX10_sayMeasure_37 : decode cX10_sayMeasure 37 = .ok (.aload_n 0, 1) := by decide +kernel
theorem dX10_sayMeasure_38 : decode cX10_sayMeasure 38 = .ok (.getfield 275, 3) := by decide +kernel
theorem dX10_sayMeasure_41 : decode cX10_sayMeasure 41 = .ok (.aload_n 0, 1) := by decide +kernel
theorem dX10_sayMeasure_42 : decode cX10_sayMeasure 42 = .ok (.getfield 279, 3) := by decide +kernel
theorem dX10_sayMeasure_45 : decode cX10_sayMeasure 45 = .ok (.iconst 1, 1) := by decide +kernel
theorem dX10_sayMeasure_46 : decode cX10_sayMeasure 46 = .ok (.invokestatic 296, 3) := by decide +kernel
theorem dX10_sayMeasure_49 : decode cX10_sayMeasure 49 = .ok (.invokevirtual 351, 3) := by decide +kernel
theorem dX10_sayMeasure_52 : decode cX10_sayMeasure 52 = .ok (.return_, 1) := by decide +kernel
theorem dX10_sayPicture_0 : decode cX10_sayPicture 0 = .ok (.iconst 0, 1) := by decide +kernel
theorem dX10_sayPicture_1 : decode cX10_sayPicture 1 = .ok (.istore_n 2, 1) := by decide +kernel
theorem dX10_sayPicture_2 : decode cX10_sayPicture 2 = .ok (.iload_n 2, 1) := by decide +kernel
theorem dX10_sayPicture_3 : decode cX10_sayPicture 3 = .ok (.bipush 6, 2) := by decide +kernel
theorem dX10_sayPicture_5 : decode cX10_sayPicture 5 = .ok (.if_icmp .ge 25, 3) := by decide +kernel
theorem dX10_sayPicture_8 : decode cX10_sayPicture 8 = .ok (.aload_n 0, 1) := by decide +kernel
theorem dX10_sayPicture_9 : decode cX10_sayPicture 9 = .ok (.aload_n 0, 1) := by decide +kernel
theorem dX10_sayPicture_10 : decode cX10_sayPicture 10 = .ok (.getfield 37, 3) := by decide +kernel
theorem dX10_sayPicture_13 : decode cX10_sayPicture 13 = .ok (.bipush 6, 2) := by decide +kernel
theorem dX10_sayPicture_15 : decode cX10_sayPicture 15 = .ok (.iload_n 1, 1) := by decide +kernel
theorem dX10_sayPicture_16 : decode cX10_sayPicture 16 = .ok (.imul, 1) := by decide +kernel
theorem dX10_sayPicture_17 : decode cX10_sayPicture 17 = .ok (.iload_n 2, 1) := by decide +kernel
theorem dX10_sayPicture_18 : decode cX10_sayPicture 18 = .ok (.iadd, 1) := by decide +kernel
theorem dX10_sayPicture_19 : decode cX10_sayPicture 19 = .ok (.iaload, 1) := by decide +kernel
theorem dX10_sayPicture_20 : decode cX10_sayPicture 20 = .ok (.i2l, 1) := by decide +kernel
theorem dX10_sayPicture_21 : decode cX10_sayPicture 21 = .ok (.invokevirtual 351, 3) := by decide +kernel
theorem dX10_sayPicture_24 : decode cX10_sayPicture 24 = .ok (.iinc 2 1, 3) := by decide +kernel
theorem dX10_sayPicture_27 : decode cX10_sayPicture 27 = .ok (.goto (-25), 3) := by decide +kernel
theorem dX10_sayPicture_30 : decode cX10_sayPicture 30 = .ok (.iconst 0, 1) := by decide +kernel
theorem dX10_sayPicture_31 : decode cX10_sayPicture 31 = .ok (.istore_n 2, 1) := by decide +kernel
theorem dX10_sayPicture_32 : decode cX10_sayPicture 32 = .ok (.iload_n 2, 1) := by decide +kernel
theorem dX10_sayPicture_33 : decode cX10_sayPicture 33 = .ok (.bipush 12, 2) := by decide +kernel
theorem dX10_sayPicture_35 : decode cX10_sayPicture 35 = .ok (.if_icmp .ge 20, 3) := by decide +kernel
theorem dX10_sayPicture_38 : decode cX10_sayPicture 38 = .ok (.aload_n 0, 1) := by decide +kernel
theorem dX10_sayPicture_39 : decode cX10_sayPicture 39 = .ok (.aload_n 0, 1) := by decide +kernel
theorem dX10_sayPicture_40 : decode cX10_sayPicture 40 = .ok (.iload_n 1, 1) := by decide +kernel
theorem dX10_sayPicture_41 : decode cX10_sayPicture 41 = .ok (.iload_n 2, 1) := by decide +kernel
theorem dX10_sayPicture_42 : decode cX10_sayPicture 42 = .ok (.invokevirtual 207, 3) := by decide +kernel
theorem dX10_sayPicture_45 : decode cX10_sayPicture 45 = .ok (.i2l, 1) := by decide +kernel
theorem dX10_sayPicture_46 : decode cX10_sayPicture 46 = .ok (.invokevirtual 351, 3) := by decide +kernel
theorem dX10_sayPicture_49 : decode cX10_sayPicture 49 = .ok (.iinc 2 1, 3) := by decide +kernel
theorem dX10_sayPicture_52 : decode cX10_sayPicture 52 = .ok (.goto (-20), 3) := by decide +kernel
theorem dX10_sayPicture_55 : decode cX10_sayPicture 55 = .ok (.aload_n 0, 1) := by decide +kernel
theorem dX10_sayPicture_56 : decode cX10_sayPicture 56 = .ok (.aload_n 0, 1) := by decide +kernel
theorem dX10_sayPicture_57 : decode cX10_sayPicture 57 = .ok (.iload_n 1, 1) := by decide +kernel
theorem dX10_sayPicture_58 : decode cX10_sayPicture 58 = .ok (.iconst 2, 1) := by decide +kernel
theorem dX10_sayPicture_59 : decode cX10_sayPicture 59 = .ok (.invokevirtual 238, 3) := by decide +kernel
theorem dX10_sayPicture_62 : decode cX10_sayPicture 62 = .ok (.i2l, 1) := by decide +kernel
theorem dX10_sayPicture_63 : decode cX10_sayPicture 63 = .ok (.invokevirtual 351, 3) := by decide +kernel
theorem dX10_sayPicture_66 : decode cX10_sayPicture 66 = .ok (.iconst 0, 1) := by decide +kernel
theorem dX10_sayPicture_67 : decode cX10_sayPicture 67 = .ok (.istore_n 2, 1) := by decide +kernel
theorem dX10_sayPicture_68 : decode cX10_sayPicture 68 = .ok (.iload_n 2, 1) := by decide +kernel
theorem dX10_sayPicture_69 : decode cX10_sayPicture 69 = .ok (.aload_n 0, 1) := by decide +kernel
theorem dX10_sayPicture_70 : decode cX10_sayPicture 70 = .ok (.getfield 162, 3) := by decide +kernel
theorem dX10_sayPicture_73 : decode cX10_sayPicture 73 = .ok (.if_icmp .ge 20, 3) := by decide +kernel
theorem dX10_sayPicture_76 : decode cX10_sayPicture 76 = .ok (.aload_n 0, 1) := by decide +kernel
theorem dX10_sayPicture_77 : decode cX10_sayPicture 77 = .ok (.aload_n 0, 1) := by decide +kernel
theorem dX10_sayPicture_78 : decode cX10_sayPicture 78 = .ok (.iload_n 2, 1) := by decide +kernel
theorem dX10_sayPicture_79 : decode cX10_sayPicture 79 = .ok (.iload_n 1, 1) := by decide +kernel
theorem dX10_sayPicture_80 : decode cX10_sayPicture 80 = .ok (.invokevirtual 218, 3) := by decide +kernel
theorem dX10_sayPicture_83 : decode cX10_sayPicture 83 = .ok (.i2l, 1) := by decide +kernel
theorem dX10_sayPicture_84 : decode cX10_sayPicture 84 = .ok (.invokevirtual 351, 3) := by decide +kernel
theorem dX10_sayPicture_87 : decode cX10_sayPicture 87 = .ok (.iinc 2 1, 3) := by decide +kernel
theorem dX10_sayPicture_90 : decode cX10_sayPicture 90 = .ok (.goto (-22), 3) := by decide +kernel
theorem dX10_sayPicture_93 : decode cX10_sayPicture 93 = .ok (.return_, 1) := by decide +kernel
theorem dX10_standing_0 : decode cX10_standing 0 = .ok (.iconst 0, 1) := by decide +kernel
theorem dX10_standing_1 : decode cX10_standing 1 = .ok (.istore_n 2, 1) := by decide +kernel
theorem dX10_standing_2 : decode cX10_standing 2 = .ok (.iconst 0, 1) := by decide +kernel
theorem dX10_standing_3 : decode cX10_standing 3 = .ok (.istore_n 3, 1) := by decide +kernel
theorem dX10_standing_4 : decode cX10_standing 4 = .ok (.iload_n 3, 1) := by decide +kernel
theorem dX10_standing_5 : decode cX10_standing 5 = .ok (.aload_n 0, 1) := by decide +kernel
theorem dX10_standing_6 : decode cX10_standing 6 = .ok (.getfield 256, 3) := by decide +kernel
theorem dX10_standing_9 : decode cX10_standing 9 = .ok (.if_icmp .ge 78, 3) := by decide +kernel
theorem dX10_standing_12 : decode cX10_standing 12 = .ok (.aload_n 0, 1) := by decide +kernel
theorem dX10_standing_13 : decode cX10_standing 13 = .ok (.getfield 46, 3) := by decide +kernel
theorem dX10_standing_16 : decode cX10_standing 16 = .ok (.iload_n 3, 1) := by decide +kernel
theorem dX10_standing_17 : decode cX10_standing 17 = .ok (.iaload, 1) := by decide +kernel
theorem dX10_standing_18 : decode cX10_standing 18 = .ok (.aload_n 0, 1) := by decide +kernel
theorem dX10_standing_19 : decode cX10_standing 19 = .ok (.getfield 46, 3) := by decide +kernel
theorem dX10_standing_22 : decode cX10_standing 22 = .ok (.iload_n 1, 1) := by decide +kernel
theorem dX10_standing_23 : decode cX10_standing 23 = .ok (.iaload, 1) := by decide +kernel
theorem dX10_standing_24 : decode cX10_standing 24 = .ok (.if_icmp .ne 7, 3) := by decide +kernel
theorem dX10_standing_27 : decode cX10_standing 27 = .ok (.iconst 1, 1) := by decide +kernel
theorem dX10_standing_28 : decode cX10_standing 28 = .ok (.goto 4, 3) := by decide +kernel
theorem dX10_standing_31 : decode cX10_standing 31 = .ok (.iconst 0, 1) := by decide +kernel
theorem dX10_standing_32 : decode cX10_standing 32 = .ok (.istore 4, 2) := by decide +kernel
theorem dX10_standing_34 : decode cX10_standing 34 = .ok (.iload_n 2, 1) := by decide +kernel
theorem dX10_standing_35 : decode cX10_standing 35 = .ok (.iload 4, 2) := by decide +kernel
theorem dX10_standing_37 : decode cX10_standing 37 = .ok (.ifCond .eq 18, 3) := by decide +kernel
theorem dX10_standing_40 : decode cX10_standing 40 = .ok (.aload_n 0, 1) := by decide +kernel
theorem dX10_standing_41 : decode cX10_standing 41 = .ok (.getfield 49, 3) := by decide +kernel
theorem dX10_standing_44 : decode cX10_standing 44 = .ok (.iload_n 1, 1) := by decide +kernel
theorem dX10_standing_45 : decode cX10_standing 45 = .ok (.iaload, 1) := by decide +kernel
theorem dX10_standing_46 : decode cX10_standing 46 = .ok (.aload_n 0, 1) := by decide +kernel
theorem dX10_standing_47 : decode cX10_standing 47 = .ok (.getfield 49, 3) := by decide +kernel
theorem dX10_standing_50 : decode cX10_standing 50 = .ok (.iload_n 3, 1) := by decide +kernel
theorem dX10_standing_51 : decode cX10_standing 51 = .ok (.iaload, 1) := by decide +kernel
theorem dX10_standing_52 : decode cX10_standing 52 = .ok (.if_icmp .ne 7, 3) := by decide +kernel
theorem dX10_standing_55 : decode cX10_standing 55 = .ok (.iconst 0, 1) := by decide +kernel
theorem dX10_standing_56 : decode cX10_standing 56 = .ok (.goto 23, 3) := by decide +kernel
theorem dX10_standing_59 : decode cX10_standing 59 = .ok (.aload_n 0, 1) := by decide +kernel
theorem dX10_standing_60 : decode cX10_standing 60 = .ok (.getfield 49, 3) := by decide +kernel
theorem dX10_standing_63 : decode cX10_standing 63 = .ok (.iload_n 1, 1) := by decide +kernel
theorem dX10_standing_64 : decode cX10_standing 64 = .ok (.iaload, 1) := by decide +kernel
theorem dX10_standing_65 : decode cX10_standing 65 = .ok (.aload_n 0, 1) := by decide +kernel
theorem dX10_standing_66 : decode cX10_standing 66 = .ok (.getfield 49, 3) := by decide +kernel
theorem dX10_standing_69 : decode cX10_standing 69 = .ok (.iload_n 3, 1) := by decide +kernel
theorem dX10_standing_70 : decode cX10_standing 70 = .ok (.iaload, 1) := by decide +kernel
theorem dX10_standing_71 : decode cX10_standing 71 = .ok (.if_icmp .le 7, 3) := by decide +kernel
theorem dX10_standing_74 : decode cX10_standing 74 = .ok (.iconst 1, 1) := by decide +kernel
theorem dX10_standing_75 : decode cX10_standing 75 = .ok (.goto 4, 3) := by decide +kernel
theorem dX10_standing_78 : decode cX10_standing 78 = .ok (.iconst (-1), 1) := by decide +kernel
theorem dX10_standing_79 : decode cX10_standing 79 = .ok (.iadd, 1) := by decide +kernel
theorem dX10_standing_80 : decode cX10_standing 80 = .ok (.istore_n 2, 1) := by decide +kernel
theorem dX10_standing_81 : decode cX10_standing 81 = .ok (.iinc 3 1, 3) := by decide +kernel
theorem dX10_standing_84 : decode cX10_standing 84 = .ok (.goto (-80), 3) := by decide +kernel
theorem dX10_standing_87 : decode cX10_standing 87 = .ok (.iload_n 2, 1) := by decide +kernel
theorem dX10_standing_88 : decode cX10_standing 88 = .ok (.ireturn, 1) := by decide +kernel
theorem dX10_stat_0 : decode cX10_stat 0 = .ok (.aload_n 0, 1) := by decide +kernel
theorem dX10_stat_1 : decode cX10_stat 1 = .ok (.iload_n 1, 1) := by decide +kernel
theorem dX10_stat_2 : decode cX10_stat 2 = .ok (.invokevirtual 215, 3) := by decide +kernel
theorem dX10_stat_5 : decode cX10_stat 5 = .ok (.ifCond .ne 7, 3) := by decide +kernel
theorem dX10_stat_8 : decode cX10_stat 8 = .ok (.sipush (-1001), 3) := by decide +kernel
theorem dX10_stat_11 : decode cX10_stat 11 = .ok (.ireturn, 1) := by decide +kernel
theorem dX10_stat_12 : decode cX10_stat 12 = .ok (.iload_n 2, 1) := by decide +kernel
theorem dX10_stat_13 : decode cX10_stat 13 = .ok (.invokestatic 235, 3) := by decide +kernel
theorem dX10_stat_16 : decode cX10_stat 16 = .ok (.ifCond .ne 7, 3) := by decide +kernel
theorem dX10_stat_19 : decode cX10_stat 19 = .ok (.sipush (-1002), 3) := by decide +kernel
theorem dX10_stat_22 : decode cX10_stat 22 = .ok (.ireturn, 1) := by decide +kernel
theorem dX10_stat_23 : decode cX10_stat 23 = .ok (.aload_n 0, 1) := by decide +kernel
theorem dX10_stat_24 : decode cX10_stat 24 = .ok (.iload_n 1, 1) := by decide +kernel
theorem dX10_stat_25 : decode cX10_stat 25 = .ok (.iload_n 2, 1) := by decide +kernel
theorem dX10_stat_26 : decode cX10_stat 26 = .ok (.iconst (-1), 1) := by decide +kernel
theorem dX10_stat_27 : decode cX10_stat 27 = .ok (.invokevirtual 262, 3) := by decide +kernel
theorem dX10_stat_30 : decode cX10_stat 30 = .ok (.aload_n 0, 1) := by decide +kernel
theorem dX10_stat_31 : decode cX10_stat 31 = .ok (.invokevirtual 266, 3) := by decide +kernel
theorem dX10_stat_34 : decode cX10_stat 34 = .ok (.ireturn, 1) := by decide +kernel
theorem dX10_statNow_0 : decode cX10_statNow 0 = .ok (.iconst 0, 1) := by decide +kernel
theorem dX10_statNow_1 : decode cX10_statNow 1 = .ok (.istore_n 1, 1) := by decide +kernel
theorem dX10_statNow_2 : decode cX10_statNow 2 = .ok (.iconst 0, 1) := by decide +kernel
theorem dX10_statNow_3 : decode cX10_statNow 3 = .ok (.istore_n 2, 1) := by decide +kernel
theorem dX10_statNow_4 : decode cX10_statNow 4 = .ok (.iload_n 2, 1) := by decide +kernel
theorem dX10_statNow_5 : decode cX10_statNow 5 = .ok (.aload_n 0, 1) := by decide +kernel
theorem dX10_statNow_6 : decode cX10_statNow 6 = .ok (.getfield 256, 3) := by decide +kernel
theorem dX10_statNow_9 : decode cX10_statNow 9 = .ok (.if_icmp .ge 30, 3) := by decide +kernel
theorem dX10_statNow_12 : decode cX10_statNow 12 = .ok (.iload_n 1, 1) := by decide +kernel
theorem dX10_statNow_13 : decode cX10_statNow 13 = .ok (.aload_n 0, 1) := by decide +kernel
theorem dX10_statNow_14 : decode cX10_statNow 14 = .ok (.getfield 52, 3) := by decide +kernel
theorem dX10_statNow_17 : decode cX10_statNow 17 = .ok (.iload_n 2, 1) := by decide +kernel
theorem dX10_statNow_18 : decode cX10_statNow 18 = .ok (.baload, 1) := by decide +kernel
theorem dX10_statNow_19 : decode cX10_statNow 19 = .ok (.ifCond .eq 11, 3) := by decide +kernel
theorem dX10_statNow_22 : decode cX10_statNow 22 = .ok (.aload_n 0, 1) := by decide +kernel
theorem dX10_statNow_23 : decode cX10_statNow 23 = .ok (.iload_n 2, 1) := by decide +kernel
theorem dX10_statNow_24 : decode cX10_statNow 24 = .ok (.invokevirtual 259, 3) := by decide +kernel
theorem dX10_statNow_27 : decode cX10_statNow 27 = .ok (.goto 4, 3) := by decide +kernel
theorem dX10_statNow_30 : decode cX10_statNow 30 = .ok (.iconst 0, 1) := by decide +kernel
theorem dX10_statNow_31 : decode cX10_statNow 31 = .ok (.iadd, 1) := by decide +kernel
theorem dX10_statNow_32 : decode cX10_statNow 32 = .ok (.istore_n 1, 1) := by decide +kernel
theorem dX10_statNow_33 : decode cX10_statNow 33 = .ok (.iinc 2 1, 3) := by decide +kernel
theorem dX10_statNow_36 : decode cX10_statNow 36 = .ok (.goto (-32), 3) := by decide +kernel
theorem dX10_statNow_39 : decode cX10_statNow 39 = .ok (.iload_n 1, 1) := by decide +kernel
theorem dX10_statNow_40 : decode cX10_statNow 40 = .ok (.ireturn, 1) := by decide +kernel
theorem dX10_sumOf_0 : decode cX10_sumOf 0 = .ok (.iconst 0, 1) := by decide +kernel
theorem dX10_sumOf_1 : decode cX10_sumOf 1 = .ok (.istore 4, 2) := by decide +kernel
theorem dX10_sumOf_3 : decode cX10_sumOf 3 = .ok (.iconst 0, 1) := by decide +kernel
theorem dX10_sumOf_4 : decode cX10_sumOf 4 = .ok (.istore 5, 2) := by decide +kernel
theorem dX10_sumOf_6 : decode cX10_sumOf 6 = .ok (.iload 5, 2) := by decide +kernel
theorem dX10_sumOf_8 : decode cX10_sumOf 8 = .ok (.bipush 12, 2) := by decide +kernel
theorem dX10_sumOf_10 : decode cX10_sumOf 10 = .ok (.if_icmp .ge 39, 3) := by decide +kernel
theorem dX10_sumOf_13 : decode cX10_sumOf 13 = .ok (.iload 4, 2) := by decide +kernel
theorem dX10_sumOf_15 : decode cX10_sumOf 15 = .ok (.aload_n 0, 1) := by decide +kernel
theorem dX10_sumOf_16 : decode cX10_sumOf 16 = .ok (.getfield 25, 3) := by decide +kernel
theorem dX10_sumOf_19 : decode cX10_sumOf 19 = .ok (.bipush 24, 2) := by decide +kernel
theorem dX10_sumOf_21 : decode cX10_sumOf 21 = .ok (.iload_n 1, 1) := by decide +kernel
theorem dX10_sumOf_22 : decode cX10_sumOf 22 = .ok (.imul, 1) := by decide +kernel
theorem dX10_sumOf_23 : decode cX10_sumOf 23 = .ok (.bipush 12, 2) := by decide +kernel
theorem dX10_sumOf_25 : decode cX10_sumOf 25 = .ok (.iload_n 3, 1) := by decide +kernel
theorem dX10_sumOf_26 : decode cX10_sumOf 26 = .ok (.imul, 1) := by decide +kernel
theorem dX10_sumOf_27 : decode cX10_sumOf 27 = .ok (.iadd, 1) := by decide +kernel
theorem dX10_sumOf_28 : decode cX10_sumOf 28 = .ok (.iload 5, 2) := by decide +kernel
theorem dX10_sumOf_30 : decode cX10_sumOf 30 = .ok (.iadd, 1) := by decide +kernel
theorem dX10_sumOf_31 : decode cX10_sumOf 31 = .ok (.iaload, 1) := by decide +kernel
theorem dX10_sumOf_32 : decode cX10_sumOf 32 = .ok (.aload_n 0, 1) := by decide +kernel
theorem dX10_sumOf_33 : decode cX10_sumOf 33 = .ok (.iload_n 2, 1) := by decide +kernel
theorem dX10_sumOf_34 : decode cX10_sumOf 34 = .ok (.iload 5, 2) := by decide +kernel
theorem dX10_sumOf_36 : decode cX10_sumOf 36 = .ok (.invokevirtual 207, 3) := by decide +kernel
theorem dX10_sumOf_39 : decode cX10_sumOf 39 = .ok (.imul, 1) := by decide +kernel
theorem dX10_sumOf_40 : decode cX10_sumOf 40 = .ok (.iadd, 1) := by decide +kernel
theorem dX10_sumOf_41 : decode cX10_sumOf 41 = .ok (.istore 4, 2) := by decide +kernel
theorem dX10_sumOf_43 : decode cX10_sumOf 43 = .ok (.iinc 5 1, 3) := by decide +kernel
theorem dX10_sumOf_46 : decode cX10_sumOf 46 = .ok (.goto (-40), 3) := by decide +kernel
theorem dX10_sumOf_49 : decode cX10_sumOf 49 = .ok (.iload 4, 2) := by decide +kernel
theorem dX10_sumOf_51 : decode cX10_sumOf 51 = .ok (.ireturn, 1) := by decide +kernel
theorem dX10_term_0 : decode cX10_term 0 = .ok (.lload_n 0, 1) := by decide +kernel
theorem dX10_term_1 : decode cX10_term 1 = .ok (.lload_n 2, 1) := by decide +kernel
theorem dX10_term_2 : decode cX10_term 2 = .ok (.invokestatic 282, 3) := by decide +kernel
theorem dX10_term_5 : decode cX10_term 5 = .ok (.lstore 5, 2) := by decide +kernel
theorem dX10_term_7 : decode cX10_term 7 = .ok (.iload 4, 2) := by decide +kernel
theorem dX10_term_9 : decode cX10_term 9 = .ok (.ifCond .ne 10, 3) := by decide +kernel
theorem dX10_term_12 : decode cX10_term 12 = .ok (.lload_n 0, 1) := by decide +kernel
theorem dX10_term_13 : decode cX10_term 13 = .ok (.lload 5, 2) := by decide +kernel
theorem dX10_term_15 : decode cX10_term 15 = .ok (.ldiv, 1) := by decide +kernel
theorem dX10_term_16 : decode cX10_term 16 = .ok (.goto 7, 3) := by decide +kernel
theorem dX10_term_19 : decode cX10_term 19 = .ok (.lload_n 2, 1) := by decide +kernel
theorem dX10_term_20 : decode cX10_term 20 = .ok (.lload 5, 2) := by decide +kernel
theorem dX10_term_22 : decode cX10_term 22 = .ok (.ldiv, 1) := by decide +kernel
theorem dX10_term_23 : decode cX10_term 23 = .ok (.lreturn, 1) := by decide +kernel
theorem dX10_value_0 : decode cX10_value 0 = .ok (.aload_n 0, 1) := by decide +kernel
theorem dX10_value_1 : decode cX10_value 1 = .ok (.iload_n 1, 1) := by decide +kernel
theorem dX10_value_2 : decode cX10_value 2 = .ok (.invokevirtual 215, 3) := by decide +kernel
theorem dX10_value_5 : decode cX10_value 5 = .ok (.ifCond .eq 20, 3) := by decide +kernel
theorem dX10_value_8 : decode cX10_value 8 = .ok (.aload_n 0, 1) := by decide +kernel
theorem dX10_value_9 : decode cX10_value 9 = .ok (.iload_n 2, 1) := by decide +kernel
theorem dX10_value_10 : decode cX10_value 10 = .ok (.invokevirtual 191, 3) := by decide +kernel
theorem dX10_value_13 : decode cX10_value 13 = .ok (.ifCond .eq 12, 3) := by decide +kernel
theorem dX10_value_16 : decode cX10_value 16 = .ok (.aload_n 0, 1) := by decide +kernel
theorem dX10_value_17 : decode cX10_value 17 = .ok (.iload_n 1, 1) := by decide +kernel
theorem dX10_value_18 : decode cX10_value 18 = .ok (.iload_n 2, 1) := by decide +kernel
theorem dX10_value_19 : decode cX10_value 19 = .ok (.invokevirtual 218, 3) := by decide +kernel
theorem dX10_value_22 : decode cX10_value 22 = .ok (.goto 5, 3) := by decide +kernel
theorem dX10_value_25 : decode cX10_value 25 = .ok (.bipush (-101), 2) := by decide +kernel
theorem dX10_value_27 : decode cX10_value 27 = .ok (.ireturn, 1) := by decide +kernel
theorem dX10_valueOf_0 : decode cX10_valueOf 0 = .ok (.aload_n 0, 1) := by decide +kernel
theorem dX10_valueOf_1 : decode cX10_valueOf 1 = .ok (.iload_n 1, 1) := by decide +kernel
theorem dX10_valueOf_2 : decode cX10_valueOf 2 = .ok (.iload_n 2, 1) := by decide +kernel
theorem dX10_valueOf_3 : decode cX10_valueOf 3 = .ok (.iconst 1, 1) := by decide +kernel
theorem dX10_valueOf_4 : decode cX10_valueOf 4 = .ok (.invokevirtual 211, 3) := by decide +kernel
theorem dX10_valueOf_7 : decode cX10_valueOf 7 = .ok (.istore_n 3, 1) := by decide +kernel
theorem dX10_valueOf_8 : decode cX10_valueOf 8 = .ok (.bipush 100, 2) := by decide +kernel
theorem dX10_valueOf_10 : decode cX10_valueOf 10 = .ok (.aload_n 0, 1) := by decide +kernel
theorem dX10_valueOf_11 : decode cX10_valueOf 11 = .ok (.iload_n 1, 1) := by decide +kernel
theorem dX10_valueOf_12 : decode cX10_valueOf 12 = .ok (.iload_n 2, 1) := by decide +kernel
theorem dX10_valueOf_13 : decode cX10_valueOf 13 = .ok (.iconst 0, 1) := by decide +kernel
theorem dX10_valueOf_14 : decode cX10_valueOf 14 = .ok (.invokevirtual 211, 3) := by decide +kernel
theorem dX10_valueOf_17 : decode cX10_valueOf 17 = .ok (.imul, 1) := by decide +kernel
theorem dX10_valueOf_18 : decode cX10_valueOf 18 = .ok (.iload_n 3, 1) := by decide +kernel
theorem dX10_valueOf_19 : decode cX10_valueOf 19 = .ok (.iconst 1, 1) := by decide +kernel
theorem dX10_valueOf_20 : decode cX10_valueOf 20 = .ok (.if_icmp .ge 7, 3) := by decide +kernel
theorem dX10_valueOf_23 : decode cX10_valueOf 23 = .ok (.iconst 1, 1) := by decide +kernel
theorem dX10_valueOf_24 : decode cX10_valueOf 24 = .ok (.goto 4, 3) := by decide +kernel
theorem dX10_valueOf_27 : decode cX10_valueOf 27 = .ok (.iload_n 3, 1) := by decide +kernel
theorem dX10_valueOf_28 : decode cX10_valueOf 28 = .ok (.idiv, 1) := by decide +kernel
theorem dX10_valueOf_29 : decode cX10_valueOf 29 = .ok (.ireturn, 1) := by decide +kernel
theorem dX10_wrong_0 : decode cX10_wrong 0 = .ok (.aload_n 0, 1) := by decide +kernel
theorem dX10_wrong_1 : decode cX10_wrong 1 = .ok (.iload_n 1, 1) := by decide +kernel
theorem dX10_wrong_2 : decode cX10_wrong 2 = .ok (.invokevirtual 215, 3) := by decide +kernel
theorem dX10_wrong_5 : decode cX10_wrong 5 = .ok (.ifCond .ne 6, 3) := by decide +kernel
theorem dX10_wrong_8 : decode cX10_wrong 8 = .ok (.bipush (-101), 2) := by decide +kernel
theorem dX10_wrong_10 : decode cX10_wrong 10 = .ok (.ireturn, 1) := by decide +kernel
theorem dX10_wrong_11 : decode cX10_wrong 11 = .ok (.aload_n 0, 1) := by decide +kernel
theorem dX10_wrong_12 : decode cX10_wrong 12 = .ok (.getfield 165, 3) := by decide +kernel
theorem dX10_wrong_15 : decode cX10_wrong 15 = .ok (.ifCond .ne 8, 3) := by decide +kernel
theorem dX10_wrong_18 : decode cX10_wrong 18 = .ok (.bipush (-103), 2) := by decide +kernel
theorem dX10_wrong_20 : decode cX10_wrong 20 = .ok (.goto 8, 3) := by decide +kernel
theorem dX10_wrong_23 : decode cX10_wrong 23 = .ok (.aload_n 0, 1) := by decide +kernel
theorem dX10_wrong_24 : decode cX10_wrong 24 = .ok (.iload_n 1, 1) := by decide +kernel
theorem dX10_wrong_25 : decode cX10_wrong 25 = .ok (.invokevirtual 334, 3) := by decide +kernel
theorem dX10_wrong_28 : decode cX10_wrong 28 = .ok (.ireturn, 1) := by decide +kernel
