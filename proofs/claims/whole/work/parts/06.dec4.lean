theorem dX9_back_0 : decode cX9_back 0 = .ok (.aload_n 0, 1) := by decide +kernel
theorem dX9_back_1 : decode cX9_back 1 = .ok (.iload_n 1, 1) := by decide +kernel
theorem dX9_back_2 : decode cX9_back 2 = .ok (.invokevirtual 160, 3) := by decide +kernel
theorem dX9_back_5 : decode cX9_back 5 = .ok (.ifCond .ne 6, 3) := by decide +kernel
theorem dX9_back_8 : decode cX9_back 8 = .ok (.bipush (-101), 2) := by decide +kernel
theorem dX9_back_10 : decode cX9_back 10 = .ok (.ireturn, 1) := by decide +kernel
theorem dX9_back_11 : decode cX9_back 11 = .ok (.iload_n 2, 1) := by decide +kernel
theorem dX9_back_12 : decode cX9_back 12 = .ok (.sipush 400, 3) := by decide +kernel
theorem dX9_back_15 : decode cX9_back 15 = .ok (.invokestatic 126, 3) := by decide +kernel
theorem dX9_back_18 : decode cX9_back 18 = .ok (.ifCond .eq 11, 3) := by decide +kernel
theorem dX9_back_21 : decode cX9_back 21 = .ok (.iload_n 3, 1) := by decide +kernel
theorem dX9_back_22 : decode cX9_back 22 = .ok (.iconst 1, 1) := by decide +kernel
theorem dX9_back_23 : decode cX9_back 23 = .ok (.invokestatic 126, 3) := by decide +kernel
theorem dX9_back_26 : decode cX9_back 26 = .ok (.ifCond .ne 6, 3) := by decide +kernel
theorem dX9_back_29 : decode cX9_back 29 = .ok (.bipush (-102), 2) := by decide +kernel
theorem dX9_back_31 : decode cX9_back 31 = .ok (.ireturn, 1) := by decide +kernel
theorem dX9_back_32 : decode cX9_back 32 = .ok (.aload_n 0, 1) := by decide +kernel
theorem dX9_back_33 : decode cX9_back 33 = .ok (.getfield 55, 3) := by decide +kernel
theorem dX9_back_36 : decode cX9_back 36 = .ok (.getfield 125, 3) := by decide +kernel
theorem dX9_back_39 : decode cX9_back 39 = .ok (.ifCond .ne 6, 3) := by decide +kernel
theorem dX9_back_42 : decode cX9_back 42 = .ok (.bipush (-103), 2) := by decide +kernel
theorem dX9_back_44 : decode cX9_back 44 = .ok (.ireturn, 1) := by decide +kernel
theorem dX9_back_45 : decode cX9_back 45 = .ok (.aload_n 0, 1) := by decide +kernel
theorem dX9_back_46 : decode cX9_back 46 = .ok (.getfield 62, 3) := by decide +kernel
theorem dX9_back_49 : decode cX9_back 49 = .ok (.getfield 251, 3) := by decide +kernel
theorem dX9_back_52 : decode cX9_back 52 = .ok (.iload_n 2, 1) := by decide +kernel
theorem dX9_back_53 : decode cX9_back 53 = .ok (.iaload, 1) := by decide +kernel
theorem dX9_back_54 : decode cX9_back 54 = .ok (.iconst (-1), 1) := by decide +kernel
theorem dX9_back_55 : decode cX9_back 55 = .ok (.if_icmp .eq 7, 3) := by decide +kernel
theorem dX9_back_58 : decode cX9_back 58 = .ok (.iconst 1, 1) := by decide +kernel
theorem dX9_back_59 : decode cX9_back 59 = .ok (.goto 4, 3) := by decide +kernel
theorem dX9_back_62 : decode cX9_back 62 = .ok (.iconst 0, 1) := by decide +kernel
theorem dX9_back_63 : decode cX9_back 63 = .ok (.istore 4, 2) := by decide +kernel
theorem dX9_back_65 : decode cX9_back 65 = .ok (.iload 4, 2) := by decide +kernel
theorem dX9_back_67 : decode cX9_back 67 = .ok (.ifCond .eq 15, 3) := by decide +kernel
theorem dX9_back_70 : decode cX9_back 70 = .ok (.aload_n 0, 1) := by decide +kernel
theorem dX9_back_71 : decode cX9_back 71 = .ok (.getfield 62, 3) := by decide +kernel
theorem dX9_back_74 : decode cX9_back 74 = .ok (.getfield 251, 3) := by decide +kernel
theorem dX9_back_77 : decode cX9_back 77 = .ok (.iload_n 2, 1) := by decide +kernel
theorem dX9_back_78 : decode cX9_back 78 = .ok (.iaload, 1) := by decide +kernel
theorem dX9_back_79 : decode cX9_back 79 = .ok (.goto 4, 3) := by decide +kernel
theorem dX9_back_82 : decode cX9_back 82 = .ok (.iconst 0, 1) := by decide +kernel
theorem dX9_back_83 : decode cX9_back 83 = .ok (.istore 5, 2) := by decide +kernel
theorem dX9_back_85 : decode cX9_back 85 = .ok (.iload 4, 2) := by decide +kernel
theorem dX9_back_87 : decode cX9_back 87 = .ok (.ifCond .eq 15, 3) := by decide +kernel
theorem dX9_back_90 : decode cX9_back 90 = .ok (.aload_n 0, 1) := by decide +kernel
theorem dX9_back_91 : decode cX9_back 91 = .ok (.getfield 62, 3) := by decide +kernel
theorem dX9_back_94 : decode cX9_back 94 = .ok (.getfield 264, 3) := by decide +kernel
theorem dX9_back_97 : decode cX9_back 97 = .ok (.iload_n 2, 1) := by decide +kernel
theorem dX9_back_98 : decode cX9_back 98 = .ok (.iaload, 1) := by decide +kernel
theorem dX9_back_99 : decode cX9_back 99 = .ok (.goto 10, 3) := by decide +kernel
theorem dX9_back_102 : decode cX9_back 102 = .ok (.aload_n 0, 1) := by decide +kernel
theorem dX9_back_103 : decode cX9_back 103 = .ok (.getfield 55, 3) := by decide +kernel
theorem dX9_back_106 : decode cX9_back 106 = .ok (.getfield 125, 3) := by decide +kernel
theorem dX9_back_109 : decode cX9_back 109 = .ok (.istore 6, 2) := by decide +kernel
theorem dX9_back_111 : decode cX9_back 111 = .ok (.iconst 0, 1) := by decide +kernel
theorem dX9_back_112 : decode cX9_back 112 = .ok (.istore 7, 2) := by decide +kernel
theorem dX9_back_114 : decode cX9_back 114 = .ok (.iload 7, 2) := by decide +kernel
theorem dX9_back_116 : decode cX9_back 116 = .ok (.aload_n 0, 1) := by decide +kernel
theorem dX9_back_117 : decode cX9_back 117 = .ok (.getfield 62, 3) := by decide +kernel
theorem dX9_back_120 : decode cX9_back 120 = .ok (.getfield 183, 3) := by decide +kernel
theorem dX9_back_123 : decode cX9_back 123 = .ok (.if_icmp .ge 63, 3) := by decide +kernel
theorem dX9_back_126 : decode cX9_back 126 = .ok (.aload_n 0, 1) := by decide +kernel
theorem dX9_back_127 : decode cX9_back 127 = .ok (.getfield 62, 3) := by decide +kernel
theorem dX9_back_130 : decode cX9_back 130 = .ok (.iload 7, 2) := by decide +kernel
theorem dX9_back_132 : decode cX9_back 132 = .ok (.iload_n 2, 1) := by decide +kernel
theorem dX9_back_133 : decode cX9_back 133 = .ok (.invokevirtual 267, 3) := by decide +kernel
theorem dX9_back_136 : decode cX9_back 136 = .ok (.ifCond .eq 44, 3) := by decide +kernel
theorem dX9_back_139 : decode cX9_back 139 = .ok (.aload_n 0, 1) := by decide +kernel
theorem dX9_back_140 : decode cX9_back 140 = .ok (.iload_n 1, 1) := by decide +kernel
theorem dX9_back_141 : decode cX9_back 141 = .ok (.iload 7, 2) := by decide +kernel
theorem dX9_back_143 : decode cX9_back 143 = .ok (.invokevirtual 163, 3) := by decide +kernel
theorem dX9_back_146 : decode cX9_back 146 = .ok (.istore 8, 2) := by decide +kernel
theorem dX9_back_148 : decode cX9_back 148 = .ok (.iload 5, 2) := by decide +kernel
theorem dX9_back_150 : decode cX9_back 150 = .ok (.aload_n 0, 1) := by decide +kernel
theorem dX9_back_151 : decode cX9_back 151 = .ok (.getfield 55, 3) := by decide +kernel
theorem dX9_back_154 : decode cX9_back 154 = .ok (.iload 8, 2) := by decide +kernel
theorem dX9_back_156 : decode cX9_back 156 = .ok (.invokevirtual 258, 3) := by decide +kernel
theorem dX9_back_159 : decode cX9_back 159 = .ok (.invokestatic 270, 3) := by decide +kernel
theorem dX9_back_162 : decode cX9_back 162 = .ok (.istore 5, 2) := by decide +kernel
theorem dX9_back_164 : decode cX9_back 164 = .ok (.iload 6, 2) := by decide +kernel
theorem dX9_back_166 : decode cX9_back 166 = .ok (.aload_n 0, 1) := by decide +kernel
theorem dX9_back_167 : decode cX9_back 167 = .ok (.getfield 55, 3) := by decide +kernel
theorem dX9_back_170 : decode cX9_back 170 = .ok (.iload 8, 2) := by decide +kernel
theorem dX9_back_172 : decode cX9_back 172 = .ok (.invokevirtual 261, 3) := by decide +kernel
theorem dX9_back_175 : decode cX9_back 175 = .ok (.invokestatic 275, 3) := by decide +kernel
theorem dX9_back_178 : decode cX9_back 178 = .ok (.istore 6, 2) := by decide +kernel
theorem dX9_back_180 : decode cX9_back 180 = .ok (.iinc 7 1, 3) := by decide +kernel
theorem dX9_back_183 : decode cX9_back 183 = .ok (.goto (-69), 3) := by decide +kernel
theorem dX9_back_186 : decode cX9_back 186 = .ok (.iload 5, 2) := by decide +kernel
theorem dX9_back_188 : decode cX9_back 188 = .ok (.iload 6, 2) := by decide +kernel
theorem dX9_back_190 : decode cX9_back 190 = .ok (.if_icmp .le 5, 3) := by decide +kernel
theorem dX9_back_193 : decode cX9_back 193 = .ok (.iconst (-1), 1) := by decide +kernel
theorem dX9_back_194 : decode cX9_back 194 = .ok (.ireturn, 1) := by decide +kernel
theorem dX9_back_195 : decode cX9_back 195 = .ok (.iload_n 3, 1) := by decide +kernel
theorem dX9_back_196 : decode cX9_back 196 = .ok (.ifCond .ne 8, 3) := by decide +kernel
theorem dX9_back_199 : decode cX9_back 199 = .ok (.iload 5, 2) := by decide +kernel
theorem dX9_back_201 : decode cX9_back 201 = .ok (.goto 5, 3) := by decide +kernel
theorem dX9_back_204 : decode cX9_back 204 = .ok (.iload 6, 2) := by decide +kernel
theorem dX9_back_206 : decode cX9_back 206 = .ok (.ireturn, 1) := by decide +kernel
theorem dX9_blank_0 : decode cX9_blank 0 = .ok (.aload_n 0, 1) := by decide +kernel
theorem dX9_blank_1 : decode cX9_blank 1 = .ok (.getfield 12, 3) := by decide +kernel
theorem dX9_blank_4 : decode cX9_blank 4 = .ok (.getfield 87, 3) := by decide +kernel
theorem dX9_blank_7 : decode cX9_blank 7 = .ok (.istore_n 1, 1) := by decide +kernel
theorem dX9_blank_8 : decode cX9_blank 8 = .ok (.aload_n 0, 1) := by decide +kernel
theorem dX9_blank_9 : decode cX9_blank 9 = .ok (.getfield 12, 3) := by decide +kernel
theorem dX9_blank_12 : decode cX9_blank 12 = .ok (.iconst 0, 1) := by decide +kernel
theorem dX9_blank_13 : decode cX9_blank 13 = .ok (.putfield 87, 3) := by decide +kernel
theorem dX9_blank_16 : decode cX9_blank 16 = .ok (.iload_n 1, 1) := by decide +kernel
theorem dX9_blank_17 : decode cX9_blank 17 = .ok (.ireturn, 1) := by decide +kernel
theorem dX9_classes_0 : decode cX9_classes 0 = .ok (.aload_n 0, 1) := by decide +kernel
theorem dX9_classes_1 : decode cX9_classes 1 = .ok (.iload_n 1, 1) := by decide +kernel
theorem dX9_classes_2 : decode cX9_classes 2 = .ok (.invokevirtual 160, 3) := by decide +kernel
theorem dX9_classes_5 : decode cX9_classes 5 = .ok (.ifCond .eq 14, 3) := by decide +kernel
theorem dX9_classes_8 : decode cX9_classes 8 = .ok (.aload_n 0, 1) := by decide +kernel
theorem dX9_classes_9 : decode cX9_classes 9 = .ok (.getfield 62, 3) := by decide +kernel
theorem dX9_classes_12 : decode cX9_classes 12 = .ok (.iload_n 2, 1) := by decide +kernel
theorem dX9_classes_13 : decode cX9_classes 13 = .ok (.invokevirtual 144, 3) := by decide +kernel
theorem dX9_classes_16 : decode cX9_classes 16 = .ok (.ifCond .ne 6, 3) := by decide +kernel
theorem dX9_classes_19 : decode cX9_classes 19 = .ok (.bipush (-101), 2) := by decide +kernel
theorem dX9_classes_21 : decode cX9_classes 21 = .ok (.ireturn, 1) := by decide +kernel
theorem dX9_classes_22 : decode cX9_classes 22 = .ok (.iload_n 3, 1) := by decide +kernel
theorem dX9_classes_23 : decode cX9_classes 23 = .ok (.iconst 1, 1) := by decide +kernel
theorem dX9_classes_24 : decode cX9_classes 24 = .ok (.invokestatic 126, 3) := by decide +kernel
theorem dX9_classes_27 : decode cX9_classes 27 = .ok (.ifCond .ne 6, 3) := by decide +kernel
theorem dX9_classes_30 : decode cX9_classes 30 = .ok (.bipush (-102), 2) := by decide +kernel
theorem dX9_classes_32 : decode cX9_classes 32 = .ok (.ireturn, 1) := by decide +kernel
theorem dX9_classes_33 : decode cX9_classes 33 = .ok (.aload_n 0, 1) := by decide +kernel
theorem dX9_classes_34 : decode cX9_classes 34 = .ok (.getfield 55, 3) := by decide +kernel
theorem dX9_classes_37 : decode cX9_classes 37 = .ok (.getfield 125, 3) := by decide +kernel
theorem dX9_classes_40 : decode cX9_classes 40 = .ok (.ifCond .ne 6, 3) := by decide +kernel
theorem dX9_classes_43 : decode cX9_classes 43 = .ok (.bipush (-103), 2) := by decide +kernel
theorem dX9_classes_45 : decode cX9_classes 45 = .ok (.ireturn, 1) := by decide +kernel
theorem dX9_classes_46 : decode cX9_classes 46 = .ok (.aload_n 0, 1) := by decide +kernel
theorem dX9_classes_47 : decode cX9_classes 47 = .ok (.iload_n 1, 1) := by decide +kernel
theorem dX9_classes_48 : decode cX9_classes 48 = .ok (.iload_n 2, 1) := by decide +kernel
theorem dX9_classes_49 : decode cX9_classes 49 = .ok (.invokevirtual 163, 3) := by decide +kernel
theorem dX9_classes_52 : decode cX9_classes 52 = .ok (.istore 4, 2) := by decide +kernel
theorem dX9_classes_54 : decode cX9_classes 54 = .ok (.iload_n 3, 1) := by decide +kernel
theorem dX9_classes_55 : decode cX9_classes 55 = .ok (.ifCond .ne 15, 3) := by decide +kernel
theorem dX9_classes_58 : decode cX9_classes 58 = .ok (.aload_n 0, 1) := by decide +kernel
theorem dX9_classes_59 : decode cX9_classes 59 = .ok (.getfield 55, 3) := by decide +kernel
theorem dX9_classes_62 : decode cX9_classes 62 = .ok (.iload 4, 2) := by decide +kernel
theorem dX9_classes_64 : decode cX9_classes 64 = .ok (.invokevirtual 258, 3) := by decide +kernel
theorem dX9_classes_67 : decode cX9_classes 67 = .ok (.goto 12, 3) := by decide +kernel
theorem dX9_classes_70 : decode cX9_classes 70 = .ok (.aload_n 0, 1) := by decide +kernel
theorem dX9_classes_71 : decode cX9_classes 71 = .ok (.getfield 55, 3) := by decide +kernel
theorem dX9_classes_74 : decode cX9_classes 74 = .ok (.iload 4, 2) := by decide +kernel
theorem dX9_classes_76 : decode cX9_classes 76 = .ok (.invokevirtual 261, 3) := by decide +kernel
theorem dX9_classes_79 : decode cX9_classes 79 = .ok (.ireturn, 1) := by decide +kernel
theorem dX9_colour_0 : decode cX9_colour 0 = .ok (.aload_n 0, 1) := by decide +kernel
theorem dX9_colour_1 : decode cX9_colour 1 = .ok (.getfield 62, 3) := by decide +kernel
theorem dX9_colour_4 : decode cX9_colour 4 = .ok (.iload_n 1, 1) := by decide +kernel
theorem dX9_colour_5 : decode cX9_colour 5 = .ok (.invokevirtual 144, 3) := by decide +kernel
theorem dX9_colour_8 : decode cX9_colour 8 = .ok (.ifCond .ne 6, 3) := by decide +kernel
theorem dX9_colour_11 : decode cX9_colour 11 = .ok (.bipush (-101), 2) := by decide +kernel
theorem dX9_colour_13 : decode cX9_colour 13 = .ok (.ireturn, 1) := by decide +kernel
theorem dX9_colour_14 : decode cX9_colour 14 = .ok (.iload_n 2, 1) := by decide +kernel
theorem dX9_colour_15 : decode cX9_colour 15 = .ok (.iconst 3, 1) := by decide +kernel
theorem dX9_colour_16 : decode cX9_colour 16 = .ok (.invokestatic 126, 3) := by decide +kernel
theorem dX9_colour_19 : decode cX9_colour 19 = .ok (.ifCond .eq 21, 3) := by decide +kernel
theorem dX9_colour_22 : decode cX9_colour 22 = .ok (.iload_n 3, 1) := by decide +kernel
theorem dX9_colour_23 : decode cX9_colour 23 = .ok (.iconst 2, 1) := by decide +kernel
theorem dX9_colour_24 : decode cX9_colour 24 = .ok (.invokestatic 126, 3) := by decide +kernel
theorem dX9_colour_27 : decode cX9_colour 27 = .ok (.ifCond .eq 13, 3) := by decide +kernel
theorem dX9_colour_30 : decode cX9_colour 30 = .ok (.iload 4, 2) := by decide +kernel
theorem dX9_colour_32 : decode cX9_colour 32 = .ok (.bipush 99, 2) := by decide +kernel
theorem dX9_colour_34 : decode cX9_colour 34 = .ok (.invokestatic 126, 3) := by decide +kernel
theorem dX9_colour_37 : decode cX9_colour 37 = .ok (.ifCond .ne 6, 3) := by decide +kernel
theorem dX9_colour_40 : decode cX9_colour 40 = .ok (.bipush (-102), 2) := by decide +kernel
theorem dX9_colour_42 : decode cX9_colour 42 = .ok (.ireturn, 1) := by decide +kernel
theorem dX9_colour_43 : decode cX9_colour 43 = .ok (.iload_n 2, 1) := by decide +kernel
theorem dX9_colour_44 : decode cX9_colour 44 = .ok (.iconst 3, 1) := by decide +kernel
theorem dX9_colour_45 : decode cX9_colour 45 = .ok (.imul, 1) := by decide +kernel
theorem dX9_colour_46 : decode cX9_colour 46 = .ok (.iload_n 3, 1) := by decide +kernel
theorem dX9_colour_47 : decode cX9_colour 47 = .ok (.iadd, 1) := by decide +kernel
theorem dX9_colour_48 : decode cX9_colour 48 = .ok (.istore 5, 2) := by decide +kernel
theorem dX9_colour_50 : decode cX9_colour 50 = .ok (.aload_n 0, 1) := by decide +kernel
theorem dX9_colour_51 : decode cX9_colour 51 = .ok (.getfield 62, 3) := by decide +kernel
theorem dX9_colour_54 : decode cX9_colour 54 = .ok (.getfield 147, 3) := by decide +kernel
theorem dX9_colour_57 : decode cX9_colour 57 = .ok (.iload_n 1, 1) := by decide +kernel
theorem dX9_colour_58 : decode cX9_colour 58 = .ok (.aaload, 1) := by decide +kernel
theorem dX9_colour_59 : decode cX9_colour 59 = .ok (.iload 5, 2) := by decide +kernel
theorem dX9_colour_61 : decode cX9_colour 61 = .ok (.iaload, 1) := by decide +kernel
theorem dX9_colour_62 : decode cX9_colour 62 = .ok (.istore 6, 2) := by decide +kernel
theorem dX9_colour_64 : decode cX9_colour 64 = .ok (.aload_n 0, 1) := by decide +kernel
theorem dX9_colour_65 : decode cX9_colour 65 = .ok (.getfield 62, 3) := by decide +kernel
theorem dX9_colour_68 : decode cX9_colour 68 = .ok (.getfield 147, 3) := by decide +kernel
theorem dX9_colour_71 : decode cX9_colour 71 = .ok (.iload_n 1, 1) := by decide +kernel
theorem dX9_colour_72 : decode cX9_colour 72 = .ok (.aaload, 1) := by decide +kernel
theorem dX9_colour_73 : decode cX9_colour 73 = .ok (.iload 5, 2) := by decide +kernel
theorem dX9_colour_75 : decode cX9_colour 75 = .ok (.iload 4, 2) := by decide +kernel
theorem dX9_colour_77 : decode cX9_colour 77 = .ok (.iastore, 1) := by decide +kernel
theorem dX9_colour_78 : decode cX9_colour 78 = .ok (.iload 6, 2) := by decide +kernel
theorem dX9_colour_80 : decode cX9_colour 80 = .ok (.ireturn, 1) := by decide +kernel
theorem dX9_count_0 : decode cX9_count 0 = .ok (.iload_n 1, 1) := by decide +kernel
theorem dX9_count_1 : decode cX9_count 1 = .ok (.bipush 8, 2) := by decide +kernel
theorem dX9_count_3 : decode cX9_count 3 = .ok (.invokestatic 126, 3) := by decide +kernel
theorem dX9_count_6 : decode cX9_count 6 = .ok (.ifCond .eq 11, 3) := by decide +kernel
theorem dX9_count_9 : decode cX9_count 9 = .ok (.aload_n 0, 1) := by decide +kernel
theorem dX9_count_10 : decode cX9_count 10 = .ok (.iload_n 1, 1) := by decide +kernel
theorem dX9_count_11 : decode cX9_count 11 = .ok (.invokevirtual 292, 3) := by decide +kernel
theorem dX9_count_14 : decode cX9_count 14 = .ok (.goto 5, 3) := by decide +kernel
theorem dX9_count_17 : decode cX9_count 17 = .ok (.bipush (-102), 2) := by decide +kernel
theorem dX9_count_19 : decode cX9_count 19 = .ok (.ireturn, 1) := by decide +kernel
theorem dX9_dateless_0 : decode cX9_dateless 0 = .ok (.iconst 0, 1) := by decide +kernel
theorem dX9_dateless_1 : decode cX9_dateless 1 = .ok (.istore_n 2, 1) := by decide +kernel
theorem dX9_dateless_2 : decode cX9_dateless 2 = .ok (.iconst 0, 1) := by decide +kernel
theorem dX9_dateless_3 : decode cX9_dateless 3 = .ok (.istore_n 3, 1) := by decide +kernel
theorem dX9_dateless_4 : decode cX9_dateless 4 = .ok (.iload_n 3, 1) := by decide +kernel
theorem dX9_dateless_5 : decode cX9_dateless 5 = .ok (.aload_n 0, 1) := by decide +kernel
theorem dX9_dateless_6 : decode cX9_dateless 6 = .ok (.getfield 62, 3) := by decide +kernel
theorem dX9_dateless_9 : decode cX9_dateless 9 = .ok (.getfield 183, 3) := by decide +kernel
theorem dX9_dateless_12 : decode cX9_dateless 12 = .ok (.if_icmp .ge 25, 3) := by decide +kernel
theorem dX9_dateless_15 : decode cX9_dateless 15 = .ok (.aload_n 0, 1) := by decide +kernel
theorem dX9_dateless_16 : decode cX9_dateless 16 = .ok (.iload_n 1, 1) := by decide +kernel
theorem dX9_dateless_17 : decode cX9_dateless 17 = .ok (.iload_n 3, 1) := by decide +kernel
theorem dX9_dateless_18 : decode cX9_dateless 18 = .ok (.iconst 0, 1) := by decide +kernel
theorem dX9_dateless_19 : decode cX9_dateless 19 = .ok (.invokevirtual 278, 3) := by decide +kernel
theorem dX9_dateless_22 : decode cX9_dateless 22 = .ok (.ifCond .ne 9, 3) := by decide +kernel
theorem dX9_dateless_25 : decode cX9_dateless 25 = .ok (.iload_n 2, 1) := by decide +kernel
theorem dX9_dateless_26 : decode cX9_dateless 26 = .ok (.iconst 1, 1) := by decide +kernel
theorem dX9_dateless_27 : decode cX9_dateless 27 = .ok (.iload_n 3, 1) := by decide +kernel
theorem dX9_dateless_28 : decode cX9_dateless 28 = .ok (.ishl, 1) := by decide +kernel
theorem dX9_dateless_29 : decode cX9_dateless 29 = .ok (.ior, 1) := by decide +kernel
theorem dX9_dateless_30 : decode cX9_dateless 30 = .ok (.istore_n 2, 1) := by decide +kernel
theorem dX9_dateless_31 : decode cX9_dateless 31 = .ok (.iinc 3 1, 3) := by decide +kernel
theorem dX9_dateless_34 : decode cX9_dateless 34 = .ok (.goto (-30), 3) := by decide +kernel
theorem dX9_dateless_37 : decode cX9_dateless 37 = .ok (.iload_n 2, 1) := by decide +kernel
theorem dX9_dateless_38 : decode cX9_dateless 38 = .ok (.ireturn, 1) := by decide +kernel
theorem dX9_dates_0 : decode cX9_dates 0 = .ok (.aload_n 0, 1) := by decide +kernel
theorem dX9_dates_1 : decode cX9_dates 1 = .ok (.iload_n 1, 1) := by decide +kernel
theorem dX9_dates_2 : decode cX9_dates 2 = .ok (.invokevirtual 160, 3) := by decide +kernel
theorem dX9_dates_5 : decode cX9_dates 5 = .ok (.ifCond .eq 14, 3) := by decide +kernel
theorem dX9_dates_8 : decode cX9_dates 8 = .ok (.aload_n 0, 1) := by decide +kernel
theorem dX9_dates_9 : decode cX9_dates 9 = .ok (.getfield 62, 3) := by decide +kernel
theorem dX9_dates_12 : decode cX9_dates 12 = .ok (.iload_n 2, 1) := by decide +kernel
theorem dX9_dates_13 : decode cX9_dates 13 = .ok (.invokevirtual 144, 3) := by decide +kernel
theorem dX9_dates_16 : decode cX9_dates 16 = .ok (.ifCond .ne 6, 3) := by decide +kernel
theorem dX9_dates_19 : decode cX9_dates 19 = .ok (.bipush (-101), 2) := by decide +kernel
theorem dX9_dates_21 : decode cX9_dates 21 = .ok (.ireturn, 1) := by decide +kernel
theorem dX9_dates_22 : decode cX9_dates 22 = .ok (.iload_n 3, 1) := by decide +kernel
theorem dX9_dates_23 : decode cX9_dates 23 = .ok (.iconst 2, 1) := by decide +kernel
theorem dX9_dates_24 : decode cX9_dates 24 = .ok (.invokestatic 126, 3) := by decide +kernel
theorem dX9_dates_27 : decode cX9_dates 27 = .ok (.ifCond .ne 6, 3) := by decide +kernel
theorem dX9_dates_30 : decode cX9_dates 30 = .ok (.bipush (-102), 2) := by decide +kernel
theorem dX9_dates_32 : decode cX9_dates 32 = .ok (.ireturn, 1) := by decide +kernel
theorem dX9_dates_33 : decode cX9_dates 33 = .ok (.aload_n 0, 1) := by decide +kernel
theorem dX9_dates_34 : decode cX9_dates 34 = .ok (.getfield 55, 3) := by decide +kernel
theorem dX9_dates_37 : decode cX9_dates 37 = .ok (.getfield 125, 3) := by decide +kernel
theorem dX9_dates_40 : decode cX9_dates 40 = .ok (.ifCond .ne 6, 3) := by decide +kernel
theorem dX9_dates_43 : decode cX9_dates 43 = .ok (.bipush (-103), 2) := by decide +kernel
theorem dX9_dates_45 : decode cX9_dates 45 = .ok (.ireturn, 1) := by decide +kernel
theorem dX9_dates_46 : decode cX9_dates 46 = .ok (.aload_n 0, 1) := by decide +kernel
theorem dX9_dates_47 : decode cX9_dates 47 = .ok (.iload_n 1, 1) := by decide +kernel
theorem dX9_dates_48 : decode cX9_dates 48 = .ok (.iload_n 2, 1) := by decide +kernel
theorem dX9_dates_49 : decode cX9_dates 49 = .ok (.iload_n 3, 1) := by decide +kernel
theorem dX9_dates_50 : decode cX9_dates 50 = .ok (.invokevirtual 278, 3) := by decide +kernel
theorem dX9_dates_53 : decode cX9_dates 53 = .ok (.ireturn, 1) := by decide +kernel
theorem dX9_datesOf_0 : decode cX9_datesOf 0 = .ok (.aload_n 0, 1) := by decide +kernel
theorem dX9_datesOf_1 : decode cX9_datesOf 1 = .ok (.getfield 62, 3) := by decide +kernel
theorem dX9_datesOf_4 : decode cX9_datesOf 4 = .ok (.getfield 150, 3) := by decide +kernel
theorem dX9_datesOf_7 : decode cX9_datesOf 7 = .ok (.iload_n 2, 1) := by decide +kernel
theorem dX9_datesOf_8 : decode cX9_datesOf 8 = .ok (.aaload, 1) := by decide +kernel
theorem dX9_datesOf_9 : decode cX9_datesOf 9 = .ok (.astore 4, 2) := by decide +kernel
theorem dX9_datesOf_11 : decode cX9_datesOf 11 = .ok (.iconst 0, 1) := by decide +kernel
theorem dX9_datesOf_12 : decode cX9_datesOf 12 = .ok (.aload 4, 2) := by decide +kernel
theorem dX9_datesOf_14 : decode cX9_datesOf 14 = .ok (.iconst 2, 1) := by decide +kernel
theorem dX9_datesOf_15 : decode cX9_datesOf 15 = .ok (.iaload, 1) := by decide +kernel
theorem dX9_datesOf_16 : decode cX9_datesOf 16 = .ok (.aload 4, 2) := by decide +kernel
theorem dX9_datesOf_18 : decode cX9_datesOf 18 = .ok (.iconst 3, 1) := by decide +kernel
theorem dX9_datesOf_19 : decode cX9_datesOf 19 = .ok (.iaload, 1) := by decide +kernel
theorem dX9_datesOf_20 : decode cX9_datesOf 20 = .ok (.isub, 1) := by decide +kernel
theorem dX9_datesOf_21 : decode cX9_datesOf 21 = .ok (.invokestatic 270, 3) := by decide +kernel
theorem dX9_datesOf_24 : decode cX9_datesOf 24 = .ok (.istore 5, 2) := by decide +kernel
theorem dX9_datesOf_26 : decode cX9_datesOf 26 = .ok (.sipush 400, 3) := by decide +kernel
theorem dX9_datesOf_29 : decode cX9_datesOf 29 = .ok (.aload 4, 2) := by decide +kernel
theorem dX9_datesOf_31 : decode cX9_datesOf 31 = .ok (.iconst 2, 1) := by decide +kernel
theorem dX9_datesOf_32 : decode cX9_datesOf 32 = .ok (.iaload, 1) := by decide +kernel
theorem dX9_datesOf_33 : decode cX9_datesOf 33 = .ok (.aload 4, 2) := by decide +kernel
theorem dX9_datesOf_35 : decode cX9_datesOf 35 = .ok (.iconst 3, 1) := by decide +kernel
theorem dX9_datesOf_36 : decode cX9_datesOf 36 = .ok (.iaload, 1) := by decide +kernel
theorem dX9_datesOf_37 : decode cX9_datesOf 37 = .ok (.iadd, 1) := by decide +kernel
theorem dX9_datesOf_38 : decode cX9_datesOf 38 = .ok (.invokestatic 275, 3) := by decide +kernel
theorem dX9_datesOf_41 : decode cX9_datesOf 41 = .ok (.istore 6, 2) := by decide +kernel
theorem dX9_datesOf_43 : decode cX9_datesOf 43 = .ok (.aload_n 0, 1) := by decide +kernel
theorem dX9_datesOf_44 : decode cX9_datesOf 44 = .ok (.aload 4, 2) := by decide +kernel
theorem dX9_datesOf_46 : decode cX9_datesOf 46 = .ok (.iconst 5, 1) := by decide +kernel
theorem dX9_datesOf_47 : decode cX9_datesOf 47 = .ok (.iaload, 1) := by decide +kernel
theorem dX9_datesOf_48 : decode cX9_datesOf 48 = .ok (.invokevirtual 137, 3) := by decide +kernel
theorem dX9_datesOf_51 : decode cX9_datesOf 51 = .ok (.ifCond .eq 19, 3) := by decide +kernel
theorem dX9_datesOf_54 : decode cX9_datesOf 54 = .ok (.iload 5, 2) := by decide +kernel
theorem dX9_datesOf_56 : decode cX9_datesOf 56 = .ok (.aload_n 0, 1) := by decide +kernel
theorem dX9_datesOf_57 : decode cX9_datesOf 57 = .ok (.getfield 42, 3) := by decide +kernel
theorem dX9_datesOf_60 : decode cX9_datesOf 60 = .ok (.aload 4, 2) := by decide +kernel
theorem dX9_datesOf_62 : decode cX9_datesOf 62 = .ok (.iconst 5, 1) := by decide +kernel
theorem dX9_datesOf_63 : decode cX9_datesOf 63 = .ok (.iaload, 1) := by decide +kernel
theorem dX9_datesOf_64 : decode cX9_datesOf 64 = .ok (.iaload, 1) := by decide +kernel
theorem dX9_datesOf_65 : decode cX9_datesOf 65 = .ok (.invokestatic 270, 3) := by decide +kernel
theorem dX9_datesOf_68 : decode cX9_datesOf 68 = .ok (.istore 5, 2) := by decide +kernel
theorem dX9_datesOf_70 : decode cX9_datesOf 70 = .ok (.aload_n 0, 1) := by decide +kernel
theorem dX9_datesOf_71 : decode cX9_datesOf 71 = .ok (.iload_n 1, 1) := by decide +kernel
theorem dX9_datesOf_72 : decode cX9_datesOf 72 = .ok (.iload_n 2, 1) := by decide +kernel
theorem dX9_datesOf_73 : decode cX9_datesOf 73 = .ok (.invokevirtual 163, 3) := by decide +kernel
theorem dX9_datesOf_76 : decode cX9_datesOf 76 = .ok (.istore 7, 2) := by decide +kernel
theorem dX9_datesOf_78 : decode cX9_datesOf 78 = .ok (.aload_n 0, 1) := by decide +kernel
theorem dX9_datesOf_79 : decode cX9_datesOf 79 = .ok (.getfield 55, 3) := by decide +kernel
theorem dX9_datesOf_82 : decode cX9_datesOf 82 = .ok (.iload 7, 2) := by decide +kernel
theorem dX9_datesOf_84 : decode cX9_datesOf 84 = .ok (.invokevirtual 258, 3) := by decide +kernel
theorem dX9_datesOf_87 : decode cX9_datesOf 87 = .ok (.istore 8, 2) := by decide +kernel
theorem dX9_datesOf_89 : decode cX9_datesOf 89 = .ok (.aload_n 0, 1) := by decide +kernel
theorem dX9_datesOf_90 : decode cX9_datesOf 90 = .ok (.getfield 55, 3) := by decide +kernel
theorem dX9_datesOf_93 : decode cX9_datesOf 93 = .ok (.iload 7, 2) := by decide +kernel
theorem dX9_datesOf_95 : decode cX9_datesOf 95 = .ok (.invokevirtual 261, 3) := by decide +kernel
theorem dX9_datesOf_98 : decode cX9_datesOf 98 = .ok (.istore 9, 2) := by decide +kernel
theorem dX9_datesOf_100 : decode cX9_datesOf 100 = .ok (.iconst 0, 1) := by decide +kernel
theorem dX9_datesOf_101 : decode cX9_datesOf 101 = .ok (.istore 10, 2) := by decide +kernel
theorem dX9_datesOf_103 : decode cX9_datesOf 103 = .ok (.iconst (-1), 1) := by decide +kernel
theorem dX9_datesOf_104 : decode cX9_datesOf 104 = .ok (.istore 11, 2) := by decide +kernel
theorem dX9_datesOf_106 : decode cX9_datesOf 106 = .ok (.iconst (-1), 1) := by decide +kernel
theorem dX9_datesOf_107 : decode cX9_datesOf 107 = .ok (.istore 12, 2) := by decide +kernel
theorem dX9_datesOf_109 : decode cX9_datesOf 109 = .ok (.iload 5, 2) := by decide +kernel
theorem dX9_datesOf_111 : decode cX9_datesOf 111 = .ok (.istore 13, 2) := by decide +kernel
theorem dX9_datesOf_113 : decode cX9_datesOf 113 = .ok (.iload 13, 2) := by decide +kernel
theorem dX9_datesOf_115 : decode cX9_datesOf 115 = .ok (.iload 6, 2) := by decide +kernel
theorem dX9_datesOf_117 : decode cX9_datesOf 117 = .ok (.if_icmp .gt 47, 3) := by decide +kernel
theorem dX9_datesOf_120 : decode cX9_datesOf 120 = .ok (.aload_n 0, 1) := by decide +kernel
theorem dX9_datesOf_121 : decode cX9_datesOf 121 = .ok (.getfield 62, 3) := by decide +kernel
theorem dX9_datesOf_124 : decode cX9_datesOf 124 = .ok (.iload 13, 2) := by decide +kernel
theorem dX9_datesOf_126 : decode cX9_datesOf 126 = .ok (.iload 8, 2) := by decide +kernel
theorem dX9_datesOf_128 : decode cX9_datesOf 128 = .ok (.iload 9, 2) := by decide +kernel
theorem dX9_datesOf_130 : decode cX9_datesOf 130 = .ok (.invokevirtual 329, 3) := by decide +kernel
theorem dX9_datesOf_133 : decode cX9_datesOf 133 = .ok (.ifCond .eq 25, 3) := by decide +kernel
theorem dX9_datesOf_136 : decode cX9_datesOf 136 = .ok (.iinc 10 1, 3) := by decide +kernel
theorem dX9_datesOf_139 : decode cX9_datesOf 139 = .ok (.iload 11, 2) := by decide +kernel
theorem dX9_datesOf_141 : decode cX9_datesOf 141 = .ok (.iconst (-1), 1) := by decide +kernel
theorem dX9_datesOf_142 : decode cX9_datesOf 142 = .ok (.if_icmp .ne 8, 3) := by decide +kernel
theorem dX9_datesOf_145 : decode cX9_datesOf 145 = .ok (.iload 13, 2) := by decide +kernel
theorem dX9_datesOf_147 : decode cX9_datesOf 147 = .ok (.goto 5, 3) := by decide +kernel
theorem dX9_datesOf_150 : decode cX9_datesOf 150 = .ok (.iload 11, 2) := by decide +kernel
theorem dX9_datesOf_152 : decode cX9_datesOf 152 = .ok (.istore 11, 2) := by decide +kernel
theorem dX9_datesOf_154 : decode cX9_datesOf 154 = .ok (.iload 13, 2) := by decide +kernel
theorem dX9_datesOf_156 : decode cX9_datesOf 156 = .ok (.istore 12, 2) := by decide +kernel
theorem dX9_datesOf_158 : decode cX9_datesOf 158 = .ok (.iinc 13 1, 3) := by decide +kernel
theorem dX9_datesOf_161 : decode cX9_datesOf 161 = .ok (.goto (-48), 3) := by decide +kernel
theorem dX9_datesOf_164 : decode cX9_datesOf 164 = .ok (.iload_n 3, 1) := by decide +kernel
theorem dX9_datesOf_165 : decode cX9_datesOf 165 = .ok (.ifCond .ne 6, 3) := by decide +kernel
theorem dX9_datesOf_168 : decode cX9_datesOf 168 = .ok (.iload 10, 2) := by decide +kernel
theorem dX9_datesOf_170 : decode cX9_datesOf 170 = .ok (.ireturn, 1) := by decide +kernel
theorem dX9_datesOf_171 : decode cX9_datesOf 171 = .ok (.iload_n 3, 1) := by decide +kernel
theorem dX9_datesOf_172 : decode cX9_datesOf 172 = .ok (.iconst 1, 1) := by decide +kernel
theorem dX9_datesOf_173 : decode cX9_datesOf 173 = .ok (.if_icmp .ne 8, 3) := by decide +kernel
theorem dX9_datesOf_176 : decode cX9_datesOf 176 = .ok (.iload 11, 2) := by decide +kernel
theorem dX9_datesOf_178 : decode cX9_datesOf 178 = .ok (.goto 5, 3) := by decide +kernel
theorem dX9_datesOf_181 : decode cX9_datesOf 181 = .ok (.iload 12, 2) := by decide +kernel
theorem dX9_datesOf_183 : decode cX9_datesOf 183 = .ok (.ireturn, 1) := by decide +kernel
theorem dX9_dealByWindows_0 : decode cX9_dealByWindows 0 = .ok (.aload_n 0, 1) := by decide +kernel
theorem dX9_dealByWindows_1 : decode cX9_dealByWindows 1 = .ok (.iload_n 1, 1) := by decide +kernel
theorem dX9_dealByWindows_2 : decode cX9_dealByWindows 2 = .ok (.invokevirtual 186, 3) := by decide +kernel
theorem dX9_dealByWindows_5 : decode cX9_dealByWindows 5 = .ok (.aload_n 0, 1) := by decide +kernel
theorem dX9_dealByWindows_6 : decode cX9_dealByWindows 6 = .ok (.getfield 62, 3) := by decide +kernel
theorem dX9_dealByWindows_9 : decode cX9_dealByWindows 9 = .ok (.invokevirtual 190, 3) := by decide +kernel
theorem dX9_dealByWindows_12 : decode cX9_dealByWindows 12 = .ok (.istore_n 3, 1) := by decide +kernel
theorem dX9_dealByWindows_13 : decode cX9_dealByWindows 13 = .ok (.iconst (-1), 1) := by decide +kernel
theorem dX9_dealByWindows_14 : decode cX9_dealByWindows 14 = .ok (.istore 4, 2) := by decide +kernel
theorem dX9_dealByWindows_16 : decode cX9_dealByWindows 16 = .ok (.iconst 0, 1) := by decide +kernel
theorem dX9_dealByWindows_17 : decode cX9_dealByWindows 17 = .ok (.istore 5, 2) := by decide +kernel
theorem dX9_dealByWindows_19 : decode cX9_dealByWindows 19 = .ok (.iload 5, 2) := by decide +kernel
theorem dX9_dealByWindows_21 : decode cX9_dealByWindows 21 = .ok (.iload_n 2, 1) := by decide +kernel
theorem dX9_dealByWindows_22 : decode cX9_dealByWindows 22 = .ok (.if_icmp .gt 48, 3) := by decide +kernel
theorem dX9_dealByWindows_25 : decode cX9_dealByWindows 25 = .ok (.aload_n 0, 1) := by decide +kernel
theorem dX9_dealByWindows_26 : decode cX9_dealByWindows 26 = .ok (.getfield 62, 3) := by decide +kernel
theorem dX9_dealByWindows_29 : decode cX9_dealByWindows 29 = .ok (.iload 5, 2) := by decide +kernel
theorem dX9_dealByWindows_31 : decode cX9_dealByWindows 31 = .ok (.invokevirtual 194, 3) := by decide +kernel
theorem dX9_dealByWindows_34 : decode cX9_dealByWindows 34 = .ok (.istore 6, 2) := by decide +kernel
theorem dX9_dealByWindows_36 : decode cX9_dealByWindows 36 = .ok (.iload 6, 2) := by decide +kernel
theorem dX9_dealByWindows_38 : decode cX9_dealByWindows 38 = .ok (.iload 4, 2) := by decide +kernel
theorem dX9_dealByWindows_40 : decode cX9_dealByWindows 40 = .ok (.if_icmp .eq 24, 3) := by decide +kernel
theorem dX9_dealByWindows_43 : decode cX9_dealByWindows 43 = .ok (.aload_n 0, 1) := by decide +kernel
theorem dX9_dealByWindows_44 : decode cX9_dealByWindows 44 = .ok (.getfield 72, 3) := by decide +kernel
theorem dX9_dealByWindows_47 : decode cX9_dealByWindows 47 = .ok (.iload_n 3, 1) := by decide +kernel
theorem dX9_dealByWindows_48 : decode cX9_dealByWindows 48 = .ok (.iload 6, 2) := by decide +kernel
theorem dX9_dealByWindows_50 : decode cX9_dealByWindows 50 = .ok (.invokevirtual 205, 3) := by decide +kernel
theorem dX9_dealByWindows_53 : decode cX9_dealByWindows 53 = .ok (.aload_n 0, 1) := by decide +kernel
theorem dX9_dealByWindows_54 : decode cX9_dealByWindows 54 = .ok (.getfield 72, 3) := by decide +kernel
theorem dX9_dealByWindows_57 : decode cX9_dealByWindows 57 = .ok (.invokevirtual 326, 3) := by decide +kernel
theorem dX9_dealByWindows_60 : decode cX9_dealByWindows 60 = .ok (.iload 6, 2) := by decide +kernel
theorem dX9_dealByWindows_62 : decode cX9_dealByWindows 62 = .ok (.istore 4, 2) := by decide +kernel
theorem dX9_dealByWindows_64 : decode cX9_dealByWindows 64 = .ok (.iinc 5 1, 3) := by decide +kernel
theorem dX9_dealByWindows_67 : decode cX9_dealByWindows 67 = .ok (.goto (-48), 3) := by decide +kernel
theorem dX9_dealByWindows_70 : decode cX9_dealByWindows 70 = .ok (.return_, 1) := by decide +kernel
theorem dX9_digest_0 : decode cX9_digest 0 = .ok (.ldc2_w 295, 3) := by decide +kernel
theorem dX9_digest_3 : decode cX9_digest 3 = .ok (.lstore_n 1, 1) := by decide +kernel
theorem dX9_digest_4 : decode cX9_digest 4 = .ok (.iconst 0, 1) := by decide +kernel
theorem dX9_digest_5 : decode cX9_digest 5 = .ok (.istore_n 3, 1) := by decide +kernel
theorem dX9_digest_6 : decode cX9_digest 6 = .ok (.iload_n 3, 1) := by decide +kernel
theorem dX9_digest_7 : decode cX9_digest 7 = .ok (.aload_n 0, 1) := by decide +kernel
theorem dX9_digest_8 : decode cX9_digest 8 = .ok (.getfield 130, 3) := by decide +kernel
theorem dX9_digest_11 : decode cX9_digest 11 = .ok (.if_icmp .ge 31, 3) := by decide +kernel
theorem dX9_digest_14 : decode cX9_digest 14 = .ok (.lload_n 1, 1) := by decide +kernel
theorem dX9_digest_15 : decode cX9_digest 15 = .ok (.aload_n 0, 1) := by decide +kernel
theorem dX9_digest_16 : decode cX9_digest 16 = .ok (.getfield 42, 3) := by decide +kernel
theorem dX9_digest_19 : decode cX9_digest 19 = .ok (.iload_n 3, 1) := by decide +kernel
theorem dX9_digest_20 : decode cX9_digest 20 = .ok (.iaload, 1) := by decide +kernel
theorem dX9_digest_21 : decode cX9_digest 21 = .ok (.i2l, 1) := by decide +kernel
theorem dX9_digest_22 : decode cX9_digest 22 = .ok (.invokestatic 297, 3) := by decide +kernel
theorem dX9_digest_25 : decode cX9_digest 25 = .ok (.aload_n 0, 1) := by decide +kernel
theorem dX9_digest_26 : decode cX9_digest 26 = .ok (.getfield 46, 3) := by decide +kernel
theorem dX9_digest_29 : decode cX9_digest 29 = .ok (.iload_n 3, 1) := by decide +kernel
theorem dX9_digest_30 : decode cX9_digest 30 = .ok (.iaload, 1) := by decide +kernel
theorem dX9_digest_31 : decode cX9_digest 31 = .ok (.i2l, 1) := by decide +kernel
theorem dX9_digest_32 : decode cX9_digest 32 = .ok (.invokestatic 297, 3) := by decide +kernel
theorem dX9_digest_35 : decode cX9_digest 35 = .ok (.lstore_n 1, 1) := by decide +kernel
theorem dX9_digest_36 : decode cX9_digest 36 = .ok (.iinc 3 1, 3) := by decide +kernel
theorem dX9_digest_39 : decode cX9_digest 39 = .ok (.goto (-33), 3) := by decide +kernel
theorem dX9_digest_42 : decode cX9_digest 42 = .ok (.aload_n 0, 1) := by decide +kernel
theorem dX9_digest_43 : decode cX9_digest 43 = .ok (.lload_n 1, 1) := by decide +kernel
theorem dX9_digest_44 : decode cX9_digest 44 = .ok (.invokevirtual 301, 3) := by decide +kernel
theorem dX9_digest_47 : decode cX9_digest 47 = .ok (.lstore_n 1, 1) := by decide +kernel
theorem dX9_digest_48 : decode cX9_digest 48 = .ok (.iconst 0, 1) := by decide +kernel
theorem dX9_digest_49 : decode cX9_digest 49 = .ok (.istore_n 3, 1) := by decide +kernel
theorem dX9_digest_50 : decode cX9_digest 50 = .ok (.iload_n 3, 1) := by decide +kernel
theorem dX9_digest_51 : decode cX9_digest 51 = .ok (.aload_n 0, 1) := by decide +kernel
theorem dX9_digest_52 : decode cX9_digest 52 = .ok (.getfield 62, 3) := by decide +kernel
theorem dX9_digest_55 : decode cX9_digest 55 = .ok (.getfield 166, 3) := by decide +kernel
theorem dX9_digest_58 : decode cX9_digest 58 = .ok (.if_icmp .ge 24, 3) := by decide +kernel
theorem dX9_digest_61 : decode cX9_digest 61 = .ok (.lload_n 1, 1) := by decide +kernel
theorem dX9_digest_62 : decode cX9_digest 62 = .ok (.aload_n 0, 1) := by decide +kernel
theorem dX9_digest_63 : decode cX9_digest 63 = .ok (.getfield 62, 3) := by decide +kernel
theorem dX9_digest_66 : decode cX9_digest 66 = .ok (.getfield 169, 3) := by decide +kernel
theorem dX9_digest_69 : decode cX9_digest 69 = .ok (.iload_n 3, 1) := by decide +kernel
theorem dX9_digest_70 : decode cX9_digest 70 = .ok (.iaload, 1) := by decide +kernel
theorem dX9_digest_71 : decode cX9_digest 71 = .ok (.i2l, 1) := by decide +kernel
theorem dX9_digest_72 : decode cX9_digest 72 = .ok (.invokestatic 297, 3) := by decide +kernel
theorem dX9_digest_75 : decode cX9_digest 75 = .ok (.lstore_n 1, 1) := by decide +kernel
theorem dX9_digest_76 : decode cX9_digest 76 = .ok (.iinc 3 1, 3) := by decide +kernel
theorem dX9_digest_79 : decode cX9_digest 79 = .ok (.goto (-29), 3) := by decide +kernel
theorem dX9_digest_82 : decode cX9_digest 82 = .ok (.aload_n 0, 1) := by decide +kernel
theorem dX9_digest_83 : decode cX9_digest 83 = .ok (.lload_n 1, 1) := by decide +kernel
theorem dX9_digest_84 : decode cX9_digest 84 = .ok (.invokevirtual 305, 3) := by decide +kernel
theorem dX9_digest_87 : decode cX9_digest 87 = .ok (.lstore_n 1, 1) := by decide +kernel
theorem dX9_digest_88 : decode cX9_digest 88 = .ok (.aload_n 0, 1) := by decide +kernel
theorem dX9_digest_89 : decode cX9_digest 89 = .ok (.lload_n 1, 1) := by decide +kernel
theorem dX9_digest_90 : decode cX9_digest 90 = .ok (.invokevirtual 308, 3) := by decide +kernel
theorem dX9_digest_93 : decode cX9_digest 93 = .ok (.lstore_n 1, 1) := by decide +kernel
theorem dX9_digest_94 : decode cX9_digest 94 = .ok (.iconst 0, 1) := by decide +kernel
theorem dX9_digest_95 : decode cX9_digest 95 = .ok (.istore_n 3, 1) := by decide +kernel
theorem dX9_digest_96 : decode cX9_digest 96 = .ok (.iload_n 3, 1) := by decide +kernel
theorem dX9_digest_97 : decode cX9_digest 97 = .ok (.aload_n 0, 1) := by decide +kernel
theorem dX9_digest_98 : decode cX9_digest 98 = .ok (.getfield 12, 3) := by decide +kernel
theorem dX9_digest_101 : decode cX9_digest 101 = .ok (.getfield 87, 3) := by decide +kernel
theorem dX9_digest_104 : decode cX9_digest 104 = .ok (.if_icmp .ge 24, 3) := by decide +kernel
theorem dX9_digest_107 : decode cX9_digest 107 = .ok (.lload_n 1, 1) := by decide +kernel
theorem dX9_digest_108 : decode cX9_digest 108 = .ok (.aload_n 0, 1) := by decide +kernel
theorem dX9_digest_109 : decode cX9_digest 109 = .ok (.getfield 12, 3) := by decide +kernel
theorem dX9_digest_112 : decode cX9_digest 112 = .ok (.getfield 311, 3) := by decide +kernel
theorem dX9_digest_115 : decode cX9_digest 115 = .ok (.iload_n 3, 1) := by decide +kernel
theorem dX9_digest_116 : decode cX9_digest 116 = .ok (.iaload, 1) := by decide +kernel
theorem dX9_digest_117 : decode cX9_digest 117 = .ok (.i2l, 1) := by decide +kernel
theorem dX9_digest_118 : decode cX9_digest 118 = .ok (.invokestatic 297, 3) := by decide +kernel
theorem dX9_digest_121 : decode cX9_digest 121 = .ok (.lstore_n 1, 1) := by decide +kernel
theorem dX9_digest_122 : decode cX9_digest 122 = .ok (.iinc 3 1, 3) := by decide +kernel
theorem dX9_digest_125 : decode cX9_digest 125 = .ok (.goto (-29), 3) := by decide +kernel
theorem dX9_digest_128 : decode cX9_digest 128 = .ok (.iconst 0, 1) := by decide +kernel
theorem dX9_digest_129 : decode cX9_digest 129 = .ok (.istore_n 3, 1) := by decide +kernel
theorem dX9_digest_130 : decode cX9_digest 130 = .ok (.iload_n 3, 1) := by decide +kernel
theorem dX9_digest_131 : decode cX9_digest 131 = .ok (.bipush 8, 2) := by decide +kernel
theorem dX9_digest_133 : decode cX9_digest 133 = .ok (.if_icmp .gt 20, 3) := by decide +kernel
theorem dX9_digest_136 : decode cX9_digest 136 = .ok (.lload_n 1, 1) := by decide +kernel
theorem dX9_digest_137 : decode cX9_digest 137 = .ok (.aload_n 0, 1) := by decide +kernel
theorem dX9_digest_138 : decode cX9_digest 138 = .ok (.iload_n 3, 1) := by decide +kernel
theorem dX9_digest_139 : decode cX9_digest 139 = .ok (.invokevirtual 292, 3) := by decide +kernel
theorem dX9_digest_142 : decode cX9_digest 142 = .ok (.i2l, 1) := by decide +kernel
theorem dX9_digest_143 : decode cX9_digest 143 = .ok (.invokestatic 297, 3) := by decide +kernel
theorem dX9_digest_146 : decode cX9_digest 146 = .ok (.lstore_n 1, 1) := by decide +kernel
theorem dX9_digest_147 : decode cX9_digest 147 = .ok (.iinc 3 1, 3) := by decide +kernel
theorem dX9_digest_150 : decode cX9_digest 150 = .ok (.goto (-20), 3) := by decide +kernel
theorem dX9_digest_153 : decode cX9_digest 153 = .ok (.lload_n 1, 1) := by decide +kernel
theorem dX9_digest_154 : decode cX9_digest 154 = .ok (.lreturn, 1) := by decide +kernel
theorem dX9_fault_0 : decode cX9_fault 0 = .ok (.iload_n 1, 1) := by decide +kernel
theorem dX9_fault_1 : decode cX9_fault 1 = .ok (.tableswitch 63 0 2 #[27, 39, 51], 27) := by decide +kernel
theorem dX9_fault_28 : decode cX9_fault 28 = .ok (.aload_n 0, 1) := by decide +kernel
theorem dX9_fault_29 : decode cX9_fault 29 = .ok (.getfield 12, 3) := by decide +kernel
theorem dX9_fault_32 : decode cX9_fault 32 = .ok (.aload_n 0, 1) := by decide +kernel
theorem dX9_fault_33 : decode cX9_fault 33 = .ok (.getfield 19, 3) := by decide +kernel
theorem dX9_fault_36 : decode cX9_fault 36 = .ok (.invokevirtual 95, 3) := by decide +kernel
theorem dX9_fault_39 : decode cX9_fault 39 = .ok (.ireturn, 1) := by decide +kernel
theorem dX9_fault_40 : decode cX9_fault 40 = .ok (.aload_n 0, 1) := by decide +kernel
theorem dX9_fault_41 : decode cX9_fault 41 = .ok (.getfield 12, 3) := by decide +kernel
theorem dX9_fault_44 : decode cX9_fault 44 = .ok (.aload_n 0, 1) := by decide +kernel
theorem dX9_fault_45 : decode cX9_fault 45 = .ok (.getfield 26, 3) := by decide +kernel
theorem dX9_fault_48 : decode cX9_fault 48 = .ok (.invokevirtual 95, 3) := by decide +kernel
theorem dX9_fault_51 : decode cX9_fault 51 = .ok (.ireturn, 1) := by decide +kernel
theorem dX9_fault_52 : decode cX9_fault 52 = .ok (.aload_n 0, 1) := by decide +kernel
theorem dX9_fault_53 : decode cX9_fault 53 = .ok (.getfield 12, 3) := by decide +kernel
theorem dX9_fault_56 : decode cX9_fault 56 = .ok (.aload_n 0, 1) := by decide +kernel
theorem dX9_fault_57 : decode cX9_fault 57 = .ok (.getfield 33, 3) := by decide +kernel
theorem dX9_fault_60 : decode cX9_fault 60 = .ok (.invokevirtual 95, 3) := by decide +kernel
theorem dX9_fault_63 : decode cX9_fault 63 = .ok (.ireturn, 1) := by decide +kernel
theorem dX9_fault_64 : decode cX9_fault 64 = .ok (.bipush (-102), 2) := by decide +kernel
theorem dX9_fault_66 : decode cX9_fault 66 = .ok (.ireturn, 1) := by decide +kernel
theorem dX9_hangs_0 : decode cX9_hangs 0 = .ok (.aload_n 0, 1) := by decide +kernel
theorem dX9_hangs_1 : decode cX9_hangs 1 = .ok (.iload_n 1, 1) := by decide +kernel
theorem dX9_hangs_2 : decode cX9_hangs 2 = .ok (.iload_n 2, 1) := by decide +kernel
theorem dX9_hangs_3 : decode cX9_hangs 3 = .ok (.invokevirtual 233, 3) := by decide +kernel
theorem dX9_hangs_6 : decode cX9_hangs 6 = .ok (.istore_n 3, 1) := by decide +kernel
theorem dX9_hangs_7 : decode cX9_hangs 7 = .ok (.iload_n 3, 1) := by decide +kernel
theorem dX9_hangs_8 : decode cX9_hangs 8 = .ok (.ifCond .eq 5, 3) := by decide +kernel
theorem dX9_hangs_11 : decode cX9_hangs 11 = .ok (.iload_n 3, 1) := by decide +kernel
theorem dX9_hangs_12 : decode cX9_hangs 12 = .ok (.ireturn, 1) := by decide +kernel
theorem dX9_hangs_13 : decode cX9_hangs 13 = .ok (.aload_n 0, 1) := by decide +kernel
theorem dX9_hangs_14 : decode cX9_hangs 14 = .ok (.dup, 1) := by decide +kernel
theorem dX9_hangs_15 : decode cX9_hangs 15 = .ok (.getfield 236, 3) := by decide +kernel
theorem dX9_hangs_18 : decode cX9_hangs 18 = .ok (.iconst 1, 1) := by decide +kernel
theorem dX9_hangs_19 : decode cX9_hangs 19 = .ok (.iadd, 1) := by decide +kernel
theorem dX9_hangs_20 : decode cX9_hangs 20 = .ok (.putfield 236, 3) := by decide +kernel
theorem dX9_hangs_23 : decode cX9_hangs 23 = .ok (.aload_n 0, 1) := by decide +kernel
theorem dX9_hangs_24 : decode cX9_hangs 24 = .ok (.iload_n 1, 1) := by decide +kernel
theorem dX9_hangs_25 : decode cX9_hangs 25 = .ok (.invokevirtual 186, 3) := by decide +kernel
theorem dX9_hangs_28 : decode cX9_hangs 28 = .ok (.aload_n 0, 1) := by decide +kernel
theorem dX9_hangs_29 : decode cX9_hangs 29 = .ok (.getfield 72, 3) := by decide +kernel
theorem dX9_hangs_32 : decode cX9_hangs 32 = .ok (.aload_n 0, 1) := by decide +kernel
theorem dX9_hangs_33 : decode cX9_hangs 33 = .ok (.getfield 62, 3) := by decide +kernel
theorem dX9_hangs_36 : decode cX9_hangs 36 = .ok (.invokevirtual 190, 3) := by decide +kernel
theorem dX9_hangs_39 : decode cX9_hangs 39 = .ok (.aload_n 0, 1) := by decide +kernel
theorem dX9_hangs_40 : decode cX9_hangs 40 = .ok (.getfield 62, 3) := by decide +kernel
theorem dX9_hangs_43 : decode cX9_hangs 43 = .ok (.iload_n 2, 1) := by decide +kernel
theorem dX9_hangs_44 : decode cX9_hangs 44 = .ok (.invokevirtual 194, 3) := by decide +kernel
theorem dX9_hangs_47 : decode cX9_hangs 47 = .ok (.invokevirtual 239, 3) := by decide +kernel
theorem dX9_hangs_50 : decode cX9_hangs 50 = .ok (.ireturn, 1) := by decide +kernel
theorem dX9_howMany_0 : decode cX9_howMany 0 = .ok (.iload_n 1, 1) := by decide +kernel
theorem dX9_howMany_1 : decode cX9_howMany 1 = .ok (.tableswitch 102 0 7 #[47, 52, 57, 65, 70, 78, 86, 94], 47) := by decide +kernel
theorem dX9_howMany_48 : decode cX9_howMany 48 = .ok (.aload_n 0, 1) := by decide +kernel
theorem dX9_howMany_49 : decode cX9_howMany 49 = .ok (.getfield 103, 3) := by decide +kernel
theorem dX9_howMany_52 : decode cX9_howMany 52 = .ok (.ireturn, 1) := by decide +kernel
theorem dX9_howMany_53 : decode cX9_howMany 53 = .ok (.aload_n 0, 1) := by decide +kernel
theorem dX9_howMany_54 : decode cX9_howMany 54 = .ok (.getfield 130, 3) := by decide +kernel
theorem dX9_howMany_57 : decode cX9_howMany 57 = .ok (.ireturn, 1) := by decide +kernel
theorem dX9_howMany_58 : decode cX9_howMany 58 = .ok (.aload_n 0, 1) := by decide +kernel
theorem dX9_howMany_59 : decode cX9_howMany 59 = .ok (.getfield 62, 3) := by decide +kernel
theorem dX9_howMany_62 : decode cX9_howMany 62 = .ok (.getfield 183, 3) := by decide +kernel
theorem dX9_howMany_65 : decode cX9_howMany 65 = .ok (.ireturn, 1) := by decide +kernel
theorem dX9_howMany_66 : decode cX9_howMany 66 = .ok (.aload_n 0, 1) := by decide +kernel
theorem dX9_howMany_67 : decode cX9_howMany 67 = .ok (.getfield 115, 3) := by decide +kernel
theorem dX9_howMany_70 : decode cX9_howMany 70 = .ok (.ireturn, 1) := by decide +kernel
theorem dX9_howMany_71 : decode cX9_howMany 71 = .ok (.aload_n 0, 1) := by decide +kernel
theorem dX9_howMany_72 : decode cX9_howMany 72 = .ok (.getfield 62, 3) := by decide +kernel
theorem dX9_howMany_75 : decode cX9_howMany 75 = .ok (.getfield 166, 3) := by decide +kernel
theorem dX9_howMany_78 : decode cX9_howMany 78 = .ok (.ireturn, 1) := by decide +kernel
theorem dX9_howMany_79 : decode cX9_howMany 79 = .ok (.aload_n 0, 1) := by decide +kernel
theorem dX9_howMany_80 : decode cX9_howMany 80 = .ok (.getfield 55, 3) := by decide +kernel
theorem dX9_howMany_83 : decode cX9_howMany 83 = .ok (.getfield 125, 3) := by decide +kernel
theorem dX9_howMany_86 : decode cX9_howMany 86 = .ok (.ireturn, 1) := by decide +kernel
theorem dX9_howMany_87 : decode cX9_howMany 87 = .ok (.aload_n 0, 1) := by decide +kernel
theorem dX9_howMany_88 : decode cX9_howMany 88 = .ok (.getfield 62, 3) := by decide +kernel
theorem dX9_howMany_91 : decode cX9_howMany 91 = .ok (.getfield 248, 3) := by decide +kernel
theorem dX9_howMany_94 : decode cX9_howMany 94 = .ok (.ireturn, 1) := by decide +kernel
theorem dX9_howMany_95 : decode cX9_howMany 95 = .ok (.aload_n 0, 1) := by decide +kernel
theorem dX9_howMany_96 : decode cX9_howMany 96 = .ok (.getfield 12, 3) := by decide +kernel
theorem dX9_howMany_99 : decode cX9_howMany 99 = .ok (.getfield 87, 3) := by decide +kernel
theorem dX9_howMany_102 : decode cX9_howMany 102 = .ok (.ireturn, 1) := by decide +kernel
theorem dX9_howMany_103 : decode cX9_howMany 103 = .ok (.aload_n 0, 1) := by decide +kernel
theorem dX9_howMany_104 : decode cX9_howMany 104 = .ok (.getfield 236, 3) := by decide +kernel
theorem dX9_howMany_107 : decode cX9_howMany 107 = .ok (.ireturn, 1) := by decide +kernel
theorem dX9_ice_0 : decode cX9_ice 0 = .ok (.iload_n 1, 1) := by decide +kernel
theorem dX9_ice_1 : decode cX9_ice 1 = .ok (.sipush 400, 3) := by decide +kernel
theorem dX9_ice_4 : decode cX9_ice 4 = .ok (.invokestatic 126, 3) := by decide +kernel
theorem dX9_ice_7 : decode cX9_ice 7 = .ok (.ifCond .ne 6, 3) := by decide +kernel
theorem dX9_ice_10 : decode cX9_ice 10 = .ok (.bipush (-102), 2) := by decide +kernel
theorem dX9_ice_12 : decode cX9_ice 12 = .ok (.ireturn, 1) := by decide +kernel
theorem dX9_ice_13 : decode cX9_ice 13 = .ok (.iload_n 2, 1) := by decide +kernel
theorem dX9_ice_14 : decode cX9_ice 14 = .ok (.iconst (-1), 1) := by decide +kernel
theorem dX9_ice_15 : decode cX9_ice 15 = .ok (.if_icmp .ne 19, 3) := by decide +kernel
theorem dX9_ice_18 : decode cX9_ice 18 = .ok (.aload_n 0, 1) := by decide +kernel
theorem dX9_ice_19 : decode cX9_ice 19 = .ok (.getfield 62, 3) := by decide +kernel
theorem dX9_ice_22 : decode cX9_ice 22 = .ok (.iload_n 1, 1) := by decide +kernel
theorem dX9_ice_23 : decode cX9_ice 23 = .ok (.invokevirtual 245, 3) := by decide +kernel
theorem dX9_ice_26 : decode cX9_ice 26 = .ok (.aload_n 0, 1) := by decide +kernel
theorem dX9_ice_27 : decode cX9_ice 27 = .ok (.getfield 62, 3) := by decide +kernel
theorem dX9_ice_30 : decode cX9_ice 30 = .ok (.getfield 248, 3) := by decide +kernel
theorem dX9_ice_33 : decode cX9_ice 33 = .ok (.ireturn, 1) := by decide +kernel
theorem dX9_ice_34 : decode cX9_ice 34 = .ok (.iload_n 2, 1) := by decide +kernel
theorem dX9_ice_35 : decode cX9_ice 35 = .ok (.iconst 5, 1) := by decide +kernel
theorem dX9_ice_36 : decode cX9_ice 36 = .ok (.invokestatic 126, 3) := by decide +kernel
theorem dX9_ice_39 : decode cX9_ice 39 = .ok (.ifCond .eq 16, 3) := by decide +kernel
theorem dX9_ice_42 : decode cX9_ice 42 = .ok (.iload_n 3, 1) := by decide +kernel
theorem dX9_ice_43 : decode cX9_ice 43 = .ok (.iconst 5, 1) := by decide +kernel
theorem dX9_ice_44 : decode cX9_ice 44 = .ok (.invokestatic 126, 3) := by decide +kernel
theorem dX9_ice_47 : decode cX9_ice 47 = .ok (.ifCond .eq 8, 3) := by decide +kernel
theorem dX9_ice_50 : decode cX9_ice 50 = .ok (.iload_n 3, 1) := by decide +kernel
theorem dX9_ice_51 : decode cX9_ice 51 = .ok (.iload_n 2, 1) := by decide +kernel
theorem dX9_ice_52 : decode cX9_ice 52 = .ok (.if_icmp .ge 6, 3) := by decide +kernel
theorem dX9_ice_55 : decode cX9_ice 55 = .ok (.bipush (-102), 2) := by decide +kernel
theorem dX9_ice_57 : decode cX9_ice 57 = .ok (.ireturn, 1) := by decide +kernel
theorem dX9_ice_58 : decode cX9_ice 58 = .ok (.aload_n 0, 1) := by decide +kernel
theorem dX9_ice_59 : decode cX9_ice 59 = .ok (.getfield 62, 3) := by decide +kernel
theorem dX9_ice_62 : decode cX9_ice 62 = .ok (.getfield 251, 3) := by decide +kernel
theorem dX9_ice_65 : decode cX9_ice 65 = .ok (.iload_n 1, 1) := by decide +kernel
theorem dX9_ice_66 : decode cX9_ice 66 = .ok (.iaload, 1) := by decide +kernel
theorem dX9_ice_67 : decode cX9_ice 67 = .ok (.iconst (-1), 1) := by decide +kernel
theorem dX9_ice_68 : decode cX9_ice 68 = .ok (.if_icmp .ne 18, 3) := by decide +kernel
theorem dX9_ice_71 : decode cX9_ice 71 = .ok (.aload_n 0, 1) := by decide +kernel
theorem dX9_ice_72 : decode cX9_ice 72 = .ok (.getfield 62, 3) := by decide +kernel
theorem dX9_ice_75 : decode cX9_ice 75 = .ok (.getfield 248, 3) := by decide +kernel
theorem dX9_ice_78 : decode cX9_ice 78 = .ok (.bipush 40, 2) := by decide +kernel
theorem dX9_ice_80 : decode cX9_ice 80 = .ok (.if_icmp .lt 6, 3) := by decide +kernel
theorem dX9_ice_83 : decode cX9_ice 83 = .ok (.bipush (-104), 2) := by decide +kernel
theorem dX9_ice_85 : decode cX9_ice 85 = .ok (.ireturn, 1) := by decide +kernel
theorem dX9_ice_86 : decode cX9_ice 86 = .ok (.aload_n 0, 1) := by decide +kernel
theorem dX9_ice_87 : decode cX9_ice 87 = .ok (.getfield 62, 3) := by decide +kernel
theorem dX9_ice_90 : decode cX9_ice 90 = .ok (.iload_n 1, 1) := by decide +kernel
theorem dX9_ice_91 : decode cX9_ice 91 = .ok (.iload_n 2, 1) := by decide +kernel
theorem dX9_ice_92 : decode cX9_ice 92 = .ok (.iload_n 3, 1) := by decide +kernel
theorem dX9_ice_93 : decode cX9_ice 93 = .ok (.invokevirtual 254, 3) := by decide +kernel
theorem dX9_ice_96 : decode cX9_ice 96 = .ok (.aload_n 0, 1) := by decide +kernel
theorem dX9_ice_97 : decode cX9_ice 97 = .ok (.getfield 62, 3) := by decide +kernel
theorem dX9_ice_100 : decode cX9_ice 100 = .ok (.getfield 248, 3) := by decide +kernel
theorem dX9_ice_103 : decode cX9_ice 103 = .ok (.ireturn, 1) := by decide +kernel
theorem dX9_image_0 : decode cX9_image 0 = .ok (.aload_n 0, 1) := by decide +kernel
theorem dX9_image_1 : decode cX9_image 1 = .ok (.getfield 66, 3) := by decide +kernel
theorem dX9_image_4 : decode cX9_image 4 = .ok (.aload_n 0, 1) := by decide +kernel
theorem dX9_image_5 : decode cX9_image 5 = .ok (.getfield 62, 3) := by decide +kernel
theorem dX9_image_8 : decode cX9_image 8 = .ok (.invokevirtual 285, 3) := by decide +kernel
theorem dX9_image_11 : decode cX9_image 11 = .ok (.aload_n 0, 1) := by decide +kernel
theorem dX9_image_12 : decode cX9_image 12 = .ok (.iconst 1, 1) := by decide +kernel
theorem dX9_image_13 : decode cX9_image 13 = .ok (.putfield 288, 3) := by decide +kernel
theorem dX9_image_16 : decode cX9_image 16 = .ok (.aload_n 0, 1) := by decide +kernel
theorem dX9_image_17 : decode cX9_image 17 = .ok (.getfield 62, 3) := by decide +kernel
theorem dX9_image_20 : decode cX9_image 20 = .ok (.getfield 183, 3) := by decide +kernel
theorem dX9_image_23 : decode cX9_image 23 = .ok (.ireturn, 1) := by decide +kernel
theorem dX9_inLowestTerms_0 : decode cX9_inLowestTerms 0 = .ok (.lload_n 0, 1) := by decide +kernel
theorem dX9_inLowestTerms_1 : decode cX9_inLowestTerms 1 = .ok (.lstore 5, 2) := by decide +kernel
theorem dX9_inLowestTerms_3 : decode cX9_inLowestTerms 3 = .ok (.lload_n 2, 1) := by decide +kernel
theorem dX9_inLowestTerms_4 : decode cX9_inLowestTerms 4 = .ok (.lstore 7, 2) := by decide +kernel
theorem dX9_inLowestTerms_6 : decode cX9_inLowestTerms 6 = .ok (.iconst 0, 1) := by decide +kernel
theorem dX9_inLowestTerms_7 : decode cX9_inLowestTerms 7 = .ok (.istore 9, 2) := by decide +kernel
theorem dX9_inLowestTerms_9 : decode cX9_inLowestTerms 9 = .ok (.iload 9, 2) := by decide +kernel
theorem dX9_inLowestTerms_11 : decode cX9_inLowestTerms 11 = .ok (.bipush 64, 2) := by decide +kernel
theorem dX9_inLowestTerms_13 : decode cX9_inLowestTerms 13 = .ok (.if_icmp .ge 31, 3) := by decide +kernel
theorem dX9_inLowestTerms_16 : decode cX9_inLowestTerms 16 = .ok (.lload 7, 2) := by decide +kernel
theorem dX9_inLowestTerms_18 : decode cX9_inLowestTerms 18 = .ok (.lconst 0, 1) := by decide +kernel
theorem dX9_inLowestTerms_19 : decode cX9_inLowestTerms 19 = .ok (.lcmp, 1) := by decide +kernel
theorem dX9_inLowestTerms_20 : decode cX9_inLowestTerms 20 = .ok (.ifCond .eq 24, 3) := by decide +kernel
theorem dX9_inLowestTerms_23 : decode cX9_inLowestTerms 23 = .ok (.lload 5, 2) := by decide +kernel
theorem dX9_inLowestTerms_25 : decode cX9_inLowestTerms 25 = .ok (.lload 7, 2) := by decide +kernel
theorem dX9_inLowestTerms_27 : decode cX9_inLowestTerms 27 = .ok (.lrem, 1) := by decide +kernel
theorem dX9_inLowestTerms_28 : decode cX9_inLowestTerms 28 = .ok (.lstore 10, 2) := by decide +kernel
theorem dX9_inLowestTerms_30 : decode cX9_inLowestTerms 30 = .ok (.lload 7, 2) := by decide +kernel
theorem dX9_inLowestTerms_32 : decode cX9_inLowestTerms 32 = .ok (.lstore 5, 2) := by decide +kernel
theorem dX9_inLowestTerms_34 : decode cX9_inLowestTerms 34 = .ok (.lload 10, 2) := by decide +kernel
theorem dX9_inLowestTerms_36 : decode cX9_inLowestTerms 36 = .ok (.lstore 7, 2) := by decide +kernel
theorem dX9_inLowestTerms_38 : decode cX9_inLowestTerms 38 = .ok (.iinc 9 1, 3) := by decide +kernel
theorem dX9_inLowestTerms_41 : decode cX9_inLowestTerms 41 = .ok (.goto (-32), 3) := by decide +kernel
theorem dX9_inLowestTerms_44 : decode cX9_inLowestTerms 44 = .ok (.iload 4, 2) := by decide +kernel
theorem dX9_inLowestTerms_46 : decode cX9_inLowestTerms 46 = .ok (.ifCond .ne 7, 3) := by decide +kernel
theorem dX9_inLowestTerms_49 : decode cX9_inLowestTerms 49 = .ok (.lload_n 0, 1) := by decide +kernel
theorem dX9_inLowestTerms_50 : decode cX9_inLowestTerms 50 = .ok (.goto 4, 3) := by decide +kernel
theorem dX9_inLowestTerms_53 : decode cX9_inLowestTerms 53 = .ok (.lload_n 2, 1) := by decide +kernel
theorem dX9_inLowestTerms_54 : decode cX9_inLowestTerms 54 = .ok (.lstore 9, 2) := by decide +kernel
theorem dX9_inLowestTerms_56 : decode cX9_inLowestTerms 56 = .ok (.lload 5, 2) := by decide +kernel
theorem dX9_inLowestTerms_58 : decode cX9_inLowestTerms 58 = .ok (.lconst 0, 1) := by decide +kernel
theorem dX9_inLowestTerms_59 : decode cX9_inLowestTerms 59 = .ok (.lcmp, 1) := by decide +kernel
theorem dX9_inLowestTerms_60 : decode cX9_inLowestTerms 60 = .ok (.ifCond .ne 8, 3) := by decide +kernel
theorem dX9_inLowestTerms_63 : decode cX9_inLowestTerms 63 = .ok (.lload 9, 2) := by decide +kernel
theorem dX9_inLowestTerms_65 : decode cX9_inLowestTerms 65 = .ok (.goto 8, 3) := by decide +kernel
theorem dX9_inLowestTerms_68 : decode cX9_inLowestTerms 68 = .ok (.lload 9, 2) := by decide +kernel
theorem dX9_inLowestTerms_70 : decode cX9_inLowestTerms 70 = .ok (.lload 5, 2) := by decide +kernel
theorem dX9_inLowestTerms_72 : decode cX9_inLowestTerms 72 = .ok (.ldiv, 1) := by decide +kernel
theorem dX9_inLowestTerms_73 : decode cX9_inLowestTerms 73 = .ok (.lreturn, 1) := by decide +kernel
theorem dX9_init_0 : decode cX9_init 0 = .ok (.aload_n 0, 1) := by decide +kernel
theorem dX9_init_1 : decode cX9_init 1 = .ok (.invokespecial 3, 3) := by decide +kernel
theorem dX9_init_4 : decode cX9_init 4 = .ok (.aload_n 0, 1) := by decide +kernel
theorem dX9_init_5 : decode cX9_init 5 = .ok (.new 9, 3) := by decide +kernel
theorem dX9_init_8 : decode cX9_init 8 = .ok (.dup, 1) := by decide +kernel
theorem dX9_init_9 : decode cX9_init 9 = .ok (.invokespecial 11, 3) := by decide +kernel
theorem dX9_init_12 : decode cX9_init 12 = .ok (.putfield 12, 3) := by decide +kernel
theorem dX9_init_15 : decode cX9_init 15 = .ok (.aload_n 0, 1) := by decide +kernel
theorem dX9_init_16 : decode cX9_init 16 = .ok (.new 16, 3) := by decide +kernel
theorem dX9_init_19 : decode cX9_init 19 = .ok (.dup, 1) := by decide +kernel
theorem dX9_init_20 : decode cX9_init 20 = .ok (.invokespecial 18, 3) := by decide +kernel
theorem dX9_init_23 : decode cX9_init 23 = .ok (.putfield 19, 3) := by decide +kernel
theorem dX9_init_26 : decode cX9_init 26 = .ok (.aload_n 0, 1) := by decide +kernel
theorem dX9_init_27 : decode cX9_init 27 = .ok (.new 23, 3) := by decide +kernel
theorem dX9_init_30 : decode cX9_init 30 = .ok (.dup, 1) := by decide +kernel
theorem dX9_init_31 : decode cX9_init 31 = .ok (.invokespecial 25, 3) := by decide +kernel
theorem dX9_init_34 : decode cX9_init 34 = .ok (.putfield 26, 3) := by decide +kernel
theorem dX9_init_37 : decode cX9_init 37 = .ok (.aload_n 0, 1) := by decide +kernel
theorem dX9_init_38 : decode cX9_init 38 = .ok (.new 30, 3) := by decide +kernel
theorem dX9_init_41 : decode cX9_init 41 = .ok (.dup, 1) := by decide +kernel
theorem dX9_init_42 : decode cX9_init 42 = .ok (.invokespecial 32, 3) := by decide +kernel
theorem dX9_init_45 : decode cX9_init 45 = .ok (.putfield 33, 3) := by decide +kernel
theorem dX9_init_48 : decode cX9_init 48 = .ok (.aload_n 0, 1) := by decide +kernel
theorem dX9_init_49 : decode cX9_init 49 = .ok (.iconst 4, 1) := by decide +kernel
theorem dX9_init_50 : decode cX9_init 50 = .ok (.iconst 3, 1) := by decide +kernel
theorem dX9_init_51 : decode cX9_init 51 = .ok (.multianewarray 37 2, 4) := by decide +kernel
theorem dX9_init_55 : decode cX9_init 55 = .ok (.putfield 39, 3) := by decide +kernel
theorem dX9_init_58 : decode cX9_init 58 = .ok (.aload_n 0, 1) := by decide +kernel
theorem dX9_init_59 : decode cX9_init 59 = .ok (.iconst 4, 1) := by decide +kernel
theorem dX9_init_60 : decode cX9_init 60 = .ok (.newarray .int, 2) := by decide +kernel
theorem dX9_init_62 : decode cX9_init 62 = .ok (.putfield 42, 3) := by decide +kernel
theorem dX9_init_65 : decode cX9_init 65 = .ok (.aload_n 0, 1) := by decide +kernel
theorem dX9_init_66 : decode cX9_init 66 = .ok (.iconst 4, 1) := by decide +kernel
theorem dX9_init_67 : decode cX9_init 67 = .ok (.newarray .int, 2) := by decide +kernel
theorem dX9_init_69 : decode cX9_init 69 = .ok (.putfield 46, 3) := by decide +kernel
theorem dX9_init_72 : decode cX9_init 72 = .ok (.aload_n 0, 1) := by decide +kernel
theorem dX9_init_73 : decode cX9_init 73 = .ok (.iconst 4, 1) := by decide +kernel
theorem dX9_init_74 : decode cX9_init 74 = .ok (.bipush 24, 2) := by decide +kernel
theorem dX9_init_76 : decode cX9_init 76 = .ok (.multianewarray 37 2, 4) := by decide +kernel
theorem dX9_init_80 : decode cX9_init 80 = .ok (.putfield 49, 3) := by decide +kernel
theorem dX9_init_83 : decode cX9_init 83 = .ok (.aload_n 0, 1) := by decide +kernel
theorem dX9_init_84 : decode cX9_init 84 = .ok (.new 52, 3) := by decide +kernel
theorem dX9_init_87 : decode cX9_init 87 = .ok (.dup, 1) := by decide +kernel
theorem dX9_init_88 : decode cX9_init 88 = .ok (.invokespecial 54, 3) := by decide +kernel
theorem dX9_init_91 : decode cX9_init 91 = .ok (.putfield 55, 3) := by decide +kernel
theorem dX9_init_94 : decode cX9_init 94 = .ok (.aload_n 0, 1) := by decide +kernel
theorem dX9_init_95 : decode cX9_init 95 = .ok (.new 59, 3) := by decide +kernel
theorem dX9_init_98 : decode cX9_init 98 = .ok (.dup, 1) := by decide +kernel
theorem dX9_init_99 : decode cX9_init 99 = .ok (.invokespecial 61, 3) := by decide +kernel
theorem dX9_init_102 : decode cX9_init 102 = .ok (.putfield 62, 3) := by decide +kernel
theorem dX9_init_105 : decode cX9_init 105 = .ok (.aload_n 0, 1) := by decide +kernel
theorem dX9_init_106 : decode cX9_init 106 = .ok (.new 59, 3) := by decide +kernel
theorem dX9_init_109 : decode cX9_init 109 = .ok (.dup, 1) := by decide +kernel
theorem dX9_init_110 : decode cX9_init 110 = .ok (.invokespecial 61, 3) := by decide +kernel
theorem dX9_init_113 : decode cX9_init 113 = .ok (.putfield 66, 3) := by decide +kernel
theorem dX9_init_116 : decode cX9_init 116 = .ok (.aload_n 0, 1) := by decide +kernel
theorem dX9_init_117 : decode cX9_init 117 = .ok (.new 69, 3) := by decide +kernel
theorem dX9_init_120 : decode cX9_init 120 = .ok (.dup, 1) := by decide +kernel
theorem dX9_init_121 : decode cX9_init 121 = .ok (.invokespecial 71, 3) := by decide +kernel
theorem dX9_init_124 : decode cX9_init 124 = .ok (.putfield 72, 3) := by decide +kernel
theorem dX9_init_127 : decode cX9_init 127 = .ok (.aload_n 0, 1) := by decide +kernel
theorem dX9_init_128 : decode cX9_init 128 = .ok (.new 76, 3) := by decide +kernel
theorem dX9_init_131 : decode cX9_init 131 = .ok (.dup, 1) := by decide +kernel
theorem dX9_init_132 : decode cX9_init 132 = .ok (.invokespecial 78, 3) := by decide +kernel
theorem dX9_init_135 : decode cX9_init 135 = .ok (.putfield 79, 3) := by decide +kernel
theorem dX9_init_138 : decode cX9_init 138 = .ok (.return_, 1) := by decide +kernel
theorem dX9_isLamp_0 : decode cX9_isLamp 0 = .ok (.iload_n 1, 1) := by decide +kernel
theorem dX9_isLamp_1 : decode cX9_isLamp 1 = .ok (.ifCond .lt 15, 3) := by decide +kernel
theorem dX9_isLamp_4 : decode cX9_isLamp 4 = .ok (.iload_n 1, 1) := by decide +kernel
theorem dX9_isLamp_5 : decode cX9_isLamp 5 = .ok (.aload_n 0, 1) := by decide +kernel
theorem dX9_isLamp_6 : decode cX9_isLamp 6 = .ok (.getfield 103, 3) := by decide +kernel
theorem dX9_isLamp_9 : decode cX9_isLamp 9 = .ok (.if_icmp .ge 7, 3) := by decide +kernel
theorem dX9_isLamp_12 : decode cX9_isLamp 12 = .ok (.iconst 1, 1) := by decide +kernel
theorem dX9_isLamp_13 : decode cX9_isLamp 13 = .ok (.goto 4, 3) := by decide +kernel
theorem dX9_isLamp_16 : decode cX9_isLamp 16 = .ok (.iconst 0, 1) := by decide +kernel
theorem dX9_isLamp_17 : decode cX9_isLamp 17 = .ok (.ireturn, 1) := by decide +kernel
theorem dX9_isMeasure_0 : decode cX9_isMeasure 0 = .ok (.iload_n 1, 1) := by decide +kernel
theorem dX9_isMeasure_1 : decode cX9_isMeasure 1 = .ok (.ifCond .lt 15, 3) := by decide +kernel
theorem dX9_isMeasure_4 : decode cX9_isMeasure 4 = .ok (.iload_n 1, 1) := by decide +kernel
theorem dX9_isMeasure_5 : decode cX9_isMeasure 5 = .ok (.aload_n 0, 1) := by decide +kernel
theorem dX9_isMeasure_6 : decode cX9_isMeasure 6 = .ok (.getfield 115, 3) := by decide +kernel
theorem dX9_isMeasure_9 : decode cX9_isMeasure 9 = .ok (.if_icmp .ge 7, 3) := by decide +kernel
theorem dX9_isMeasure_12 : decode cX9_isMeasure 12 = .ok (.iconst 1, 1) := by decide +kernel
theorem dX9_isMeasure_13 : decode cX9_isMeasure 13 = .ok (.goto 4, 3) := by decide +kernel
theorem dX9_isMeasure_16 : decode cX9_isMeasure 16 = .ok (.iconst 0, 1) := by decide +kernel
theorem dX9_isMeasure_17 : decode cX9_isMeasure 17 = .ok (.ireturn, 1) := by decide +kernel
theorem dX9_isOfKind_0 : decode cX9_isOfKind 0 = .ok (.iload_n 1, 1) := by decide +kernel
theorem dX9_isOfKind_1 : decode cX9_isOfKind 1 = .ok (.ifCond .eq 18, 3) := by decide +kernel
theorem dX9_isOfKind_4 : decode cX9_isOfKind 4 = .ok (.iload_n 1, 1) := by decide +kernel
theorem dX9_isOfKind_5 : decode cX9_isOfKind 5 = .ok (.iload_n 0, 1) := by decide +kernel
theorem dX9_isOfKind_6 : decode cX9_isOfKind 6 = .ok (.if_icmp .eq 13, 3) := by decide +kernel
theorem dX9_isOfKind_9 : decode cX9_isOfKind 9 = .ok (.iload_n 1, 1) := by decide +kernel
theorem dX9_isOfKind_10 : decode cX9_isOfKind 10 = .ok (.iconst 1, 1) := by decide +kernel
theorem dX9_isOfKind_11 : decode cX9_isOfKind 11 = .ok (.if_icmp .ne 12, 3) := by decide +kernel
theorem dX9_isOfKind_14 : decode cX9_isOfKind 14 = .ok (.iload_n 0, 1) := by decide +kernel
theorem dX9_isOfKind_15 : decode cX9_isOfKind 15 = .ok (.iconst 2, 1) := by decide +kernel
theorem dX9_isOfKind_16 : decode cX9_isOfKind 16 = .ok (.if_icmp .ne 7, 3) := by decide +kernel
theorem dX9_isOfKind_19 : decode cX9_isOfKind 19 = .ok (.iconst 1, 1) := by decide +kernel
theorem dX9_isOfKind_20 : decode cX9_isOfKind 20 = .ok (.goto 4, 3) := by decide +kernel
theorem dX9_isOfKind_23 : decode cX9_isOfKind 23 = .ok (.iconst 0, 1) := by decide +kernel
theorem dX9_isOfKind_24 : decode cX9_isOfKind 24 = .ok (.ireturn, 1) := by decide +kernel
theorem dX9_isPigment_0 : decode cX9_isPigment 0 = .ok (.iload_n 1, 1) := by decide +kernel
theorem dX9_isPigment_1 : decode cX9_isPigment 1 = .ok (.ifCond .lt 15, 3) := by decide +kernel
theorem dX9_isPigment_4 : decode cX9_isPigment 4 = .ok (.iload_n 1, 1) := by decide +kernel
theorem dX9_isPigment_5 : decode cX9_isPigment 5 = .ok (.aload_n 0, 1) := by decide +kernel
theorem dX9_isPigment_6 : decode cX9_isPigment 6 = .ok (.getfield 130, 3) := by decide +kernel
theorem dX9_isPigment_9 : decode cX9_isPigment 9 = .ok (.if_icmp .ge 7, 3) := by decide +kernel
theorem dX9_isPigment_12 : decode cX9_isPigment 12 = .ok (.iconst 1, 1) := by decide +kernel
theorem dX9_isPigment_13 : decode cX9_isPigment 13 = .ok (.goto 4, 3) := by decide +kernel
theorem dX9_isPigment_16 : decode cX9_isPigment 16 = .ok (.iconst 0, 1) := by decide +kernel
theorem dX9_isPigment_17 : decode cX9_isPigment 17 = .ok (.ireturn, 1) := by decide +kernel
theorem dX9_isWithin_0 : decode cX9_isWithin 0 = .ok (.iload_n 0, 1) := by decide +kernel
theorem dX9_isWithin_1 : decode cX9_isWithin 1 = .ok (.ifCond .lt 12, 3) := by decide +kernel
theorem dX9_isWithin_4 : decode cX9_isWithin 4 = .ok (.iload_n 0, 1) := by decide +kernel
theorem dX9_isWithin_5 : decode cX9_isWithin 5 = .ok (.iload_n 1, 1) := by decide +kernel
theorem dX9_isWithin_6 : decode cX9_isWithin 6 = .ok (.if_icmp .gt 7, 3) := by decide +kernel
theorem dX9_isWithin_9 : decode cX9_isWithin 9 = .ok (.iconst 1, 1) := by decide +kernel
theorem dX9_isWithin_10 : decode cX9_isWithin 10 = .ok (.goto 4, 3) := by decide +kernel
theorem dX9_isWithin_13 : decode cX9_isWithin 13 = .ok (.iconst 0, 1) := by decide +kernel
theorem dX9_isWithin_14 : decode cX9_isWithin 14 = .ok (.ireturn, 1) := by decide +kernel
theorem dX9_lamp_0 : decode cX9_lamp 0 = .ok (.aload_n 0, 1) := by decide +kernel
theorem dX9_lamp_1 : decode cX9_lamp 1 = .ok (.getfield 12, 3) := by decide +kernel
theorem dX9_lamp_4 : decode cX9_lamp 4 = .ok (.aload_n 0, 1) := by decide +kernel
theorem dX9_lamp_5 : decode cX9_lamp 5 = .ok (.getfield 19, 3) := by decide +kernel
theorem dX9_lamp_8 : decode cX9_lamp 8 = .ok (.invokevirtual 99, 3) := by decide +kernel
theorem dX9_lamp_11 : decode cX9_lamp 11 = .ok (.ifCond .ne 6, 3) := by decide +kernel
theorem dX9_lamp_14 : decode cX9_lamp 14 = .ok (.bipush (-103), 2) := by decide +kernel
theorem dX9_lamp_16 : decode cX9_lamp 16 = .ok (.ireturn, 1) := by decide +kernel
theorem dX9_lamp_17 : decode cX9_lamp 17 = .ok (.aload_n 0, 1) := by decide +kernel
theorem dX9_lamp_18 : decode cX9_lamp 18 = .ok (.getfield 103, 3) := by decide +kernel
theorem dX9_lamp_21 : decode cX9_lamp 21 = .ok (.iconst 4, 1) := by decide +kernel
theorem dX9_lamp_22 : decode cX9_lamp 22 = .ok (.if_icmp .lt 6, 3) := by decide +kernel
theorem dX9_lamp_25 : decode cX9_lamp 25 = .ok (.bipush (-104), 2) := by decide +kernel
theorem dX9_lamp_27 : decode cX9_lamp 27 = .ok (.ireturn, 1) := by decide +kernel
theorem dX9_lamp_28 : decode cX9_lamp 28 = .ok (.aload_n 0, 1) := by decide +kernel
theorem dX9_lamp_29 : decode cX9_lamp 29 = .ok (.getfield 19, 3) := by decide +kernel
theorem dX9_lamp_32 : decode cX9_lamp 32 = .ok (.getfield 106, 3) := by decide +kernel
theorem dX9_lamp_35 : decode cX9_lamp 35 = .ok (.iconst 0, 1) := by decide +kernel
theorem dX9_lamp_36 : decode cX9_lamp 36 = .ok (.aload_n 0, 1) := by decide +kernel
theorem dX9_lamp_37 : decode cX9_lamp 37 = .ok (.getfield 39, 3) := by decide +kernel
theorem dX9_lamp_40 : decode cX9_lamp 40 = .ok (.aload_n 0, 1) := by decide +kernel
theorem dX9_lamp_41 : decode cX9_lamp 41 = .ok (.getfield 103, 3) := by decide +kernel
theorem dX9_lamp_44 : decode cX9_lamp 44 = .ok (.aaload, 1) := by decide +kernel
theorem dX9_lamp_45 : decode cX9_lamp 45 = .ok (.iconst 0, 1) := by decide +kernel
theorem dX9_lamp_46 : decode cX9_lamp 46 = .ok (.iconst 3, 1) := by decide +kernel
theorem dX9_lamp_47 : decode cX9_lamp 47 = .ok (.invokestatic 109, 3) := by decide +kernel
theorem dX9_lamp_50 : decode cX9_lamp 50 = .ok (.aload_n 0, 1) := by decide +kernel
theorem dX9_lamp_51 : decode cX9_lamp 51 = .ok (.getfield 12, 3) := by decide +kernel
theorem dX9_lamp_54 : decode cX9_lamp 54 = .ok (.iconst 0, 1) := by decide +kernel
theorem dX9_lamp_55 : decode cX9_lamp 55 = .ok (.putfield 87, 3) := by decide +kernel
theorem dX9_lamp_58 : decode cX9_lamp 58 = .ok (.aload_n 0, 1) := by decide +kernel
theorem dX9_lamp_59 : decode cX9_lamp 59 = .ok (.dup, 1) := by decide +kernel
theorem dX9_lamp_60 : decode cX9_lamp 60 = .ok (.getfield 103, 3) := by decide +kernel
theorem dX9_lamp_63 : decode cX9_lamp 63 = .ok (.iconst 1, 1) := by decide +kernel
theorem dX9_lamp_64 : decode cX9_lamp 64 = .ok (.iadd, 1) := by decide +kernel
theorem dX9_lamp_65 : decode cX9_lamp 65 = .ok (.putfield 103, 3) := by decide +kernel
theorem dX9_lamp_68 : decode cX9_lamp 68 = .ok (.aload_n 0, 1) := by decide +kernel
theorem dX9_lamp_69 : decode cX9_lamp 69 = .ok (.getfield 103, 3) := by decide +kernel
theorem dX9_lamp_72 : decode cX9_lamp 72 = .ok (.iconst 1, 1) := by decide +kernel
theorem dX9_lamp_73 : decode cX9_lamp 73 = .ok (.isub, 1) := by decide +kernel
theorem dX9_lamp_74 : decode cX9_lamp 74 = .ok (.ireturn, 1) := by decide +kernel
theorem dX9_law_0 : decode cX9_law 0 = .ok (.aload_n 0, 1) := by decide +kernel
theorem dX9_law_1 : decode cX9_law 1 = .ok (.getfield 12, 3) := by decide +kernel
theorem dX9_law_4 : decode cX9_law 4 = .ok (.aload_n 0, 1) := by decide +kernel
theorem dX9_law_5 : decode cX9_law 5 = .ok (.getfield 33, 3) := by decide +kernel
theorem dX9_law_8 : decode cX9_law 8 = .ok (.invokevirtual 99, 3) := by decide +kernel
theorem dX9_law_11 : decode cX9_law 11 = .ok (.ifCond .ne 6, 3) := by decide +kernel
theorem dX9_law_14 : decode cX9_law 14 = .ok (.bipush (-103), 2) := by decide +kernel
theorem dX9_law_16 : decode cX9_law 16 = .ok (.ireturn, 1) := by decide +kernel
theorem dX9_law_17 : decode cX9_law 17 = .ok (.aload_n 0, 1) := by decide +kernel
theorem dX9_law_18 : decode cX9_law 18 = .ok (.getfield 55, 3) := by decide +kernel
theorem dX9_law_21 : decode cX9_law 21 = .ok (.aload_n 0, 1) := by decide +kernel
theorem dX9_law_22 : decode cX9_law 22 = .ok (.getfield 33, 3) := by decide +kernel
theorem dX9_law_25 : decode cX9_law 25 = .ok (.invokevirtual 121, 3) := by decide +kernel
theorem dX9_law_28 : decode cX9_law 28 = .ok (.aload_n 0, 1) := by decide +kernel
theorem dX9_law_29 : decode cX9_law 29 = .ok (.getfield 12, 3) := by decide +kernel
theorem dX9_law_32 : decode cX9_law 32 = .ok (.iconst 0, 1) := by decide +kernel
theorem dX9_law_33 : decode cX9_law 33 = .ok (.putfield 87, 3) := by decide +kernel
theorem dX9_law_36 : decode cX9_law 36 = .ok (.aload_n 0, 1) := by decide +kernel
theorem dX9_law_37 : decode cX9_law 37 = .ok (.getfield 55, 3) := by decide +kernel
theorem dX9_law_40 : decode cX9_law 40 = .ok (.getfield 125, 3) := by decide +kernel
theorem dX9_law_43 : decode cX9_law 43 = .ok (.ireturn, 1) := by decide +kernel
theorem dX9_layOut_0 : decode cX9_layOut 0 = .ok (.iconst 0, 1) := by decide +kernel
theorem dX9_layOut_1 : decode cX9_layOut 1 = .ok (.istore_n 2, 1) := by decide +kernel
theorem dX9_layOut_2 : decode cX9_layOut 2 = .ok (.iload_n 2, 1) := by decide +kernel
theorem dX9_layOut_3 : decode cX9_layOut 3 = .ok (.aload_n 0, 1) := by decide +kernel
theorem dX9_layOut_4 : decode cX9_layOut 4 = .ok (.getfield 62, 3) := by decide +kernel
theorem dX9_layOut_7 : decode cX9_layOut 7 = .ok (.getfield 183, 3) := by decide +kernel
theorem dX9_layOut_10 : decode cX9_layOut 10 = .ok (.if_icmp .ge 44, 3) := by decide +kernel
theorem dX9_layOut_13 : decode cX9_layOut 13 = .ok (.aload_n 0, 1) := by decide +kernel
theorem dX9_layOut_14 : decode cX9_layOut 14 = .ok (.getfield 72, 3) := by decide +kernel
theorem dX9_layOut_17 : decode cX9_layOut 17 = .ok (.getfield 320, 3) := by decide +kernel
theorem dX9_layOut_20 : decode cX9_layOut 20 = .ok (.iload_n 2, 1) := by decide +kernel
theorem dX9_layOut_21 : decode cX9_layOut 21 = .ok (.aload_n 0, 1) := by decide +kernel
theorem dX9_layOut_22 : decode cX9_layOut 22 = .ok (.getfield 62, 3) := by decide +kernel
theorem dX9_layOut_25 : decode cX9_layOut 25 = .ok (.getfield 150, 3) := by decide +kernel
theorem dX9_layOut_28 : decode cX9_layOut 28 = .ok (.iload_n 2, 1) := by decide +kernel
theorem dX9_layOut_29 : decode cX9_layOut 29 = .ok (.aaload, 1) := by decide +kernel
theorem dX9_layOut_30 : decode cX9_layOut 30 = .ok (.iconst 1, 1) := by decide +kernel
theorem dX9_layOut_31 : decode cX9_layOut 31 = .ok (.iaload, 1) := by decide +kernel
theorem dX9_layOut_32 : decode cX9_layOut 32 = .ok (.iastore, 1) := by decide +kernel
theorem dX9_layOut_33 : decode cX9_layOut 33 = .ok (.aload_n 0, 1) := by decide +kernel
theorem dX9_layOut_34 : decode cX9_layOut 34 = .ok (.getfield 72, 3) := by decide +kernel
theorem dX9_layOut_37 : decode cX9_layOut 37 = .ok (.getfield 323, 3) := by decide +kernel
theorem dX9_layOut_40 : decode cX9_layOut 40 = .ok (.iload_n 2, 1) := by decide +kernel
theorem dX9_layOut_41 : decode cX9_layOut 41 = .ok (.aload_n 0, 1) := by decide +kernel
theorem dX9_layOut_42 : decode cX9_layOut 42 = .ok (.iload_n 1, 1) := by decide +kernel
theorem dX9_layOut_43 : decode cX9_layOut 43 = .ok (.iload_n 2, 1) := by decide +kernel
theorem dX9_layOut_44 : decode cX9_layOut 44 = .ok (.invokevirtual 163, 3) := by decide +kernel
theorem dX9_layOut_47 : decode cX9_layOut 47 = .ok (.iastore, 1) := by decide +kernel
theorem dX9_layOut_48 : decode cX9_layOut 48 = .ok (.iinc 2 1, 3) := by decide +kernel
theorem dX9_layOut_51 : decode cX9_layOut 51 = .ok (.goto (-49), 3) := by decide +kernel
theorem dX9_layOut_54 : decode cX9_layOut 54 = .ok (.return_, 1) := by decide +kernel
theorem dX9_letters_0 : decode cX9_letters 0 = .ok (.lload_n 1, 1) := by decide +kernel
theorem dX9_letters_1 : decode cX9_letters 1 = .ok (.invokestatic 83, 3) := by decide +kernel
theorem dX9_letters_4 : decode cX9_letters 4 = .ok (.istore_n 3, 1) := by decide +kernel
theorem dX9_letters_5 : decode cX9_letters 5 = .ok (.iload_n 3, 1) := by decide +kernel
theorem dX9_letters_6 : decode cX9_letters 6 = .ok (.iconst (-1), 1) := by decide +kernel
theorem dX9_letters_7 : decode cX9_letters 7 = .ok (.if_icmp .ne 6, 3) := by decide +kernel
theorem dX9_letters_10 : decode cX9_letters 10 = .ok (.bipush (-102), 2) := by decide +kernel
theorem dX9_letters_12 : decode cX9_letters 12 = .ok (.ireturn, 1) := by decide +kernel
theorem dX9_letters_13 : decode cX9_letters 13 = .ok (.aload_n 0, 1) := by decide +kernel
theorem dX9_letters_14 : decode cX9_letters 14 = .ok (.getfield 12, 3) := by decide +kernel
theorem dX9_letters_17 : decode cX9_letters 17 = .ok (.getfield 87, 3) := by decide +kernel
theorem dX9_letters_20 : decode cX9_letters 20 = .ok (.iload_n 3, 1) := by decide +kernel
theorem dX9_letters_21 : decode cX9_letters 21 = .ok (.iadd, 1) := by decide +kernel
theorem dX9_letters_22 : decode cX9_letters 22 = .ok (.bipush 40, 2) := by decide +kernel
theorem dX9_letters_24 : decode cX9_letters 24 = .ok (.if_icmp .le 6, 3) := by decide +kernel
theorem dX9_letters_27 : decode cX9_letters 27 = .ok (.bipush (-104), 2) := by decide +kernel
theorem dX9_letters_29 : decode cX9_letters 29 = .ok (.ireturn, 1) := by decide +kernel
theorem dX9_letters_30 : decode cX9_letters 30 = .ok (.aload_n 0, 1) := by decide +kernel
theorem dX9_letters_31 : decode cX9_letters 31 = .ok (.getfield 12, 3) := by decide +kernel
theorem dX9_letters_34 : decode cX9_letters 34 = .ok (.lload_n 1, 1) := by decide +kernel
theorem dX9_letters_35 : decode cX9_letters 35 = .ok (.iload_n 3, 1) := by decide +kernel
theorem dX9_letters_36 : decode cX9_letters 36 = .ok (.invokevirtual 91, 3) := by decide +kernel
theorem dX9_letters_39 : decode cX9_letters 39 = .ok (.aload_n 0, 1) := by decide +kernel
theorem dX9_letters_40 : decode cX9_letters 40 = .ok (.getfield 12, 3) := by decide +kernel
theorem dX9_letters_43 : decode cX9_letters 43 = .ok (.getfield 87, 3) := by decide +kernel
theorem dX9_letters_46 : decode cX9_letters 46 = .ok (.ireturn, 1) := by decide +kernel
theorem dX9_measure_0 : decode cX9_measure 0 = .ok (.aload_n 0, 1) := by decide +kernel
theorem dX9_measure_1 : decode cX9_measure 1 = .ok (.getfield 12, 3) := by decide +kernel
theorem dX9_measure_4 : decode cX9_measure 4 = .ok (.aload_n 0, 1) := by decide +kernel
theorem dX9_measure_5 : decode cX9_measure 5 = .ok (.getfield 26, 3) := by decide +kernel
theorem dX9_measure_8 : decode cX9_measure 8 = .ok (.invokevirtual 99, 3) := by decide +kernel
theorem dX9_measure_11 : decode cX9_measure 11 = .ok (.ifCond .ne 6, 3) := by decide +kernel
theorem dX9_measure_14 : decode cX9_measure 14 = .ok (.bipush (-103), 2) := by decide +kernel
theorem dX9_measure_16 : decode cX9_measure 16 = .ok (.ireturn, 1) := by decide +kernel
theorem dX9_measure_17 : decode cX9_measure 17 = .ok (.aload_n 0, 1) := by decide +kernel
theorem dX9_measure_18 : decode cX9_measure 18 = .ok (.getfield 115, 3) := by decide +kernel
theorem dX9_measure_21 : decode cX9_measure 21 = .ok (.iconst 4, 1) := by decide +kernel
theorem dX9_measure_22 : decode cX9_measure 22 = .ok (.if_icmp .lt 6, 3) := by decide +kernel
theorem dX9_measure_25 : decode cX9_measure 25 = .ok (.bipush (-104), 2) := by decide +kernel
theorem dX9_measure_27 : decode cX9_measure 27 = .ok (.ireturn, 1) := by decide +kernel
theorem dX9_measure_28 : decode cX9_measure 28 = .ok (.aload_n 0, 1) := by decide +kernel
theorem dX9_measure_29 : decode cX9_measure 29 = .ok (.getfield 26, 3) := by decide +kernel
theorem dX9_measure_32 : decode cX9_measure 32 = .ok (.getfield 118, 3) := by decide +kernel
theorem dX9_measure_35 : decode cX9_measure 35 = .ok (.iconst 0, 1) := by decide +kernel
theorem dX9_measure_36 : decode cX9_measure 36 = .ok (.aload_n 0, 1) := by decide +kernel
theorem dX9_measure_37 : decode cX9_measure 37 = .ok (.getfield 49, 3) := by decide +kernel
theorem dX9_measure_40 : decode cX9_measure 40 = .ok (.aload_n 0, 1) := by decide +kernel
theorem dX9_measure_41 : decode cX9_measure 41 = .ok (.getfield 115, 3) := by decide +kernel
theorem dX9_measure_44 : decode cX9_measure 44 = .ok (.aaload, 1) := by decide +kernel
theorem dX9_measure_45 : decode cX9_measure 45 = .ok (.iconst 0, 1) := by decide +kernel
theorem dX9_measure_46 : decode cX9_measure 46 = .ok (.bipush 24, 2) := by decide +kernel
theorem dX9_measure_48 : decode cX9_measure 48 = .ok (.invokestatic 109, 3) := by decide +kernel
theorem dX9_measure_51 : decode cX9_measure 51 = .ok (.aload_n 0, 1) := by decide +kernel
theorem dX9_measure_52 : decode cX9_measure 52 = .ok (.getfield 12, 3) := by decide +kernel
theorem dX9_measure_55 : decode cX9_measure 55 = .ok (.iconst 0, 1) := by decide +kernel
theorem dX9_measure_56 : decode cX9_measure 56 = .ok (.putfield 87, 3) := by decide +kernel
theorem dX9_measure_59 : decode cX9_measure 59 = .ok (.aload_n 0, 1) := by decide +kernel
theorem dX9_measure_60 : decode cX9_measure 60 = .ok (.dup, 1) := by decide +kernel
theorem dX9_measure_61 : decode cX9_measure 61 = .ok (.getfield 115, 3) := by decide +kernel
theorem dX9_measure_64 : decode cX9_measure 64 = .ok (.iconst 1, 1) := by decide +kernel
theorem dX9_measure_65 : decode cX9_measure 65 = .ok (.iadd, 1) := by decide +kernel
theorem dX9_measure_66 : decode cX9_measure 66 = .ok (.putfield 115, 3) := by decide +kernel
theorem dX9_measure_69 : decode cX9_measure 69 = .ok (.aload_n 0, 1) := by decide +kernel
theorem dX9_measure_70 : decode cX9_measure 70 = .ok (.getfield 115, 3) := by decide +kernel
theorem dX9_measure_73 : decode cX9_measure 73 = .ok (.iconst 1, 1) := by decide +kernel
theorem dX9_measure_74 : decode cX9_measure 74 = .ok (.isub, 1) := by decide +kernel
theorem dX9_measure_75 : decode cX9_measure 75 = .ok (.ireturn, 1) := by decide +kernel
theorem dX9_mixed_0 : decode cX9_mixed 0 = .ok (.ldc2_w 333, 3) := by decide +kernel
theorem dX9_mixed_3 : decode cX9_mixed 3 = .ok (.lload_n 0, 1) := by decide +kernel
theorem dX9_mixed_4 : decode cX9_mixed 4 = .ok (.lmul, 1) := by decide +kernel
theorem dX9_mixed_5 : decode cX9_mixed 5 = .ok (.lload_n 2, 1) := by decide +kernel
theorem dX9_mixed_6 : decode cX9_mixed 6 = .ok (.ladd, 1) := by decide +kernel
theorem dX9_mixed_7 : decode cX9_mixed 7 = .ok (.lreturn, 1) := by decide +kernel
theorem dX9_mountain_0 : decode cX9_mountain 0 = .ok (.iload_n 1, 1) := by decide +kernel
theorem dX9_mountain_1 : decode cX9_mountain 1 = .ok (.sipush 400, 3) := by decide +kernel
theorem dX9_mountain_4 : decode cX9_mountain 4 = .ok (.invokestatic 126, 3) := by decide +kernel
theorem dX9_mountain_7 : decode cX9_mountain 7 = .ok (.ifCond .ne 6, 3) := by decide +kernel
theorem dX9_mountain_10 : decode cX9_mountain 10 = .ok (.bipush (-102), 2) := by decide +kernel
theorem dX9_mountain_12 : decode cX9_mountain 12 = .ok (.ireturn, 1) := by decide +kernel
theorem dX9_mountain_13 : decode cX9_mountain 13 = .ok (.aload_n 0, 1) := by decide +kernel
theorem dX9_mountain_14 : decode cX9_mountain 14 = .ok (.getfield 62, 3) := by decide +kernel
theorem dX9_mountain_17 : decode cX9_mountain 17 = .ok (.getfield 166, 3) := by decide +kernel
theorem dX9_mountain_20 : decode cX9_mountain 20 = .ok (.bipush 6, 2) := by decide +kernel
theorem dX9_mountain_22 : decode cX9_mountain 22 = .ok (.if_icmp .lt 6, 3) := by decide +kernel
theorem dX9_mountain_25 : decode cX9_mountain 25 = .ok (.bipush (-104), 2) := by decide +kernel
theorem dX9_mountain_27 : decode cX9_mountain 27 = .ok (.ireturn, 1) := by decide +kernel
theorem dX9_mountain_28 : decode cX9_mountain 28 = .ok (.aload_n 0, 1) := by decide +kernel
theorem dX9_mountain_29 : decode cX9_mountain 29 = .ok (.getfield 62, 3) := by decide +kernel
theorem dX9_mountain_32 : decode cX9_mountain 32 = .ok (.getfield 169, 3) := by decide +kernel
theorem dX9_mountain_35 : decode cX9_mountain 35 = .ok (.aload_n 0, 1) := by decide +kernel
theorem dX9_mountain_36 : decode cX9_mountain 36 = .ok (.getfield 62, 3) := by decide +kernel
theorem dX9_mountain_39 : decode cX9_mountain 39 = .ok (.getfield 166, 3) := by decide +kernel
theorem dX9_mountain_42 : decode cX9_mountain 42 = .ok (.iload_n 1, 1) := by decide +kernel
theorem dX9_mountain_43 : decode cX9_mountain 43 = .ok (.iastore, 1) := by decide +kernel
theorem dX9_mountain_44 : decode cX9_mountain 44 = .ok (.aload_n 0, 1) := by decide +kernel
theorem dX9_mountain_45 : decode cX9_mountain 45 = .ok (.getfield 62, 3) := by decide +kernel
theorem dX9_mountain_48 : decode cX9_mountain 48 = .ok (.dup, 1) := by decide +kernel
theorem dX9_mountain_49 : decode cX9_mountain 49 = .ok (.getfield 166, 3) := by decide +kernel
theorem dX9_mountain_52 : decode cX9_mountain 52 = .ok (.iconst 1, 1) := by decide +kernel
theorem dX9_mountain_53 : decode cX9_mountain 53 = .ok (.iadd, 1) := by decide +kernel
theorem dX9_mountain_54 : decode cX9_mountain 54 = .ok (.putfield 166, 3) := by decide +kernel
theorem dX9_mountain_57 : decode cX9_mountain 57 = .ok (.aload_n 0, 1) := by decide +kernel
theorem dX9_mountain_58 : decode cX9_mountain 58 = .ok (.getfield 62, 3) := by decide +kernel
theorem dX9_mountain_61 : decode cX9_mountain 61 = .ok (.getfield 166, 3) := by decide +kernel
theorem dX9_mountain_64 : decode cX9_mountain 64 = .ok (.iconst 1, 1) := by decide +kernel
theorem dX9_mountain_65 : decode cX9_mountain 65 = .ok (.isub, 1) := by decide +kernel
theorem dX9_mountain_66 : decode cX9_mountain 66 = .ok (.ireturn, 1) := by decide +kernel
theorem dX9_near_0 : decode cX9_near 0 = .ok (.aload_n 0, 1) := by decide +kernel
theorem dX9_near_1 : decode cX9_near 1 = .ok (.getfield 62, 3) := by decide +kernel
theorem dX9_near_4 : decode cX9_near 4 = .ok (.iload_n 1, 1) := by decide +kernel
theorem dX9_near_5 : decode cX9_near 5 = .ok (.invokevirtual 144, 3) := by decide +kernel
theorem dX9_near_8 : decode cX9_near 8 = .ok (.ifCond .ne 6, 3) := by decide +kernel
theorem dX9_near_11 : decode cX9_near 11 = .ok (.bipush (-101), 2) := by decide +kernel
theorem dX9_near_13 : decode cX9_near 13 = .ok (.ireturn, 1) := by decide +kernel
theorem dX9_near_14 : decode cX9_near 14 = .ok (.iload_n 2, 1) := by decide +kernel
theorem dX9_near_15 : decode cX9_near 15 = .ok (.bipush 9, 2) := by decide +kernel
theorem dX9_near_17 : decode cX9_near 17 = .ok (.invokestatic 126, 3) := by decide +kernel
theorem dX9_near_20 : decode cX9_near 20 = .ok (.ifCond .ne 6, 3) := by decide +kernel
theorem dX9_near_23 : decode cX9_near 23 = .ok (.bipush (-102), 2) := by decide +kernel
theorem dX9_near_25 : decode cX9_near 25 = .ok (.ireturn, 1) := by decide +kernel
theorem dX9_near_26 : decode cX9_near 26 = .ok (.aload_n 0, 1) := by decide +kernel
theorem dX9_near_27 : decode cX9_near 27 = .ok (.iload_n 1, 1) := by decide +kernel
theorem dX9_near_28 : decode cX9_near 28 = .ok (.iload_n 2, 1) := by decide +kernel
theorem dX9_near_29 : decode cX9_near 29 = .ok (.invokevirtual 172, 3) := by decide +kernel
theorem dX9_near_32 : decode cX9_near 32 = .ok (.ireturn, 1) := by decide +kernel
theorem dX9_nearness_0 : decode cX9_nearness 0 = .ok (.aload_n 0, 1) := by decide +kernel
theorem dX9_nearness_1 : decode cX9_nearness 1 = .ok (.getfield 62, 3) := by decide +kernel
theorem dX9_nearness_4 : decode cX9_nearness 4 = .ok (.iload_n 1, 1) := by decide +kernel
theorem dX9_nearness_5 : decode cX9_nearness 5 = .ok (.invokevirtual 314, 3) := by decide +kernel
theorem dX9_nearness_8 : decode cX9_nearness 8 = .ok (.ifCond .ne 5, 3) := by decide +kernel
theorem dX9_nearness_11 : decode cX9_nearness 11 = .ok (.iconst (-1), 1) := by decide +kernel
theorem dX9_nearness_12 : decode cX9_nearness 12 = .ok (.ireturn, 1) := by decide +kernel
theorem dX9_nearness_13 : decode cX9_nearness 13 = .ok (.aload_n 0, 1) := by decide +kernel
theorem dX9_nearness_14 : decode cX9_nearness 14 = .ok (.getfield 62, 3) := by decide +kernel
theorem dX9_nearness_17 : decode cX9_nearness 17 = .ok (.iload_n 1, 1) := by decide +kernel
theorem dX9_nearness_18 : decode cX9_nearness 18 = .ok (.iload_n 2, 1) := by decide +kernel
theorem dX9_nearness_19 : decode cX9_nearness 19 = .ok (.invokevirtual 317, 3) := by decide +kernel
theorem dX9_nearness_22 : decode cX9_nearness 22 = .ok (.ifCond .eq 7, 3) := by decide +kernel
theorem dX9_nearness_25 : decode cX9_nearness 25 = .ok (.iconst 1, 1) := by decide +kernel
theorem dX9_nearness_26 : decode cX9_nearness 26 = .ok (.goto 4, 3) := by decide +kernel
theorem dX9_nearness_29 : decode cX9_nearness 29 = .ok (.iconst 0, 1) := by decide +kernel
theorem dX9_nearness_30 : decode cX9_nearness 30 = .ok (.ireturn, 1) := by decide +kernel
theorem dX9_next_0 : decode cX9_next 0 = .ok (.aload_n 0, 1) := by decide +kernel
theorem dX9_next_1 : decode cX9_next 1 = .ok (.iload_n 1, 1) := by decide +kernel
theorem dX9_next_2 : decode cX9_next 2 = .ok (.iload_n 2, 1) := by decide +kernel
theorem dX9_next_3 : decode cX9_next 3 = .ok (.invokevirtual 233, 3) := by decide +kernel
theorem dX9_next_6 : decode cX9_next 6 = .ok (.istore_n 3, 1) := by decide +kernel
theorem dX9_next_7 : decode cX9_next 7 = .ok (.iload_n 3, 1) := by decide +kernel
theorem dX9_next_8 : decode cX9_next 8 = .ok (.ifCond .eq 5, 3) := by decide +kernel
theorem dX9_next_11 : decode cX9_next 11 = .ok (.iload_n 3, 1) := by decide +kernel
theorem dX9_next_12 : decode cX9_next 12 = .ok (.ireturn, 1) := by decide +kernel
theorem dX9_next_13 : decode cX9_next 13 = .ok (.aload_n 0, 1) := by decide +kernel
theorem dX9_next_14 : decode cX9_next 14 = .ok (.dup, 1) := by decide +kernel
theorem dX9_next_15 : decode cX9_next 15 = .ok (.getfield 236, 3) := by decide +kernel
theorem dX9_next_18 : decode cX9_next 18 = .ok (.iconst 1, 1) := by decide +kernel
theorem dX9_next_19 : decode cX9_next 19 = .ok (.iadd, 1) := by decide +kernel
theorem dX9_next_20 : decode cX9_next 20 = .ok (.putfield 236, 3) := by decide +kernel
theorem dX9_next_23 : decode cX9_next 23 = .ok (.aload_n 0, 1) := by decide +kernel
theorem dX9_next_24 : decode cX9_next 24 = .ok (.iload_n 1, 1) := by decide +kernel
theorem dX9_next_25 : decode cX9_next 25 = .ok (.invokevirtual 186, 3) := by decide +kernel
theorem dX9_next_28 : decode cX9_next 28 = .ok (.aload_n 0, 1) := by decide +kernel
theorem dX9_next_29 : decode cX9_next 29 = .ok (.getfield 72, 3) := by decide +kernel
theorem dX9_next_32 : decode cX9_next 32 = .ok (.aload_n 0, 1) := by decide +kernel
theorem dX9_next_33 : decode cX9_next 33 = .ok (.getfield 62, 3) := by decide +kernel
theorem dX9_next_36 : decode cX9_next 36 = .ok (.invokevirtual 190, 3) := by decide +kernel
theorem dX9_next_39 : decode cX9_next 39 = .ok (.aload_n 0, 1) := by decide +kernel
theorem dX9_next_40 : decode cX9_next 40 = .ok (.getfield 62, 3) := by decide +kernel
theorem dX9_next_43 : decode cX9_next 43 = .ok (.iload_n 2, 1) := by decide +kernel
theorem dX9_next_44 : decode cX9_next 44 = .ok (.invokevirtual 194, 3) := by decide +kernel
theorem dX9_next_47 : decode cX9_next 47 = .ok (.invokevirtual 242, 3) := by decide +kernel
theorem dX9_next_50 : decode cX9_next 50 = .ok (.ireturn, 1) := by decide +kernel
theorem dX9_odds_0 : decode cX9_odds 0 = .ok (.aload_n 0, 1) := by decide +kernel
theorem dX9_odds_1 : decode cX9_odds 1 = .ok (.iload_n 1, 1) := by decide +kernel
theorem dX9_odds_2 : decode cX9_odds 2 = .ok (.invokevirtual 160, 3) := by decide +kernel
theorem dX9_odds_5 : decode cX9_odds 5 = .ok (.ifCond .ne 7, 3) := by decide +kernel
theorem dX9_odds_8 : decode cX9_odds 8 = .ok (.ldc2_w 201, 3) := by decide +kernel
theorem dX9_odds_11 : decode cX9_odds 11 = .ok (.lreturn, 1) := by decide +kernel
theorem dX9_odds_12 : decode cX9_odds 12 = .ok (.iload_n 2, 1) := by decide +kernel
theorem dX9_odds_13 : decode cX9_odds 13 = .ok (.bipush 9, 2) := by decide +kernel
theorem dX9_odds_15 : decode cX9_odds 15 = .ok (.invokestatic 126, 3) := by decide +kernel
theorem dX9_odds_18 : decode cX9_odds 18 = .ok (.ifCond .eq 11, 3) := by decide +kernel
theorem dX9_odds_21 : decode cX9_odds 21 = .ok (.iload_n 3, 1) := by decide +kernel
theorem dX9_odds_22 : decode cX9_odds 22 = .ok (.iconst 1, 1) := by decide +kernel
theorem dX9_odds_23 : decode cX9_odds 23 = .ok (.invokestatic 126, 3) := by decide +kernel
theorem dX9_odds_26 : decode cX9_odds 26 = .ok (.ifCond .ne 7, 3) := by decide +kernel
theorem dX9_odds_29 : decode cX9_odds 29 = .ok (.ldc2_w 203, 3) := by decide +kernel
theorem dX9_odds_32 : decode cX9_odds 32 = .ok (.lreturn, 1) := by decide +kernel
theorem dX9_odds_33 : decode cX9_odds 33 = .ok (.aload_n 0, 1) := by decide +kernel
theorem dX9_odds_34 : decode cX9_odds 34 = .ok (.iload_n 1, 1) := by decide +kernel
theorem dX9_odds_35 : decode cX9_odds 35 = .ok (.invokevirtual 186, 3) := by decide +kernel
theorem dX9_odds_38 : decode cX9_odds 38 = .ok (.aload_n 0, 1) := by decide +kernel
theorem dX9_odds_39 : decode cX9_odds 39 = .ok (.getfield 72, 3) := by decide +kernel
theorem dX9_odds_42 : decode cX9_odds 42 = .ok (.aload_n 0, 1) := by decide +kernel
theorem dX9_odds_43 : decode cX9_odds 43 = .ok (.getfield 62, 3) := by decide +kernel
theorem dX9_odds_46 : decode cX9_odds 46 = .ok (.invokevirtual 190, 3) := by decide +kernel
theorem dX9_odds_49 : decode cX9_odds 49 = .ok (.aload_n 0, 1) := by decide +kernel
theorem dX9_odds_50 : decode cX9_odds 50 = .ok (.getfield 62, 3) := by decide +kernel
theorem dX9_odds_53 : decode cX9_odds 53 = .ok (.iload_n 2, 1) := by decide +kernel
theorem dX9_odds_54 : decode cX9_odds 54 = .ok (.invokevirtual 194, 3) := by decide +kernel
theorem dX9_odds_57 : decode cX9_odds 57 = .ok (.invokevirtual 205, 3) := by decide +kernel
theorem dX9_odds_60 : decode cX9_odds 60 = .ok (.aload_n 0, 1) := by decide +kernel
theorem dX9_odds_61 : decode cX9_odds 61 = .ok (.getfield 72, 3) := by decide +kernel
theorem dX9_odds_64 : decode cX9_odds 64 = .ok (.getfield 209, 3) := by decide +kernel
theorem dX9_odds_67 : decode cX9_odds 67 = .ok (.aload_n 0, 1) := by decide +kernel
theorem dX9_odds_68 : decode cX9_odds 68 = .ok (.getfield 72, 3) := by decide +kernel
theorem dX9_odds_71 : decode cX9_odds 71 = .ok (.getfield 212, 3) := by decide +kernel
theorem dX9_odds_74 : decode cX9_odds 74 = .ok (.iload_n 3, 1) := by decide +kernel
theorem dX9_odds_75 : decode cX9_odds 75 = .ok (.invokestatic 215, 3) := by decide +kernel
theorem dX9_odds_78 : decode cX9_odds 78 = .ok (.lreturn, 1) := by decide +kernel
theorem dX9_paid_0 : decode cX9_paid 0 = .ok (.iload_n 1, 1) := by decide +kernel
theorem dX9_paid_1 : decode cX9_paid 1 = .ok (.bipush 9, 2) := by decide +kernel
theorem dX9_paid_3 : decode cX9_paid 3 = .ok (.invokestatic 126, 3) := by decide +kernel
theorem dX9_paid_6 : decode cX9_paid 6 = .ok (.ifCond .eq 11, 3) := by decide +kernel
theorem dX9_paid_9 : decode cX9_paid 9 = .ok (.iload_n 2, 1) := by decide +kernel
theorem dX9_paid_10 : decode cX9_paid 10 = .ok (.iconst 1, 1) := by decide +kernel
theorem dX9_paid_11 : decode cX9_paid 11 = .ok (.invokestatic 126, 3) := by decide +kernel
theorem dX9_paid_14 : decode cX9_paid 14 = .ok (.ifCond .ne 7, 3) := by decide +kernel
theorem dX9_paid_17 : decode cX9_paid 17 = .ok (.ldc2_w 203, 3) := by decide +kernel
theorem dX9_paid_20 : decode cX9_paid 20 = .ok (.lreturn, 1) := by decide +kernel
theorem dX9_paid_21 : decode cX9_paid 21 = .ok (.aload_n 0, 1) := by decide +kernel
theorem dX9_paid_22 : decode cX9_paid 22 = .ok (.getfield 115, 3) := by decide +kernel
theorem dX9_paid_25 : decode cX9_paid 25 = .ok (.ifCond .ne 7, 3) := by decide +kernel
theorem dX9_paid_28 : decode cX9_paid 28 = .ok (.ldc2_w 219, 3) := by decide +kernel
theorem dX9_paid_31 : decode cX9_paid 31 = .ok (.lreturn, 1) := by decide +kernel
theorem dX9_paid_32 : decode cX9_paid 32 = .ok (.aload_n 0, 1) := by decide +kernel
theorem dX9_paid_33 : decode cX9_paid 33 = .ok (.getfield 72, 3) := by decide +kernel
theorem dX9_paid_36 : decode cX9_paid 36 = .ok (.invokevirtual 221, 3) := by decide +kernel
theorem dX9_paid_39 : decode cX9_paid 39 = .ok (.iconst 0, 1) := by decide +kernel
theorem dX9_paid_40 : decode cX9_paid 40 = .ok (.istore_n 3, 1) := by decide +kernel
theorem dX9_paid_41 : decode cX9_paid 41 = .ok (.iload_n 3, 1) := by decide +kernel
theorem dX9_paid_42 : decode cX9_paid 42 = .ok (.aload_n 0, 1) := by decide +kernel
theorem dX9_paid_43 : decode cX9_paid 43 = .ok (.getfield 115, 3) := by decide +kernel
theorem dX9_paid_46 : decode cX9_paid 46 = .ok (.if_icmp .ge 15, 3) := by decide +kernel
theorem dX9_paid_49 : decode cX9_paid 49 = .ok (.aload_n 0, 1) := by decide +kernel
theorem dX9_paid_50 : decode cX9_paid 50 = .ok (.iload_n 3, 1) := by decide +kernel
theorem dX9_paid_51 : decode cX9_paid 51 = .ok (.iload_n 1, 1) := by decide +kernel
theorem dX9_paid_52 : decode cX9_paid 52 = .ok (.invokevirtual 224, 3) := by decide +kernel
theorem dX9_paid_55 : decode cX9_paid 55 = .ok (.iinc 3 1, 3) := by decide +kernel
theorem dX9_paid_58 : decode cX9_paid 58 = .ok (.goto (-17), 3) := by decide +kernel
theorem dX9_paid_61 : decode cX9_paid 61 = .ok (.aload_n 0, 1) := by decide +kernel
theorem dX9_paid_62 : decode cX9_paid 62 = .ok (.getfield 72, 3) := by decide +kernel
theorem dX9_paid_65 : decode cX9_paid 65 = .ok (.getfield 227, 3) := by decide +kernel
theorem dX9_paid_68 : decode cX9_paid 68 = .ok (.aload_n 0, 1) := by decide +kernel
theorem dX9_paid_69 : decode cX9_paid 69 = .ok (.getfield 115, 3) := by decide +kernel
theorem dX9_paid_72 : decode cX9_paid 72 = .ok (.i2l, 1) := by decide +kernel
theorem dX9_paid_73 : decode cX9_paid 73 = .ok (.lmul, 1) := by decide +kernel
theorem dX9_paid_74 : decode cX9_paid 74 = .ok (.iload_n 1, 1) := by decide +kernel
theorem dX9_paid_75 : decode cX9_paid 75 = .ok (.iconst 1, 1) := by decide +kernel
theorem dX9_paid_76 : decode cX9_paid 76 = .ok (.iadd, 1) := by decide +kernel
theorem dX9_paid_77 : decode cX9_paid 77 = .ok (.i2l, 1) := by decide +kernel
theorem dX9_paid_78 : decode cX9_paid 78 = .ok (.lmul, 1) := by decide +kernel
theorem dX9_paid_79 : decode cX9_paid 79 = .ok (.lstore_n 3, 1) := by decide +kernel
theorem dX9_paid_80 : decode cX9_paid 80 = .ok (.lload_n 3, 1) := by decide +kernel
theorem dX9_paid_81 : decode cX9_paid 81 = .ok (.aload_n 0, 1) := by decide +kernel
theorem dX9_paid_82 : decode cX9_paid 82 = .ok (.getfield 72, 3) := by decide +kernel
theorem dX9_paid_85 : decode cX9_paid 85 = .ok (.getfield 230, 3) := by decide +kernel
theorem dX9_paid_88 : decode cX9_paid 88 = .ok (.lcmp, 1) := by decide +kernel
theorem dX9_paid_89 : decode cX9_paid 89 = .ok (.ifCond .lt 7, 3) := by decide +kernel
theorem dX9_paid_92 : decode cX9_paid 92 = .ok (.lconst 1, 1) := by decide +kernel
theorem dX9_paid_93 : decode cX9_paid 93 = .ok (.goto 15, 3) := by decide +kernel
theorem dX9_paid_96 : decode cX9_paid 96 = .ok (.lload_n 3, 1) := by decide +kernel
theorem dX9_paid_97 : decode cX9_paid 97 = .ok (.aload_n 0, 1) := by decide +kernel
theorem dX9_paid_98 : decode cX9_paid 98 = .ok (.getfield 72, 3) := by decide +kernel
theorem dX9_paid_101 : decode cX9_paid 101 = .ok (.getfield 230, 3) := by decide +kernel
theorem dX9_paid_104 : decode cX9_paid 104 = .ok (.iload_n 2, 1) := by decide +kernel
theorem dX9_paid_105 : decode cX9_paid 105 = .ok (.invokestatic 215, 3) := by decide +kernel
theorem dX9_paid_108 : decode cX9_paid 108 = .ok (.lreturn, 1) := by decide +kernel
theorem dX9_paint_0 : decode cX9_paint 0 = .ok (.iload_n 1, 1) := by decide +kernel
theorem dX9_paint_1 : decode cX9_paint 1 = .ok (.iconst 4, 1) := by decide +kernel
theorem dX9_paint_2 : decode cX9_paint 2 = .ok (.invokestatic 126, 3) := by decide +kernel
theorem dX9_paint_5 : decode cX9_paint 5 = .ok (.ifCond .eq 18, 3) := by decide +kernel
theorem dX9_paint_8 : decode cX9_paint 8 = .ok (.iload_n 2, 1) := by decide +kernel
theorem dX9_paint_9 : decode cX9_paint 9 = .ok (.iconst 1, 1) := by decide +kernel
theorem dX9_paint_10 : decode cX9_paint 10 = .ok (.if_icmp .lt 13, 3) := by decide +kernel
theorem dX9_paint_13 : decode cX9_paint 13 = .ok (.iload_n 2, 1) := by decide +kernel
theorem dX9_paint_14 : decode cX9_paint 14 = .ok (.bipush 8, 2) := by decide +kernel
theorem dX9_paint_16 : decode cX9_paint 16 = .ok (.if_icmp .gt 7, 3) := by decide +kernel
theorem dX9_paint_19 : decode cX9_paint 19 = .ok (.iload_n 3, 1) := by decide +kernel
theorem dX9_paint_20 : decode cX9_paint 20 = .ok (.ifCond .ge 6, 3) := by decide +kernel
theorem dX9_paint_23 : decode cX9_paint 23 = .ok (.bipush (-102), 2) := by decide +kernel
theorem dX9_paint_25 : decode cX9_paint 25 = .ok (.ireturn, 1) := by decide +kernel
theorem dX9_paint_26 : decode cX9_paint 26 = .ok (.aload_n 0, 1) := by decide +kernel
theorem dX9_paint_27 : decode cX9_paint 27 = .ok (.getfield 79, 3) := by decide +kernel
theorem dX9_paint_30 : decode cX9_paint 30 = .ok (.iload_n 3, 1) := by decide +kernel
theorem dX9_paint_31 : decode cX9_paint 31 = .ok (.i2l, 1) := by decide +kernel
theorem dX9_paint_32 : decode cX9_paint 32 = .ok (.putfield 175, 3) := by decide +kernel
theorem dX9_paint_35 : decode cX9_paint 35 = .ok (.iconst 0, 1) := by decide +kernel
theorem dX9_paint_36 : decode cX9_paint 36 = .ok (.istore 4, 2) := by decide +kernel
theorem dX9_paint_38 : decode cX9_paint 38 = .ok (.iload 4, 2) := by decide +kernel
theorem dX9_paint_40 : decode cX9_paint 40 = .ok (.iload_n 2, 1) := by decide +kernel
theorem dX9_paint_41 : decode cX9_paint 41 = .ok (.if_icmp .ge 21, 3) := by decide +kernel
theorem dX9_paint_44 : decode cX9_paint 44 = .ok (.aload_n 0, 1) := by decide +kernel
theorem dX9_paint_45 : decode cX9_paint 45 = .ok (.getfield 79, 3) := by decide +kernel
theorem dX9_paint_48 : decode cX9_paint 48 = .ok (.aload_n 0, 1) := by decide +kernel
theorem dX9_paint_49 : decode cX9_paint 49 = .ok (.getfield 62, 3) := by decide +kernel
theorem dX9_paint_52 : decode cX9_paint 52 = .ok (.iload_n 1, 1) := by decide +kernel
theorem dX9_paint_53 : decode cX9_paint 53 = .ok (.invokevirtual 179, 3) := by decide +kernel
theorem dX9_paint_56 : decode cX9_paint 56 = .ok (.iinc 4 1, 3) := by decide +kernel
theorem dX9_paint_59 : decode cX9_paint 59 = .ok (.goto (-21), 3) := by decide +kernel
theorem dX9_paint_62 : decode cX9_paint 62 = .ok (.aload_n 0, 1) := by decide +kernel
theorem dX9_paint_63 : decode cX9_paint 63 = .ok (.getfield 62, 3) := by decide +kernel
theorem dX9_paint_66 : decode cX9_paint 66 = .ok (.getfield 183, 3) := by decide +kernel
theorem dX9_paint_69 : decode cX9_paint 69 = .ok (.ireturn, 1) := by decide +kernel
theorem dX9_picture_0 : decode cX9_picture 0 = .ok (.iload_n 1, 1) := by decide +kernel
theorem dX9_picture_1 : decode cX9_picture 1 = .ok (.iconst 4, 1) := by decide +kernel
theorem dX9_picture_2 : decode cX9_picture 2 = .ok (.invokestatic 126, 3) := by decide +kernel
theorem dX9_picture_5 : decode cX9_picture 5 = .ok (.ifCond .eq 11, 3) := by decide +kernel
theorem dX9_picture_8 : decode cX9_picture 8 = .ok (.iload_n 2, 1) := by decide +kernel
theorem dX9_picture_9 : decode cX9_picture 9 = .ok (.iconst 4, 1) := by decide +kernel
theorem dX9_picture_10 : decode cX9_picture 10 = .ok (.invokestatic 126, 3) := by decide +kernel
theorem dX9_picture_13 : decode cX9_picture 13 = .ok (.ifCond .ne 6, 3) := by decide +kernel
theorem dX9_picture_16 : decode cX9_picture 16 = .ok (.bipush (-102), 2) := by decide +kernel
theorem dX9_picture_18 : decode cX9_picture 18 = .ok (.ireturn, 1) := by decide +kernel
theorem dX9_picture_19 : decode cX9_picture 19 = .ok (.iload_n 3, 1) := by decide +kernel
theorem dX9_picture_20 : decode cX9_picture 20 = .ok (.sipush 400, 3) := by decide +kernel
theorem dX9_picture_23 : decode cX9_picture 23 = .ok (.invokestatic 126, 3) := by decide +kernel
theorem dX9_picture_26 : decode cX9_picture 26 = .ok (.ifCond .eq 13, 3) := by decide +kernel
theorem dX9_picture_29 : decode cX9_picture 29 = .ok (.iload 4, 2) := by decide +kernel
theorem dX9_picture_31 : decode cX9_picture 31 = .ok (.bipush 20, 2) := by decide +kernel
theorem dX9_picture_33 : decode cX9_picture 33 = .ok (.invokestatic 126, 3) := by decide +kernel
theorem dX9_picture_36 : decode cX9_picture 36 = .ok (.ifCond .ne 6, 3) := by decide +kernel
theorem dX9_picture_39 : decode cX9_picture 39 = .ok (.bipush (-102), 2) := by decide +kernel
theorem dX9_picture_41 : decode cX9_picture 41 = .ok (.ireturn, 1) := by decide +kernel
theorem dX9_picture_42 : decode cX9_picture 42 = .ok (.iload 5, 2) := by decide +kernel
theorem dX9_picture_44 : decode cX9_picture 44 = .ok (.iconst (-1), 1) := by decide +kernel
theorem dX9_picture_45 : decode cX9_picture 45 = .ok (.if_icmp .eq 15, 3) := by decide +kernel
theorem dX9_picture_48 : decode cX9_picture 48 = .ok (.aload_n 0, 1) := by decide +kernel
theorem dX9_picture_49 : decode cX9_picture 49 = .ok (.iload 5, 2) := by decide +kernel
theorem dX9_picture_51 : decode cX9_picture 51 = .ok (.invokevirtual 133, 3) := by decide +kernel
theorem dX9_picture_54 : decode cX9_picture 54 = .ok (.ifCond .ne 6, 3) := by decide +kernel
theorem dX9_picture_57 : decode cX9_picture 57 = .ok (.bipush (-101), 2) := by decide +kernel
theorem dX9_picture_59 : decode cX9_picture 59 = .ok (.ireturn, 1) := by decide +kernel
theorem dX9_picture_60 : decode cX9_picture 60 = .ok (.iload 6, 2) := by decide +kernel
theorem dX9_picture_62 : decode cX9_picture 62 = .ok (.iconst (-1), 1) := by decide +kernel
theorem dX9_picture_63 : decode cX9_picture 63 = .ok (.if_icmp .eq 15, 3) := by decide +kernel
theorem dX9_picture_66 : decode cX9_picture 66 = .ok (.aload_n 0, 1) := by decide +kernel
theorem dX9_picture_67 : decode cX9_picture 67 = .ok (.iload 6, 2) := by decide +kernel
theorem dX9_picture_69 : decode cX9_picture 69 = .ok (.invokevirtual 137, 3) := by decide +kernel
theorem dX9_picture_72 : decode cX9_picture 72 = .ok (.ifCond .ne 6, 3) := by decide +kernel
theorem dX9_picture_75 : decode cX9_picture 75 = .ok (.bipush (-101), 2) := by decide +kernel
theorem dX9_picture_77 : decode cX9_picture 77 = .ok (.ireturn, 1) := by decide +kernel
theorem dX9_picture_78 : decode cX9_picture 78 = .ok (.aload_n 0, 1) := by decide +kernel
theorem dX9_picture_79 : decode cX9_picture 79 = .ok (.getfield 62, 3) := by decide +kernel
theorem dX9_picture_82 : decode cX9_picture 82 = .ok (.iload_n 1, 1) := by decide +kernel
theorem dX9_picture_83 : decode cX9_picture 83 = .ok (.iload_n 2, 1) := by decide +kernel
theorem dX9_picture_84 : decode cX9_picture 84 = .ok (.iload_n 3, 1) := by decide +kernel
theorem dX9_picture_85 : decode cX9_picture 85 = .ok (.iload 4, 2) := by decide +kernel
theorem dX9_picture_87 : decode cX9_picture 87 = .ok (.iload 5, 2) := by decide +kernel
theorem dX9_picture_89 : decode cX9_picture 89 = .ok (.iload 6, 2) := by decide +kernel
theorem dX9_picture_91 : decode cX9_picture 91 = .ok (.invokevirtual 140, 3) := by decide +kernel
theorem dX9_picture_94 : decode cX9_picture 94 = .ok (.ireturn, 1) := by decide +kernel
theorem dX9_pigment_0 : decode cX9_pigment 0 = .ok (.iload_n 1, 1) := by decide +kernel
theorem dX9_pigment_1 : decode cX9_pigment 1 = .ok (.sipush 400, 3) := by decide +kernel
theorem dX9_pigment_4 : decode cX9_pigment 4 = .ok (.invokestatic 126, 3) := by decide +kernel
theorem dX9_pigment_7 : decode cX9_pigment 7 = .ok (.ifCond .eq 12, 3) := by decide +kernel
theorem dX9_pigment_10 : decode cX9_pigment 10 = .ok (.iload_n 2, 1) := by decide +kernel
theorem dX9_pigment_11 : decode cX9_pigment 11 = .ok (.bipush 9, 2) := by decide +kernel
theorem dX9_pigment_13 : decode cX9_pigment 13 = .ok (.invokestatic 126, 3) := by decide +kernel
theorem dX9_pigment_16 : decode cX9_pigment 16 = .ok (.ifCond .ne 6, 3) := by decide +kernel
theorem dX9_pigment_19 : decode cX9_pigment 19 = .ok (.bipush (-102), 2) := by decide +kernel
theorem dX9_pigment_21 : decode cX9_pigment 21 = .ok (.ireturn, 1) := by decide +kernel
theorem dX9_pigment_22 : decode cX9_pigment 22 = .ok (.aload_n 0, 1) := by decide +kernel
theorem dX9_pigment_23 : decode cX9_pigment 23 = .ok (.getfield 130, 3) := by decide +kernel
theorem dX9_pigment_26 : decode cX9_pigment 26 = .ok (.iconst 4, 1) := by decide +kernel
theorem dX9_pigment_27 : decode cX9_pigment 27 = .ok (.if_icmp .lt 6, 3) := by decide +kernel
theorem dX9_pigment_30 : decode cX9_pigment 30 = .ok (.bipush (-104), 2) := by decide +kernel
theorem dX9_pigment_32 : decode cX9_pigment 32 = .ok (.ireturn, 1) := by decide +kernel
theorem dX9_pigment_33 : decode cX9_pigment 33 = .ok (.aload_n 0, 1) := by decide +kernel
theorem dX9_pigment_34 : decode cX9_pigment 34 = .ok (.getfield 42, 3) := by decide +kernel
theorem dX9_pigment_37 : decode cX9_pigment 37 = .ok (.aload_n 0, 1) := by decide +kernel
theorem dX9_pigment_38 : decode cX9_pigment 38 = .ok (.getfield 130, 3) := by decide +kernel
theorem dX9_pigment_41 : decode cX9_pigment 41 = .ok (.iload_n 1, 1) := by decide +kernel
theorem dX9_pigment_42 : decode cX9_pigment 42 = .ok (.iastore, 1) := by decide +kernel
theorem dX9_pigment_43 : decode cX9_pigment 43 = .ok (.aload_n 0, 1) := by decide +kernel
theorem dX9_pigment_44 : decode cX9_pigment 44 = .ok (.getfield 46, 3) := by decide +kernel
theorem dX9_pigment_47 : decode cX9_pigment 47 = .ok (.aload_n 0, 1) := by decide +kernel
theorem dX9_pigment_48 : decode cX9_pigment 48 = .ok (.getfield 130, 3) := by decide +kernel
theorem dX9_pigment_51 : decode cX9_pigment 51 = .ok (.iload_n 2, 1) := by decide +kernel
theorem dX9_pigment_52 : decode cX9_pigment 52 = .ok (.iastore, 1) := by decide +kernel
theorem dX9_pigment_53 : decode cX9_pigment 53 = .ok (.aload_n 0, 1) := by decide +kernel
theorem dX9_pigment_54 : decode cX9_pigment 54 = .ok (.dup, 1) := by decide +kernel
theorem dX9_pigment_55 : decode cX9_pigment 55 = .ok (.getfield 130, 3) := by decide +kernel
theorem dX9_pigment_58 : decode cX9_pigment 58 = .ok (.iconst 1, 1) := by decide +kernel
theorem dX9_pigment_59 : decode cX9_pigment 59 = .ok (.iadd, 1) := by decide +kernel
theorem dX9_pigment_60 : decode cX9_pigment 60 = .ok (.putfield 130, 3) := by decide +kernel
theorem dX9_pigment_63 : decode cX9_pigment 63 = .ok (.aload_n 0, 1) := by decide +kernel
theorem dX9_pigment_64 : decode cX9_pigment 64 = .ok (.getfield 130, 3) := by decide +kernel
theorem dX9_pigment_67 : decode cX9_pigment 67 = .ok (.iconst 1, 1) := by decide +kernel
theorem dX9_pigment_68 : decode cX9_pigment 68 = .ok (.isub, 1) := by decide +kernel
theorem dX9_pigment_69 : decode cX9_pigment 69 = .ok (.ireturn, 1) := by decide +kernel
