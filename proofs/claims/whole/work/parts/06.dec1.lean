theorem dX10_goLamp_0 : decode cX10_goLamp 0 = .ok (.aload_n 0, 1) := by decide +kernel
theorem dX10_goLamp_1 : decode cX10_goLamp 1 = .ok (.getfield 107, 3) := by decide +kernel
theorem dX10_goLamp_4 : decode cX10_goLamp 4 = .ok (.iconst 3, 1) := by decide +kernel
theorem dX10_goLamp_5 : decode cX10_goLamp 5 = .ok (.if_icmp .ne 64, 3) := by decide +kernel
theorem dX10_goLamp_8 : decode cX10_goLamp 8 = .ok (.iload_n 1, 1) := by decide +kernel
theorem dX10_goLamp_9 : decode cX10_goLamp 9 = .ok (.invokestatic 110, 3) := by decide +kernel
theorem dX10_goLamp_12 : decode cX10_goLamp 12 = .ok (.ifCond .eq 57, 3) := by decide +kernel
theorem dX10_goLamp_15 : decode cX10_goLamp 15 = .ok (.aload_n 0, 1) := by decide +kernel
theorem dX10_goLamp_16 : decode cX10_goLamp 16 = .ok (.bipush 10, 2) := by decide +kernel
theorem dX10_goLamp_18 : decode cX10_goLamp 18 = .ok (.aload_n 0, 1) := by decide +kernel
theorem dX10_goLamp_19 : decode cX10_goLamp 19 = .ok (.getfield 114, 3) := by decide +kernel
theorem dX10_goLamp_22 : decode cX10_goLamp 22 = .ok (.imul, 1) := by decide +kernel
theorem dX10_goLamp_23 : decode cX10_goLamp 23 = .ok (.iload_n 1, 1) := by decide +kernel
theorem dX10_goLamp_24 : decode cX10_goLamp 24 = .ok (.iadd, 1) := by decide +kernel
theorem dX10_goLamp_25 : decode cX10_goLamp 25 = .ok (.bipush 48, 2) := by decide +kernel
theorem dX10_goLamp_27 : decode cX10_goLamp 27 = .ok (.isub, 1) := by decide +kernel
theorem dX10_goLamp_28 : decode cX10_goLamp 28 = .ok (.putfield 114, 3) := by decide +kernel
theorem dX10_goLamp_31 : decode cX10_goLamp 31 = .ok (.aload_n 0, 1) := by decide +kernel
theorem dX10_goLamp_32 : decode cX10_goLamp 32 = .ok (.getfield 13, 3) := by decide +kernel
theorem dX10_goLamp_35 : decode cX10_goLamp 35 = .ok (.aload_n 0, 1) := by decide +kernel
theorem dX10_goLamp_36 : decode cX10_goLamp 36 = .ok (.getfield 117, 3) := by decide +kernel
theorem dX10_goLamp_39 : decode cX10_goLamp 39 = .ok (.aload_n 0, 1) := by decide +kernel
theorem dX10_goLamp_40 : decode cX10_goLamp 40 = .ok (.getfield 120, 3) := by decide +kernel
theorem dX10_goLamp_43 : decode cX10_goLamp 43 = .ok (.aload_n 0, 1) := by decide +kernel
theorem dX10_goLamp_44 : decode cX10_goLamp 44 = .ok (.getfield 114, 3) := by decide +kernel
theorem dX10_goLamp_47 : decode cX10_goLamp 47 = .ok (.imul, 1) := by decide +kernel
theorem dX10_goLamp_48 : decode cX10_goLamp 48 = .ok (.iastore, 1) := by decide +kernel
theorem dX10_goLamp_49 : decode cX10_goLamp 49 = .ok (.aload_n 0, 1) := by decide +kernel
theorem dX10_goLamp_50 : decode cX10_goLamp 50 = .ok (.iconst 4, 1) := by decide +kernel
theorem dX10_goLamp_51 : decode cX10_goLamp 51 = .ok (.putfield 107, 3) := by decide +kernel
theorem dX10_goLamp_54 : decode cX10_goLamp 54 = .ok (.aload_n 0, 1) := by decide +kernel
theorem dX10_goLamp_55 : decode cX10_goLamp 55 = .ok (.getfield 114, 3) := by decide +kernel
theorem dX10_goLamp_58 : decode cX10_goLamp 58 = .ok (.bipush 20, 2) := by decide +kernel
theorem dX10_goLamp_60 : decode cX10_goLamp 60 = .ok (.if_icmp .gt 7, 3) := by decide +kernel
theorem dX10_goLamp_63 : decode cX10_goLamp 63 = .ok (.iconst 1, 1) := by decide +kernel
theorem dX10_goLamp_64 : decode cX10_goLamp 64 = .ok (.goto 4, 3) := by decide +kernel
theorem dX10_goLamp_67 : decode cX10_goLamp 67 = .ok (.iconst 0, 1) := by decide +kernel
theorem dX10_goLamp_68 : decode cX10_goLamp 68 = .ok (.ireturn, 1) := by decide +kernel
theorem dX10_goLamp_69 : decode cX10_goLamp 69 = .ok (.aload_n 0, 1) := by decide +kernel
theorem dX10_goLamp_70 : decode cX10_goLamp 70 = .ok (.getfield 107, 3) := by decide +kernel
theorem dX10_goLamp_73 : decode cX10_goLamp 73 = .ok (.ifCond .eq 11, 3) := by decide +kernel
theorem dX10_goLamp_76 : decode cX10_goLamp 76 = .ok (.aload_n 0, 1) := by decide +kernel
theorem dX10_goLamp_77 : decode cX10_goLamp 77 = .ok (.getfield 107, 3) := by decide +kernel
theorem dX10_goLamp_80 : decode cX10_goLamp 80 = .ok (.iconst 2, 1) := by decide +kernel
theorem dX10_goLamp_81 : decode cX10_goLamp 81 = .ok (.if_icmp .le 69, 3) := by decide +kernel
theorem dX10_goLamp_84 : decode cX10_goLamp 84 = .ok (.aload_n 0, 1) := by decide +kernel
theorem dX10_goLamp_85 : decode cX10_goLamp 85 = .ok (.iload_n 1, 1) := by decide +kernel
theorem dX10_goLamp_86 : decode cX10_goLamp 86 = .ok (.invokestatic 123, 3) := by decide +kernel
theorem dX10_goLamp_89 : decode cX10_goLamp 89 = .ok (.putfield 117, 3) := by decide +kernel
theorem dX10_goLamp_92 : decode cX10_goLamp 92 = .ok (.aload_n 0, 1) := by decide +kernel
theorem dX10_goLamp_93 : decode cX10_goLamp 93 = .ok (.getfield 117, 3) := by decide +kernel
theorem dX10_goLamp_96 : decode cX10_goLamp 96 = .ok (.iconst (-1), 1) := by decide +kernel
theorem dX10_goLamp_97 : decode cX10_goLamp 97 = .ok (.if_icmp .eq 21, 3) := by decide +kernel
theorem dX10_goLamp_100 : decode cX10_goLamp 100 = .ok (.aload_n 0, 1) := by decide +kernel
theorem dX10_goLamp_101 : decode cX10_goLamp 101 = .ok (.getfield 127, 3) := by decide +kernel
theorem dX10_goLamp_104 : decode cX10_goLamp 104 = .ok (.aload_n 0, 1) := by decide +kernel
theorem dX10_goLamp_105 : decode cX10_goLamp 105 = .ok (.getfield 117, 3) := by decide +kernel
theorem dX10_goLamp_108 : decode cX10_goLamp 108 = .ok (.ishr, 1) := by decide +kernel
theorem dX10_goLamp_109 : decode cX10_goLamp 109 = .ok (.iconst 1, 1) := by decide +kernel
theorem dX10_goLamp_110 : decode cX10_goLamp 110 = .ok (.iand, 1) := by decide +kernel
theorem dX10_goLamp_111 : decode cX10_goLamp 111 = .ok (.ifCond .ne 7, 3) := by decide +kernel
theorem dX10_goLamp_114 : decode cX10_goLamp 114 = .ok (.iconst 1, 1) := by decide +kernel
theorem dX10_goLamp_115 : decode cX10_goLamp 115 = .ok (.goto 4, 3) := by decide +kernel
theorem dX10_goLamp_118 : decode cX10_goLamp 118 = .ok (.iconst 0, 1) := by decide +kernel
theorem dX10_goLamp_119 : decode cX10_goLamp 119 = .ok (.istore_n 2, 1) := by decide +kernel
theorem dX10_goLamp_120 : decode cX10_goLamp 120 = .ok (.aload_n 0, 1) := by decide +kernel
theorem dX10_goLamp_121 : decode cX10_goLamp 121 = .ok (.dup, 1) := by decide +kernel
theorem dX10_goLamp_122 : decode cX10_goLamp 122 = .ok (.getfield 127, 3) := by decide +kernel
theorem dX10_goLamp_125 : decode cX10_goLamp 125 = .ok (.iload_n 2, 1) := by decide +kernel
theorem dX10_goLamp_126 : decode cX10_goLamp 126 = .ok (.ifCond .eq 12, 3) := by decide +kernel
theorem dX10_goLamp_129 : decode cX10_goLamp 129 = .ok (.iconst 1, 1) := by decide +kernel
theorem dX10_goLamp_130 : decode cX10_goLamp 130 = .ok (.aload_n 0, 1) := by decide +kernel
theorem dX10_goLamp_131 : decode cX10_goLamp 131 = .ok (.getfield 117, 3) := by decide +kernel
theorem dX10_goLamp_134 : decode cX10_goLamp 134 = .ok (.ishl, 1) := by decide +kernel
theorem dX10_goLamp_135 : decode cX10_goLamp 135 = .ok (.goto 4, 3) := by decide +kernel
theorem dX10_goLamp_138 : decode cX10_goLamp 138 = .ok (.iconst 0, 1) := by decide +kernel
theorem dX10_goLamp_139 : decode cX10_goLamp 139 = .ok (.ior, 1) := by decide +kernel
theorem dX10_goLamp_140 : decode cX10_goLamp 140 = .ok (.putfield 127, 3) := by decide +kernel
theorem dX10_goLamp_143 : decode cX10_goLamp 143 = .ok (.aload_n 0, 1) := by decide +kernel
theorem dX10_goLamp_144 : decode cX10_goLamp 144 = .ok (.iconst 1, 1) := by decide +kernel
theorem dX10_goLamp_145 : decode cX10_goLamp 145 = .ok (.putfield 107, 3) := by decide +kernel
theorem dX10_goLamp_148 : decode cX10_goLamp 148 = .ok (.iload_n 2, 1) := by decide +kernel
theorem dX10_goLamp_149 : decode cX10_goLamp 149 = .ok (.ireturn, 1) := by decide +kernel
theorem dX10_goLamp_150 : decode cX10_goLamp 150 = .ok (.aload_n 0, 1) := by decide +kernel
theorem dX10_goLamp_151 : decode cX10_goLamp 151 = .ok (.getfield 107, 3) := by decide +kernel
theorem dX10_goLamp_154 : decode cX10_goLamp 154 = .ok (.iconst 1, 1) := by decide +kernel
theorem dX10_goLamp_155 : decode cX10_goLamp 155 = .ok (.if_icmp .ne 41, 3) := by decide +kernel
theorem dX10_goLamp_158 : decode cX10_goLamp 158 = .ok (.aload_n 0, 1) := by decide +kernel
theorem dX10_goLamp_159 : decode cX10_goLamp 159 = .ok (.iload_n 1, 1) := by decide +kernel
theorem dX10_goLamp_160 : decode cX10_goLamp 160 = .ok (.bipush 43, 2) := by decide +kernel
theorem dX10_goLamp_162 : decode cX10_goLamp 162 = .ok (.if_icmp .ne 7, 3) := by decide +kernel
theorem dX10_goLamp_165 : decode cX10_goLamp 165 = .ok (.iconst 1, 1) := by decide +kernel
theorem dX10_goLamp_166 : decode cX10_goLamp 166 = .ok (.goto 4, 3) := by decide +kernel
theorem dX10_goLamp_169 : decode cX10_goLamp 169 = .ok (.iconst (-1), 1) := by decide +kernel
theorem dX10_goLamp_170 : decode cX10_goLamp 170 = .ok (.putfield 120, 3) := by decide +kernel
theorem dX10_goLamp_173 : decode cX10_goLamp 173 = .ok (.aload_n 0, 1) := by decide +kernel
theorem dX10_goLamp_174 : decode cX10_goLamp 174 = .ok (.iconst 2, 1) := by decide +kernel
theorem dX10_goLamp_175 : decode cX10_goLamp 175 = .ok (.putfield 107, 3) := by decide +kernel
theorem dX10_goLamp_178 : decode cX10_goLamp 178 = .ok (.iload_n 1, 1) := by decide +kernel
theorem dX10_goLamp_179 : decode cX10_goLamp 179 = .ok (.bipush 43, 2) := by decide +kernel
theorem dX10_goLamp_181 : decode cX10_goLamp 181 = .ok (.if_icmp .eq 9, 3) := by decide +kernel
theorem dX10_goLamp_184 : decode cX10_goLamp 184 = .ok (.iload_n 1, 1) := by decide +kernel
theorem dX10_goLamp_185 : decode cX10_goLamp 185 = .ok (.bipush 45, 2) := by decide +kernel
theorem dX10_goLamp_187 : decode cX10_goLamp 187 = .ok (.if_icmp .ne 7, 3) := by decide +kernel
theorem dX10_goLamp_190 : decode cX10_goLamp 190 = .ok (.iconst 1, 1) := by decide +kernel
theorem dX10_goLamp_191 : decode cX10_goLamp 191 = .ok (.goto 4, 3) := by decide +kernel
theorem dX10_goLamp_194 : decode cX10_goLamp 194 = .ok (.iconst 0, 1) := by decide +kernel
theorem dX10_goLamp_195 : decode cX10_goLamp 195 = .ok (.ireturn, 1) := by decide +kernel
theorem dX10_goLamp_196 : decode cX10_goLamp 196 = .ok (.aload_n 0, 1) := by decide +kernel
theorem dX10_goLamp_197 : decode cX10_goLamp 197 = .ok (.iload_n 1, 1) := by decide +kernel
theorem dX10_goLamp_198 : decode cX10_goLamp 198 = .ok (.bipush 48, 2) := by decide +kernel
theorem dX10_goLamp_200 : decode cX10_goLamp 200 = .ok (.isub, 1) := by decide +kernel
theorem dX10_goLamp_201 : decode cX10_goLamp 201 = .ok (.putfield 114, 3) := by decide +kernel
theorem dX10_goLamp_204 : decode cX10_goLamp 204 = .ok (.aload_n 0, 1) := by decide +kernel
theorem dX10_goLamp_205 : decode cX10_goLamp 205 = .ok (.getfield 13, 3) := by decide +kernel
theorem dX10_goLamp_208 : decode cX10_goLamp 208 = .ok (.aload_n 0, 1) := by decide +kernel
theorem dX10_goLamp_209 : decode cX10_goLamp 209 = .ok (.getfield 117, 3) := by decide +kernel
theorem dX10_goLamp_212 : decode cX10_goLamp 212 = .ok (.aload_n 0, 1) := by decide +kernel
theorem dX10_goLamp_213 : decode cX10_goLamp 213 = .ok (.getfield 120, 3) := by decide +kernel
theorem dX10_goLamp_216 : decode cX10_goLamp 216 = .ok (.aload_n 0, 1) := by decide +kernel
theorem dX10_goLamp_217 : decode cX10_goLamp 217 = .ok (.getfield 114, 3) := by decide +kernel
theorem dX10_goLamp_220 : decode cX10_goLamp 220 = .ok (.imul, 1) := by decide +kernel
theorem dX10_goLamp_221 : decode cX10_goLamp 221 = .ok (.iastore, 1) := by decide +kernel
theorem dX10_goLamp_222 : decode cX10_goLamp 222 = .ok (.aload_n 0, 1) := by decide +kernel
theorem dX10_goLamp_223 : decode cX10_goLamp 223 = .ok (.iload_n 1, 1) := by decide +kernel
theorem dX10_goLamp_224 : decode cX10_goLamp 224 = .ok (.bipush 49, 2) := by decide +kernel
theorem dX10_goLamp_226 : decode cX10_goLamp 226 = .ok (.if_icmp .eq 9, 3) := by decide +kernel
theorem dX10_goLamp_229 : decode cX10_goLamp 229 = .ok (.iload_n 1, 1) := by decide +kernel
theorem dX10_goLamp_230 : decode cX10_goLamp 230 = .ok (.bipush 50, 2) := by decide +kernel
theorem dX10_goLamp_232 : decode cX10_goLamp 232 = .ok (.if_icmp .ne 7, 3) := by decide +kernel
theorem dX10_goLamp_235 : decode cX10_goLamp 235 = .ok (.iconst 3, 1) := by decide +kernel
theorem dX10_goLamp_236 : decode cX10_goLamp 236 = .ok (.goto 4, 3) := by decide +kernel
theorem dX10_goLamp_239 : decode cX10_goLamp 239 = .ok (.iconst 4, 1) := by decide +kernel
theorem dX10_goLamp_240 : decode cX10_goLamp 240 = .ok (.putfield 107, 3) := by decide +kernel
theorem dX10_goLamp_243 : decode cX10_goLamp 243 = .ok (.iload_n 1, 1) := by decide +kernel
theorem dX10_goLamp_244 : decode cX10_goLamp 244 = .ok (.invokestatic 110, 3) := by decide +kernel
theorem dX10_goLamp_247 : decode cX10_goLamp 247 = .ok (.ireturn, 1) := by decide +kernel
theorem dX10_goLaw_0 : decode cX10_goLaw 0 = .ok (.aload_n 0, 1) := by decide +kernel
theorem dX10_goLaw_1 : decode cX10_goLaw 1 = .ok (.getfield 133, 3) := by decide +kernel
theorem dX10_goLaw_4 : decode cX10_goLaw 4 = .ok (.ifCond .ne 7, 3) := by decide +kernel
theorem dX10_goLaw_7 : decode cX10_goLaw 7 = .ok (.iconst 0, 1) := by decide +kernel
theorem dX10_goLaw_8 : decode cX10_goLaw 8 = .ok (.goto 14, 3) := by decide +kernel
theorem dX10_goLaw_11 : decode cX10_goLaw 11 = .ok (.aload_n 0, 1) := by decide +kernel
theorem dX10_goLaw_12 : decode cX10_goLaw 12 = .ok (.getfield 19, 3) := by decide +kernel
theorem dX10_goLaw_15 : decode cX10_goLaw 15 = .ok (.aload_n 0, 1) := by decide +kernel
theorem dX10_goLaw_16 : decode cX10_goLaw 16 = .ok (.getfield 133, 3) := by decide +kernel
theorem dX10_goLaw_19 : decode cX10_goLaw 19 = .ok (.iconst 1, 1) := by decide +kernel
theorem dX10_goLaw_20 : decode cX10_goLaw 20 = .ok (.isub, 1) := by decide +kernel
theorem dX10_goLaw_21 : decode cX10_goLaw 21 = .ok (.iaload, 1) := by decide +kernel
theorem dX10_goLaw_22 : decode cX10_goLaw 22 = .ok (.istore_n 2, 1) := by decide +kernel
theorem dX10_goLaw_23 : decode cX10_goLaw 23 = .ok (.aload_n 0, 1) := by decide +kernel
theorem dX10_goLaw_24 : decode cX10_goLaw 24 = .ok (.getfield 107, 3) := by decide +kernel
theorem dX10_goLaw_27 : decode cX10_goLaw 27 = .ok (.iconst 2, 1) := by decide +kernel
theorem dX10_goLaw_28 : decode cX10_goLaw 28 = .ok (.if_icmp .ge 104, 3) := by decide +kernel
theorem dX10_goLaw_31 : decode cX10_goLaw 31 = .ok (.iload_n 1, 1) := by decide +kernel
theorem dX10_goLaw_32 : decode cX10_goLaw 32 = .ok (.invokestatic 110, 3) := by decide +kernel
theorem dX10_goLaw_35 : decode cX10_goLaw 35 = .ok (.ifCond .eq 97, 3) := by decide +kernel
theorem dX10_goLaw_38 : decode cX10_goLaw 38 = .ok (.aload_n 0, 1) := by decide +kernel
theorem dX10_goLaw_39 : decode cX10_goLaw 39 = .ok (.aload_n 0, 1) := by decide +kernel
theorem dX10_goLaw_40 : decode cX10_goLaw 40 = .ok (.getfield 107, 3) := by decide +kernel
theorem dX10_goLaw_43 : decode cX10_goLaw 43 = .ok (.ifCond .ne 7, 3) := by decide +kernel
theorem dX10_goLaw_46 : decode cX10_goLaw 46 = .ok (.iconst 1, 1) := by decide +kernel
theorem dX10_goLaw_47 : decode cX10_goLaw 47 = .ok (.goto 9, 3) := by decide +kernel
theorem dX10_goLaw_50 : decode cX10_goLaw 50 = .ok (.aload_n 0, 1) := by decide +kernel
theorem dX10_goLaw_51 : decode cX10_goLaw 51 = .ok (.getfield 117, 3) := by decide +kernel
theorem dX10_goLaw_54 : decode cX10_goLaw 54 = .ok (.iconst 1, 1) := by decide +kernel
theorem dX10_goLaw_55 : decode cX10_goLaw 55 = .ok (.iadd, 1) := by decide +kernel
theorem dX10_goLaw_56 : decode cX10_goLaw 56 = .ok (.putfield 117, 3) := by decide +kernel
theorem dX10_goLaw_59 : decode cX10_goLaw 59 = .ok (.aload_n 0, 1) := by decide +kernel
theorem dX10_goLaw_60 : decode cX10_goLaw 60 = .ok (.aload_n 0, 1) := by decide +kernel
theorem dX10_goLaw_61 : decode cX10_goLaw 61 = .ok (.getfield 107, 3) := by decide +kernel
theorem dX10_goLaw_64 : decode cX10_goLaw 64 = .ok (.ifCond .ne 10, 3) := by decide +kernel
theorem dX10_goLaw_67 : decode cX10_goLaw 67 = .ok (.iload_n 1, 1) := by decide +kernel
theorem dX10_goLaw_68 : decode cX10_goLaw 68 = .ok (.bipush 48, 2) := by decide +kernel
theorem dX10_goLaw_70 : decode cX10_goLaw 70 = .ok (.isub, 1) := by decide +kernel
theorem dX10_goLaw_71 : decode cX10_goLaw 71 = .ok (.goto 15, 3) := by decide +kernel
theorem dX10_goLaw_74 : decode cX10_goLaw 74 = .ok (.bipush 10, 2) := by decide +kernel
theorem dX10_goLaw_76 : decode cX10_goLaw 76 = .ok (.aload_n 0, 1) := by decide +kernel
theorem dX10_goLaw_77 : decode cX10_goLaw 77 = .ok (.getfield 114, 3) := by decide +kernel
theorem dX10_goLaw_80 : decode cX10_goLaw 80 = .ok (.imul, 1) := by decide +kernel
theorem dX10_goLaw_81 : decode cX10_goLaw 81 = .ok (.iload_n 1, 1) := by decide +kernel
theorem dX10_goLaw_82 : decode cX10_goLaw 82 = .ok (.iadd, 1) := by decide +kernel
theorem dX10_goLaw_83 : decode cX10_goLaw 83 = .ok (.bipush 48, 2) := by decide +kernel
theorem dX10_goLaw_85 : decode cX10_goLaw 85 = .ok (.isub, 1) := by decide +kernel
theorem dX10_goLaw_86 : decode cX10_goLaw 86 = .ok (.putfield 114, 3) := by decide +kernel
theorem dX10_goLaw_89 : decode cX10_goLaw 89 = .ok (.aload_n 0, 1) := by decide +kernel
theorem dX10_goLaw_90 : decode cX10_goLaw 90 = .ok (.getfield 107, 3) := by decide +kernel
theorem dX10_goLaw_93 : decode cX10_goLaw 93 = .ok (.iconst 1, 1) := by decide +kernel
theorem dX10_goLaw_94 : decode cX10_goLaw 94 = .ok (.if_icmp .eq 9, 3) := by decide +kernel
theorem dX10_goLaw_97 : decode cX10_goLaw 97 = .ok (.iload_n 1, 1) := by decide +kernel
theorem dX10_goLaw_98 : decode cX10_goLaw 98 = .ok (.bipush 48, 2) := by decide +kernel
theorem dX10_goLaw_100 : decode cX10_goLaw 100 = .ok (.if_icmp .eq 23, 3) := by decide +kernel
theorem dX10_goLaw_103 : decode cX10_goLaw 103 = .ok (.aload_n 0, 1) := by decide +kernel
theorem dX10_goLaw_104 : decode cX10_goLaw 104 = .ok (.getfield 117, 3) := by decide +kernel
theorem dX10_goLaw_107 : decode cX10_goLaw 107 = .ok (.iconst 4, 1) := by decide +kernel
theorem dX10_goLaw_108 : decode cX10_goLaw 108 = .ok (.if_icmp .ge 15, 3) := by decide +kernel
theorem dX10_goLaw_111 : decode cX10_goLaw 111 = .ok (.aload_n 0, 1) := by decide +kernel
theorem dX10_goLaw_112 : decode cX10_goLaw 112 = .ok (.invokevirtual 141, 3) := by decide +kernel
theorem dX10_goLaw_115 : decode cX10_goLaw 115 = .ok (.iload_n 2, 1) := by decide +kernel
theorem dX10_goLaw_116 : decode cX10_goLaw 116 = .ok (.if_icmp .le 7, 3) := by decide +kernel
theorem dX10_goLaw_119 : decode cX10_goLaw 119 = .ok (.iconst 1, 1) := by decide +kernel
theorem dX10_goLaw_120 : decode cX10_goLaw 120 = .ok (.goto 4, 3) := by decide +kernel
theorem dX10_goLaw_123 : decode cX10_goLaw 123 = .ok (.iconst 0, 1) := by decide +kernel
theorem dX10_goLaw_124 : decode cX10_goLaw 124 = .ok (.istore_n 3, 1) := by decide +kernel
theorem dX10_goLaw_125 : decode cX10_goLaw 125 = .ok (.aload_n 0, 1) := by decide +kernel
theorem dX10_goLaw_126 : decode cX10_goLaw 126 = .ok (.iconst 1, 1) := by decide +kernel
theorem dX10_goLaw_127 : decode cX10_goLaw 127 = .ok (.putfield 107, 3) := by decide +kernel
theorem dX10_goLaw_130 : decode cX10_goLaw 130 = .ok (.iload_n 3, 1) := by decide +kernel
theorem dX10_goLaw_131 : decode cX10_goLaw 131 = .ok (.ireturn, 1) := by decide +kernel
theorem dX10_goLaw_132 : decode cX10_goLaw 132 = .ok (.aload_n 0, 1) := by decide +kernel
theorem dX10_goLaw_133 : decode cX10_goLaw 133 = .ok (.getfield 107, 3) := by decide +kernel
theorem dX10_goLaw_136 : decode cX10_goLaw 136 = .ok (.iconst 2, 1) := by decide +kernel
theorem dX10_goLaw_137 : decode cX10_goLaw 137 = .ok (.if_icmp .ge 119, 3) := by decide +kernel
theorem dX10_goLaw_140 : decode cX10_goLaw 140 = .ok (.aload_n 0, 1) := by decide +kernel
theorem dX10_goLaw_141 : decode cX10_goLaw 141 = .ok (.getfield 107, 3) := by decide +kernel
theorem dX10_goLaw_144 : decode cX10_goLaw 144 = .ok (.iconst 1, 1) := by decide +kernel
theorem dX10_goLaw_145 : decode cX10_goLaw 145 = .ok (.if_icmp .ne 15, 3) := by decide +kernel
theorem dX10_goLaw_148 : decode cX10_goLaw 148 = .ok (.aload_n 0, 1) := by decide +kernel
theorem dX10_goLaw_149 : decode cX10_goLaw 149 = .ok (.getfield 114, 3) := by decide +kernel
theorem dX10_goLaw_152 : decode cX10_goLaw 152 = .ok (.iload_n 2, 1) := by decide +kernel
theorem dX10_goLaw_153 : decode cX10_goLaw 153 = .ok (.if_icmp .le 7, 3) := by decide +kernel
theorem dX10_goLaw_156 : decode cX10_goLaw 156 = .ok (.iconst 1, 1) := by decide +kernel
theorem dX10_goLaw_157 : decode cX10_goLaw 157 = .ok (.goto 4, 3) := by decide +kernel
theorem dX10_goLaw_160 : decode cX10_goLaw 160 = .ok (.iconst 0, 1) := by decide +kernel
theorem dX10_goLaw_161 : decode cX10_goLaw 161 = .ok (.istore_n 3, 1) := by decide +kernel
theorem dX10_goLaw_162 : decode cX10_goLaw 162 = .ok (.iload_n 1, 1) := by decide +kernel
theorem dX10_goLaw_163 : decode cX10_goLaw 163 = .ok (.bipush 44, 2) := by decide +kernel
theorem dX10_goLaw_165 : decode cX10_goLaw 165 = .ok (.if_icmp .ne 25, 3) := by decide +kernel
theorem dX10_goLaw_168 : decode cX10_goLaw 168 = .ok (.aload_n 0, 1) := by decide +kernel
theorem dX10_goLaw_169 : decode cX10_goLaw 169 = .ok (.getfield 133, 3) := by decide +kernel
theorem dX10_goLaw_172 : decode cX10_goLaw 172 = .ok (.iconst 4, 1) := by decide +kernel
theorem dX10_goLaw_173 : decode cX10_goLaw 173 = .ok (.if_icmp .ge 17, 3) := by decide +kernel
theorem dX10_goLaw_176 : decode cX10_goLaw 176 = .ok (.aload_n 0, 1) := by decide +kernel
theorem dX10_goLaw_177 : decode cX10_goLaw 177 = .ok (.getfield 114, 3) := by decide +kernel
theorem dX10_goLaw_180 : decode cX10_goLaw 180 = .ok (.sipush 999, 3) := by decide +kernel
theorem dX10_goLaw_183 : decode cX10_goLaw 183 = .ok (.if_icmp .ge 7, 3) := by decide +kernel
theorem dX10_goLaw_186 : decode cX10_goLaw 186 = .ok (.iconst 1, 1) := by decide +kernel
theorem dX10_goLaw_187 : decode cX10_goLaw 187 = .ok (.goto 4, 3) := by decide +kernel
theorem dX10_goLaw_190 : decode cX10_goLaw 190 = .ok (.iconst 0, 1) := by decide +kernel
theorem dX10_goLaw_191 : decode cX10_goLaw 191 = .ok (.istore 4, 2) := by decide +kernel
theorem dX10_goLaw_193 : decode cX10_goLaw 193 = .ok (.iload_n 3, 1) := by decide +kernel
theorem dX10_goLaw_194 : decode cX10_goLaw 194 = .ok (.ifCond .eq 26, 3) := by decide +kernel
theorem dX10_goLaw_197 : decode cX10_goLaw 197 = .ok (.aload_n 0, 1) := by decide +kernel
theorem dX10_goLaw_198 : decode cX10_goLaw 198 = .ok (.getfield 19, 3) := by decide +kernel
theorem dX10_goLaw_201 : decode cX10_goLaw 201 = .ok (.aload_n 0, 1) := by decide +kernel
theorem dX10_goLaw_202 : decode cX10_goLaw 202 = .ok (.getfield 133, 3) := by decide +kernel
theorem dX10_goLaw_205 : decode cX10_goLaw 205 = .ok (.aload_n 0, 1) := by decide +kernel
theorem dX10_goLaw_206 : decode cX10_goLaw 206 = .ok (.getfield 114, 3) := by decide +kernel
theorem dX10_goLaw_209 : decode cX10_goLaw 209 = .ok (.iastore, 1) := by decide +kernel
theorem dX10_goLaw_210 : decode cX10_goLaw 210 = .ok (.aload_n 0, 1) := by decide +kernel
theorem dX10_goLaw_211 : decode cX10_goLaw 211 = .ok (.dup, 1) := by decide +kernel
theorem dX10_goLaw_212 : decode cX10_goLaw 212 = .ok (.getfield 133, 3) := by decide +kernel
theorem dX10_goLaw_215 : decode cX10_goLaw 215 = .ok (.iconst 1, 1) := by decide +kernel
theorem dX10_goLaw_216 : decode cX10_goLaw 216 = .ok (.iadd, 1) := by decide +kernel
theorem dX10_goLaw_217 : decode cX10_goLaw 217 = .ok (.putfield 133, 3) := by decide +kernel
theorem dX10_goLaw_220 : decode cX10_goLaw 220 = .ok (.aload_n 0, 1) := by decide +kernel
theorem dX10_goLaw_221 : decode cX10_goLaw 221 = .ok (.iload_n 1, 1) := by decide +kernel
theorem dX10_goLaw_222 : decode cX10_goLaw 222 = .ok (.bipush 59, 2) := by decide +kernel
theorem dX10_goLaw_224 : decode cX10_goLaw 224 = .ok (.if_icmp .ne 7, 3) := by decide +kernel
theorem dX10_goLaw_227 : decode cX10_goLaw 227 = .ok (.iconst 2, 1) := by decide +kernel
theorem dX10_goLaw_228 : decode cX10_goLaw 228 = .ok (.goto 4, 3) := by decide +kernel
theorem dX10_goLaw_231 : decode cX10_goLaw 231 = .ok (.iconst 0, 1) := by decide +kernel
theorem dX10_goLaw_232 : decode cX10_goLaw 232 = .ok (.putfield 107, 3) := by decide +kernel
theorem dX10_goLaw_235 : decode cX10_goLaw 235 = .ok (.iload_n 3, 1) := by decide +kernel
theorem dX10_goLaw_236 : decode cX10_goLaw 236 = .ok (.ifCond .eq 18, 3) := by decide +kernel
theorem dX10_goLaw_239 : decode cX10_goLaw 239 = .ok (.iload 4, 2) := by decide +kernel
theorem dX10_goLaw_241 : decode cX10_goLaw 241 = .ok (.ifCond .ne 9, 3) := by decide +kernel
theorem dX10_goLaw_244 : decode cX10_goLaw 244 = .ok (.iload_n 1, 1) := by decide +kernel
theorem dX10_goLaw_245 : decode cX10_goLaw 245 = .ok (.bipush 59, 2) := by decide +kernel
theorem dX10_goLaw_247 : decode cX10_goLaw 247 = .ok (.if_icmp .ne 7, 3) := by decide +kernel
theorem dX10_goLaw_250 : decode cX10_goLaw 250 = .ok (.iconst 1, 1) := by decide +kernel
theorem dX10_goLaw_251 : decode cX10_goLaw 251 = .ok (.goto 4, 3) := by decide +kernel
theorem dX10_goLaw_254 : decode cX10_goLaw 254 = .ok (.iconst 0, 1) := by decide +kernel
theorem dX10_goLaw_255 : decode cX10_goLaw 255 = .ok (.ireturn, 1) := by decide +kernel
theorem dX10_goLaw_256 : decode cX10_goLaw 256 = .ok (.aload_n 0, 1) := by decide +kernel
theorem dX10_goLaw_257 : decode cX10_goLaw 257 = .ok (.aload_n 0, 1) := by decide +kernel
theorem dX10_goLaw_258 : decode cX10_goLaw 258 = .ok (.getfield 107, 3) := by decide +kernel
theorem dX10_goLaw_261 : decode cX10_goLaw 261 = .ok (.iconst 2, 1) := by decide +kernel
theorem dX10_goLaw_262 : decode cX10_goLaw 262 = .ok (.if_icmp .ne 10, 3) := by decide +kernel
theorem dX10_goLaw_265 : decode cX10_goLaw 265 = .ok (.iload_n 1, 1) := by decide +kernel
theorem dX10_goLaw_266 : decode cX10_goLaw 266 = .ok (.bipush 48, 2) := by decide +kernel
theorem dX10_goLaw_268 : decode cX10_goLaw 268 = .ok (.isub, 1) := by decide +kernel
theorem dX10_goLaw_269 : decode cX10_goLaw 269 = .ok (.goto 15, 3) := by decide +kernel
theorem dX10_goLaw_272 : decode cX10_goLaw 272 = .ok (.bipush 10, 2) := by decide +kernel
theorem dX10_goLaw_274 : decode cX10_goLaw 274 = .ok (.aload_n 0, 1) := by decide +kernel
theorem dX10_goLaw_275 : decode cX10_goLaw 275 = .ok (.getfield 114, 3) := by decide +kernel
theorem dX10_goLaw_278 : decode cX10_goLaw 278 = .ok (.imul, 1) := by decide +kernel
theorem dX10_goLaw_279 : decode cX10_goLaw 279 = .ok (.iload_n 1, 1) := by decide +kernel
theorem dX10_goLaw_280 : decode cX10_goLaw 280 = .ok (.iadd, 1) := by decide +kernel
theorem dX10_goLaw_281 : decode cX10_goLaw 281 = .ok (.bipush 48, 2) := by decide +kernel
theorem dX10_goLaw_283 : decode cX10_goLaw 283 = .ok (.isub, 1) := by decide +kernel
theorem dX10_goLaw_284 : decode cX10_goLaw 284 = .ok (.putfield 114, 3) := by decide +kernel
theorem dX10_goLaw_287 : decode cX10_goLaw 287 = .ok (.iload_n 1, 1) := by decide +kernel
theorem dX10_goLaw_288 : decode cX10_goLaw 288 = .ok (.invokestatic 110, 3) := by decide +kernel
theorem dX10_goLaw_291 : decode cX10_goLaw 291 = .ok (.ifCond .eq 15, 3) := by decide +kernel
theorem dX10_goLaw_294 : decode cX10_goLaw 294 = .ok (.aload_n 0, 1) := by decide +kernel
theorem dX10_goLaw_295 : decode cX10_goLaw 295 = .ok (.getfield 107, 3) := by decide +kernel
theorem dX10_goLaw_298 : decode cX10_goLaw 298 = .ok (.iconst 4, 1) := by decide +kernel
theorem dX10_goLaw_299 : decode cX10_goLaw 299 = .ok (.if_icmp .ge 7, 3) := by decide +kernel
theorem dX10_goLaw_302 : decode cX10_goLaw 302 = .ok (.iconst 1, 1) := by decide +kernel
theorem dX10_goLaw_303 : decode cX10_goLaw 303 = .ok (.goto 4, 3) := by decide +kernel
theorem dX10_goLaw_306 : decode cX10_goLaw 306 = .ok (.iconst 0, 1) := by decide +kernel
theorem dX10_goLaw_307 : decode cX10_goLaw 307 = .ok (.istore_n 3, 1) := by decide +kernel
theorem dX10_goLaw_308 : decode cX10_goLaw 308 = .ok (.aload_n 0, 1) := by decide +kernel
theorem dX10_goLaw_309 : decode cX10_goLaw 309 = .ok (.aload_n 0, 1) := by decide +kernel
theorem dX10_goLaw_310 : decode cX10_goLaw 310 = .ok (.getfield 107, 3) := by decide +kernel
theorem dX10_goLaw_313 : decode cX10_goLaw 313 = .ok (.iconst 2, 1) := by decide +kernel
theorem dX10_goLaw_314 : decode cX10_goLaw 314 = .ok (.if_icmp .ne 13, 3) := by decide +kernel
theorem dX10_goLaw_317 : decode cX10_goLaw 317 = .ok (.iload_n 1, 1) := by decide +kernel
theorem dX10_goLaw_318 : decode cX10_goLaw 318 = .ok (.bipush 48, 2) := by decide +kernel
theorem dX10_goLaw_320 : decode cX10_goLaw 320 = .ok (.if_icmp .eq 7, 3) := by decide +kernel
theorem dX10_goLaw_323 : decode cX10_goLaw 323 = .ok (.iconst 3, 1) := by decide +kernel
theorem dX10_goLaw_324 : decode cX10_goLaw 324 = .ok (.goto 4, 3) := by decide +kernel
theorem dX10_goLaw_327 : decode cX10_goLaw 327 = .ok (.iconst 4, 1) := by decide +kernel
theorem dX10_goLaw_328 : decode cX10_goLaw 328 = .ok (.putfield 107, 3) := by decide +kernel
theorem dX10_goLaw_331 : decode cX10_goLaw 331 = .ok (.iload_n 3, 1) := by decide +kernel
theorem dX10_goLaw_332 : decode cX10_goLaw 332 = .ok (.ireturn, 1) := by decide +kernel
theorem dX10_goMeasure_0 : decode cX10_goMeasure 0 = .ok (.aload_n 0, 1) := by decide +kernel
theorem dX10_goMeasure_1 : decode cX10_goMeasure 1 = .ok (.getfield 107, 3) := by decide +kernel
theorem dX10_goMeasure_4 : decode cX10_goMeasure 4 = .ok (.ifCond .ne 45, 3) := by decide +kernel
theorem dX10_goMeasure_7 : decode cX10_goMeasure 7 = .ok (.aload_n 0, 1) := by decide +kernel
theorem dX10_goMeasure_8 : decode cX10_goMeasure 8 = .ok (.iload_n 1, 1) := by decide +kernel
theorem dX10_goMeasure_9 : decode cX10_goMeasure 9 = .ok (.invokestatic 123, 3) := by decide +kernel
theorem dX10_goMeasure_12 : decode cX10_goMeasure 12 = .ok (.putfield 117, 3) := by decide +kernel
theorem dX10_goMeasure_15 : decode cX10_goMeasure 15 = .ok (.aload_n 0, 1) := by decide +kernel
theorem dX10_goMeasure_16 : decode cX10_goMeasure 16 = .ok (.iconst (-1), 1) := by decide +kernel
theorem dX10_goMeasure_17 : decode cX10_goMeasure 17 = .ok (.putfield 130, 3) := by decide +kernel
theorem dX10_goMeasure_20 : decode cX10_goMeasure 20 = .ok (.aload_n 0, 1) := by decide +kernel
theorem dX10_goMeasure_21 : decode cX10_goMeasure 21 = .ok (.dup, 1) := by decide +kernel
theorem dX10_goMeasure_22 : decode cX10_goMeasure 22 = .ok (.getfield 133, 3) := by decide +kernel
theorem dX10_goMeasure_25 : decode cX10_goMeasure 25 = .ok (.iconst 1, 1) := by decide +kernel
theorem dX10_goMeasure_26 : decode cX10_goMeasure 26 = .ok (.iadd, 1) := by decide +kernel
theorem dX10_goMeasure_27 : decode cX10_goMeasure 27 = .ok (.putfield 133, 3) := by decide +kernel
theorem dX10_goMeasure_30 : decode cX10_goMeasure 30 = .ok (.aload_n 0, 1) := by decide +kernel
theorem dX10_goMeasure_31 : decode cX10_goMeasure 31 = .ok (.iconst 1, 1) := by decide +kernel
theorem dX10_goMeasure_32 : decode cX10_goMeasure 32 = .ok (.putfield 107, 3) := by decide +kernel
theorem dX10_goMeasure_35 : decode cX10_goMeasure 35 = .ok (.aload_n 0, 1) := by decide +kernel
theorem dX10_goMeasure_36 : decode cX10_goMeasure 36 = .ok (.getfield 117, 3) := by decide +kernel
theorem dX10_goMeasure_39 : decode cX10_goMeasure 39 = .ok (.iconst (-1), 1) := by decide +kernel
theorem dX10_goMeasure_40 : decode cX10_goMeasure 40 = .ok (.if_icmp .eq 7, 3) := by decide +kernel
theorem dX10_goMeasure_43 : decode cX10_goMeasure 43 = .ok (.iconst 1, 1) := by decide +kernel
theorem dX10_goMeasure_44 : decode cX10_goMeasure 44 = .ok (.goto 4, 3) := by decide +kernel
theorem dX10_goMeasure_47 : decode cX10_goMeasure 47 = .ok (.iconst 0, 1) := by decide +kernel
theorem dX10_goMeasure_48 : decode cX10_goMeasure 48 = .ok (.ireturn, 1) := by decide +kernel
theorem dX10_goMeasure_49 : decode cX10_goMeasure 49 = .ok (.iload_n 1, 1) := by decide +kernel
theorem dX10_goMeasure_50 : decode cX10_goMeasure 50 = .ok (.i2l, 1) := by decide +kernel
theorem dX10_goMeasure_51 : decode cX10_goMeasure 51 = .ok (.ldc2_w 94, 3) := by decide +kernel
theorem dX10_goMeasure_54 : decode cX10_goMeasure 54 = .ok (.ldc2_w 136, 3) := by decide +kernel
theorem dX10_goMeasure_57 : decode cX10_goMeasure 57 = .ok (.invokestatic 98, 3) := by decide +kernel
theorem dX10_goMeasure_60 : decode cX10_goMeasure 60 = .ok (.ifCond .eq 59, 3) := by decide +kernel
theorem dX10_goMeasure_63 : decode cX10_goMeasure 63 = .ok (.iload_n 1, 1) := by decide +kernel
theorem dX10_goMeasure_64 : decode cX10_goMeasure 64 = .ok (.bipush 48, 2) := by decide +kernel
theorem dX10_goMeasure_66 : decode cX10_goMeasure 66 = .ok (.isub, 1) := by decide +kernel
theorem dX10_goMeasure_67 : decode cX10_goMeasure 67 = .ok (.istore_n 2, 1) := by decide +kernel
theorem dX10_goMeasure_68 : decode cX10_goMeasure 68 = .ok (.iload_n 2, 1) := by decide +kernel
theorem dX10_goMeasure_69 : decode cX10_goMeasure 69 = .ok (.aload_n 0, 1) := by decide +kernel
theorem dX10_goMeasure_70 : decode cX10_goMeasure 70 = .ok (.getfield 130, 3) := by decide +kernel
theorem dX10_goMeasure_73 : decode cX10_goMeasure 73 = .ok (.if_icmp .le 7, 3) := by decide +kernel
theorem dX10_goMeasure_76 : decode cX10_goMeasure 76 = .ok (.iconst 1, 1) := by decide +kernel
theorem dX10_goMeasure_77 : decode cX10_goMeasure 77 = .ok (.goto 4, 3) := by decide +kernel
theorem dX10_goMeasure_80 : decode cX10_goMeasure 80 = .ok (.iconst 0, 1) := by decide +kernel
theorem dX10_goMeasure_81 : decode cX10_goMeasure 81 = .ok (.istore_n 3, 1) := by decide +kernel
theorem dX10_goMeasure_82 : decode cX10_goMeasure 82 = .ok (.aload_n 0, 1) := by decide +kernel
theorem dX10_goMeasure_83 : decode cX10_goMeasure 83 = .ok (.iload_n 2, 1) := by decide +kernel
theorem dX10_goMeasure_84 : decode cX10_goMeasure 84 = .ok (.putfield 130, 3) := by decide +kernel
theorem dX10_goMeasure_87 : decode cX10_goMeasure 87 = .ok (.aload_n 0, 1) := by decide +kernel
theorem dX10_goMeasure_88 : decode cX10_goMeasure 88 = .ok (.getfield 16, 3) := by decide +kernel
theorem dX10_goMeasure_91 : decode cX10_goMeasure 91 = .ok (.bipush 12, 2) := by decide +kernel
theorem dX10_goMeasure_93 : decode cX10_goMeasure 93 = .ok (.aload_n 0, 1) := by decide +kernel
theorem dX10_goMeasure_94 : decode cX10_goMeasure 94 = .ok (.getfield 138, 3) := by decide +kernel
theorem dX10_goMeasure_97 : decode cX10_goMeasure 97 = .ok (.imul, 1) := by decide +kernel
theorem dX10_goMeasure_98 : decode cX10_goMeasure 98 = .ok (.iconst 3, 1) := by decide +kernel
theorem dX10_goMeasure_99 : decode cX10_goMeasure 99 = .ok (.iload_n 2, 1) := by decide +kernel
theorem dX10_goMeasure_100 : decode cX10_goMeasure 100 = .ok (.imul, 1) := by decide +kernel
theorem dX10_goMeasure_101 : decode cX10_goMeasure 101 = .ok (.iadd, 1) := by decide +kernel
theorem dX10_goMeasure_102 : decode cX10_goMeasure 102 = .ok (.aload_n 0, 1) := by decide +kernel
theorem dX10_goMeasure_103 : decode cX10_goMeasure 103 = .ok (.getfield 117, 3) := by decide +kernel
theorem dX10_goMeasure_106 : decode cX10_goMeasure 106 = .ok (.iadd, 1) := by decide +kernel
theorem dX10_goMeasure_107 : decode cX10_goMeasure 107 = .ok (.dup2, 1) := by decide +kernel
theorem dX10_goMeasure_108 : decode cX10_goMeasure 108 = .ok (.iaload, 1) := by decide +kernel
theorem dX10_goMeasure_109 : decode cX10_goMeasure 109 = .ok (.iconst 1, 1) := by decide +kernel
theorem dX10_goMeasure_110 : decode cX10_goMeasure 110 = .ok (.iadd, 1) := by decide +kernel
theorem dX10_goMeasure_111 : decode cX10_goMeasure 111 = .ok (.iastore, 1) := by decide +kernel
theorem dX10_goMeasure_112 : decode cX10_goMeasure 112 = .ok (.aload_n 0, 1) := by decide +kernel
theorem dX10_goMeasure_113 : decode cX10_goMeasure 113 = .ok (.iconst 2, 1) := by decide +kernel
theorem dX10_goMeasure_114 : decode cX10_goMeasure 114 = .ok (.putfield 107, 3) := by decide +kernel
theorem dX10_goMeasure_117 : decode cX10_goMeasure 117 = .ok (.iload_n 3, 1) := by decide +kernel
theorem dX10_goMeasure_118 : decode cX10_goMeasure 118 = .ok (.ireturn, 1) := by decide +kernel
theorem dX10_goMeasure_119 : decode cX10_goMeasure 119 = .ok (.iload_n 1, 1) := by decide +kernel
theorem dX10_goMeasure_120 : decode cX10_goMeasure 120 = .ok (.bipush 43, 2) := by decide +kernel
theorem dX10_goMeasure_122 : decode cX10_goMeasure 122 = .ok (.if_icmp .ne 15, 3) := by decide +kernel
theorem dX10_goMeasure_125 : decode cX10_goMeasure 125 = .ok (.aload_n 0, 1) := by decide +kernel
theorem dX10_goMeasure_126 : decode cX10_goMeasure 126 = .ok (.getfield 133, 3) := by decide +kernel
theorem dX10_goMeasure_129 : decode cX10_goMeasure 129 = .ok (.iconst 4, 1) := by decide +kernel
theorem dX10_goMeasure_130 : decode cX10_goMeasure 130 = .ok (.if_icmp .ge 7, 3) := by decide +kernel
theorem dX10_goMeasure_133 : decode cX10_goMeasure 133 = .ok (.iconst 1, 1) := by decide +kernel
theorem dX10_goMeasure_134 : decode cX10_goMeasure 134 = .ok (.goto 4, 3) := by decide +kernel
theorem dX10_goMeasure_137 : decode cX10_goMeasure 137 = .ok (.iconst 0, 1) := by decide +kernel
theorem dX10_goMeasure_138 : decode cX10_goMeasure 138 = .ok (.istore_n 2, 1) := by decide +kernel
theorem dX10_goMeasure_139 : decode cX10_goMeasure 139 = .ok (.iload_n 1, 1) := by decide +kernel
theorem dX10_goMeasure_140 : decode cX10_goMeasure 140 = .ok (.bipush 47, 2) := by decide +kernel
theorem dX10_goMeasure_142 : decode cX10_goMeasure 142 = .ok (.if_icmp .ne 14, 3) := by decide +kernel
theorem dX10_goMeasure_145 : decode cX10_goMeasure 145 = .ok (.aload_n 0, 1) := by decide +kernel
theorem dX10_goMeasure_146 : decode cX10_goMeasure 146 = .ok (.getfield 138, 3) := by decide +kernel
theorem dX10_goMeasure_149 : decode cX10_goMeasure 149 = .ok (.ifCond .ne 7, 3) := by decide +kernel
theorem dX10_goMeasure_152 : decode cX10_goMeasure 152 = .ok (.iconst 1, 1) := by decide +kernel
theorem dX10_goMeasure_153 : decode cX10_goMeasure 153 = .ok (.goto 4, 3) := by decide +kernel
theorem dX10_goMeasure_156 : decode cX10_goMeasure 156 = .ok (.iconst 0, 1) := by decide +kernel
theorem dX10_goMeasure_157 : decode cX10_goMeasure 157 = .ok (.istore_n 3, 1) := by decide +kernel
theorem dX10_goMeasure_158 : decode cX10_goMeasure 158 = .ok (.aload_n 0, 1) := by decide +kernel
theorem dX10_goMeasure_159 : decode cX10_goMeasure 159 = .ok (.getfield 107, 3) := by decide +kernel
theorem dX10_goMeasure_162 : decode cX10_goMeasure 162 = .ok (.iconst 2, 1) := by decide +kernel
theorem dX10_goMeasure_163 : decode cX10_goMeasure 163 = .ok (.if_icmp .ne 15, 3) := by decide +kernel
theorem dX10_goMeasure_166 : decode cX10_goMeasure 166 = .ok (.iload_n 2, 1) := by decide +kernel
theorem dX10_goMeasure_167 : decode cX10_goMeasure 167 = .ok (.ifCond .ne 7, 3) := by decide +kernel
theorem dX10_goMeasure_170 : decode cX10_goMeasure 170 = .ok (.iload_n 3, 1) := by decide +kernel
theorem dX10_goMeasure_171 : decode cX10_goMeasure 171 = .ok (.ifCond .eq 7, 3) := by decide +kernel
theorem dX10_goMeasure_174 : decode cX10_goMeasure 174 = .ok (.iconst 1, 1) := by decide +kernel
theorem dX10_goMeasure_175 : decode cX10_goMeasure 175 = .ok (.goto 4, 3) := by decide +kernel
theorem dX10_goMeasure_178 : decode cX10_goMeasure 178 = .ok (.iconst 0, 1) := by decide +kernel
theorem dX10_goMeasure_179 : decode cX10_goMeasure 179 = .ok (.istore 4, 2) := by decide +kernel
theorem dX10_goMeasure_181 : decode cX10_goMeasure 181 = .ok (.aload_n 0, 1) := by decide +kernel
theorem dX10_goMeasure_182 : decode cX10_goMeasure 182 = .ok (.dup, 1) := by decide +kernel
theorem dX10_goMeasure_183 : decode cX10_goMeasure 183 = .ok (.getfield 138, 3) := by decide +kernel
theorem dX10_goMeasure_186 : decode cX10_goMeasure 186 = .ok (.iload_n 3, 1) := by decide +kernel
theorem dX10_goMeasure_187 : decode cX10_goMeasure 187 = .ok (.ifCond .eq 7, 3) := by decide +kernel
theorem dX10_goMeasure_190 : decode cX10_goMeasure 190 = .ok (.iconst 1, 1) := by decide +kernel
theorem dX10_goMeasure_191 : decode cX10_goMeasure 191 = .ok (.goto 4, 3) := by decide +kernel
theorem dX10_goMeasure_194 : decode cX10_goMeasure 194 = .ok (.iconst 0, 1) := by decide +kernel
theorem dX10_goMeasure_195 : decode cX10_goMeasure 195 = .ok (.iadd, 1) := by decide +kernel
theorem dX10_goMeasure_196 : decode cX10_goMeasure 196 = .ok (.putfield 138, 3) := by decide +kernel
theorem dX10_goMeasure_199 : decode cX10_goMeasure 199 = .ok (.aload_n 0, 1) := by decide +kernel
theorem dX10_goMeasure_200 : decode cX10_goMeasure 200 = .ok (.iload_n 3, 1) := by decide +kernel
theorem dX10_goMeasure_201 : decode cX10_goMeasure 201 = .ok (.ifCond .eq 7, 3) := by decide +kernel
theorem dX10_goMeasure_204 : decode cX10_goMeasure 204 = .ok (.iconst 0, 1) := by decide +kernel
theorem dX10_goMeasure_205 : decode cX10_goMeasure 205 = .ok (.goto 7, 3) := by decide +kernel
theorem dX10_goMeasure_208 : decode cX10_goMeasure 208 = .ok (.aload_n 0, 1) := by decide +kernel
theorem dX10_goMeasure_209 : decode cX10_goMeasure 209 = .ok (.getfield 133, 3) := by decide +kernel
theorem dX10_goMeasure_212 : decode cX10_goMeasure 212 = .ok (.putfield 133, 3) := by decide +kernel
theorem dX10_goMeasure_215 : decode cX10_goMeasure 215 = .ok (.aload_n 0, 1) := by decide +kernel
theorem dX10_goMeasure_216 : decode cX10_goMeasure 216 = .ok (.iconst 0, 1) := by decide +kernel
theorem dX10_goMeasure_217 : decode cX10_goMeasure 217 = .ok (.putfield 107, 3) := by decide +kernel
theorem dX10_goMeasure_220 : decode cX10_goMeasure 220 = .ok (.iload 4, 2) := by decide +kernel
theorem dX10_goMeasure_222 : decode cX10_goMeasure 222 = .ok (.ireturn, 1) := by decide +kernel
theorem dX10_hangs_0 : decode cX10_hangs 0 = .ok (.aload_n 0, 1) := by decide +kernel
theorem dX10_hangs_1 : decode cX10_hangs 1 = .ok (.iload_n 1, 1) := by decide +kernel
theorem dX10_hangs_2 : decode cX10_hangs 2 = .ok (.invokevirtual 215, 3) := by decide +kernel
theorem dX10_hangs_5 : decode cX10_hangs 5 = .ok (.ifCond .ne 6, 3) := by decide +kernel
theorem dX10_hangs_8 : decode cX10_hangs 8 = .ok (.bipush (-101), 2) := by decide +kernel
theorem dX10_hangs_10 : decode cX10_hangs 10 = .ok (.ireturn, 1) := by decide +kernel
theorem dX10_hangs_11 : decode cX10_hangs 11 = .ok (.iload_n 2, 1) := by decide +kernel
theorem dX10_hangs_12 : decode cX10_hangs 12 = .ok (.invokestatic 235, 3) := by decide +kernel
theorem dX10_hangs_15 : decode cX10_hangs 15 = .ok (.ifCond .ne 6, 3) := by decide +kernel
theorem dX10_hangs_18 : decode cX10_hangs 18 = .ok (.bipush (-102), 2) := by decide +kernel
theorem dX10_hangs_20 : decode cX10_hangs 20 = .ok (.ireturn, 1) := by decide +kernel
theorem dX10_hangs_21 : decode cX10_hangs 21 = .ok (.aload_n 0, 1) := by decide +kernel
theorem dX10_hangs_22 : decode cX10_hangs 22 = .ok (.getfield 302, 3) := by decide +kernel
theorem dX10_hangs_25 : decode cX10_hangs 25 = .ok (.bipush 30, 2) := by decide +kernel
theorem dX10_hangs_27 : decode cX10_hangs 27 = .ok (.if_icmp .ne 6, 3) := by decide +kernel
theorem dX10_hangs_30 : decode cX10_hangs 30 = .ok (.bipush (-103), 2) := by decide +kernel
theorem dX10_hangs_32 : decode cX10_hangs 32 = .ok (.ireturn, 1) := by decide +kernel
theorem dX10_hangs_33 : decode cX10_hangs 33 = .ok (.aload_n 0, 1) := by decide +kernel
theorem dX10_hangs_34 : decode cX10_hangs 34 = .ok (.dup, 1) := by decide +kernel
theorem dX10_hangs_35 : decode cX10_hangs 35 = .ok (.getfield 302, 3) := by decide +kernel
theorem dX10_hangs_38 : decode cX10_hangs 38 = .ok (.iconst 1, 1) := by decide +kernel
theorem dX10_hangs_39 : decode cX10_hangs 39 = .ok (.iadd, 1) := by decide +kernel
theorem dX10_hangs_40 : decode cX10_hangs 40 = .ok (.putfield 302, 3) := by decide +kernel
theorem dX10_hangs_43 : decode cX10_hangs 43 = .ok (.iconst (-1), 1) := by decide +kernel
theorem dX10_hangs_44 : decode cX10_hangs 44 = .ok (.istore_n 3, 1) := by decide +kernel
theorem dX10_hangs_45 : decode cX10_hangs 45 = .ok (.lconst 0, 1) := by decide +kernel
theorem dX10_hangs_46 : decode cX10_hangs 46 = .ok (.lstore 4, 2) := by decide +kernel
theorem dX10_hangs_48 : decode cX10_hangs 48 = .ok (.lconst 1, 1) := by decide +kernel
theorem dX10_hangs_49 : decode cX10_hangs 49 = .ok (.lstore 6, 2) := by decide +kernel
theorem dX10_hangs_51 : decode cX10_hangs 51 = .ok (.iconst 0, 1) := by decide +kernel
theorem dX10_hangs_52 : decode cX10_hangs 52 = .ok (.istore 8, 2) := by decide +kernel
theorem dX10_hangs_54 : decode cX10_hangs 54 = .ok (.iload 8, 2) := by decide +kernel
theorem dX10_hangs_56 : decode cX10_hangs 56 = .ok (.aload_n 0, 1) := by decide +kernel
theorem dX10_hangs_57 : decode cX10_hangs 57 = .ok (.getfield 178, 3) := by decide +kernel
theorem dX10_hangs_60 : decode cX10_hangs 60 = .ok (.if_icmp .ge 104, 3) := by decide +kernel
theorem dX10_hangs_63 : decode cX10_hangs 63 = .ok (.aload_n 0, 1) := by decide +kernel
theorem dX10_hangs_64 : decode cX10_hangs 64 = .ok (.iload 8, 2) := by decide +kernel
theorem dX10_hangs_66 : decode cX10_hangs 66 = .ok (.invokevirtual 228, 3) := by decide +kernel
theorem dX10_hangs_69 : decode cX10_hangs 69 = .ok (.ifCond .eq 89, 3) := by decide +kernel
theorem dX10_hangs_72 : decode cX10_hangs 72 = .ok (.aload_n 0, 1) := by decide +kernel
theorem dX10_hangs_73 : decode cX10_hangs 73 = .ok (.iload_n 1, 1) := by decide +kernel
theorem dX10_hangs_74 : decode cX10_hangs 74 = .ok (.iload_n 2, 1) := by decide +kernel
theorem dX10_hangs_75 : decode cX10_hangs 75 = .ok (.iload 8, 2) := by decide +kernel
theorem dX10_hangs_77 : decode cX10_hangs 77 = .ok (.invokevirtual 262, 3) := by decide +kernel
theorem dX10_hangs_80 : decode cX10_hangs 80 = .ok (.aload_n 0, 1) := by decide +kernel
theorem dX10_hangs_81 : decode cX10_hangs 81 = .ok (.invokevirtual 293, 3) := by decide +kernel
theorem dX10_hangs_84 : decode cX10_hangs 84 = .ok (.iload_n 3, 1) := by decide +kernel
theorem dX10_hangs_85 : decode cX10_hangs 85 = .ok (.iconst (-1), 1) := by decide +kernel
theorem dX10_hangs_86 : decode cX10_hangs 86 = .ok (.if_icmp .eq 21, 3) := by decide +kernel
theorem dX10_hangs_89 : decode cX10_hangs 89 = .ok (.aload_n 0, 1) := by decide +kernel
theorem dX10_hangs_90 : decode cX10_hangs 90 = .ok (.getfield 275, 3) := by decide +kernel
theorem dX10_hangs_93 : decode cX10_hangs 93 = .ok (.lload 6, 2) := by decide +kernel
theorem dX10_hangs_95 : decode cX10_hangs 95 = .ok (.lmul, 1) := by decide +kernel
theorem dX10_hangs_96 : decode cX10_hangs 96 = .ok (.lload 4, 2) := by decide +kernel
theorem dX10_hangs_98 : decode cX10_hangs 98 = .ok (.aload_n 0, 1) := by decide +kernel
theorem dX10_hangs_99 : decode cX10_hangs 99 = .ok (.getfield 279, 3) := by decide +kernel
theorem dX10_hangs_102 : decode cX10_hangs 102 = .ok (.lmul, 1) := by decide +kernel
theorem dX10_hangs_103 : decode cX10_hangs 103 = .ok (.lcmp, 1) := by decide +kernel
theorem dX10_hangs_104 : decode cX10_hangs 104 = .ok (.ifCond .le 7, 3) := by decide +kernel
theorem dX10_hangs_107 : decode cX10_hangs 107 = .ok (.iconst 1, 1) := by decide +kernel
theorem dX10_hangs_108 : decode cX10_hangs 108 = .ok (.goto 4, 3) := by decide +kernel
theorem dX10_hangs_111 : decode cX10_hangs 111 = .ok (.iconst 0, 1) := by decide +kernel
theorem dX10_hangs_112 : decode cX10_hangs 112 = .ok (.istore 9, 2) := by decide +kernel
theorem dX10_hangs_114 : decode cX10_hangs 114 = .ok (.iload 9, 2) := by decide +kernel
theorem dX10_hangs_116 : decode cX10_hangs 116 = .ok (.ifCond .eq 8, 3) := by decide +kernel
theorem dX10_hangs_119 : decode cX10_hangs 119 = .ok (.iload 8, 2) := by decide +kernel
theorem dX10_hangs_121 : decode cX10_hangs 121 = .ok (.goto 4, 3) := by decide +kernel
theorem dX10_hangs_124 : decode cX10_hangs 124 = .ok (.iload_n 3, 1) := by decide +kernel
theorem dX10_hangs_125 : decode cX10_hangs 125 = .ok (.istore_n 3, 1) := by decide +kernel
theorem dX10_hangs_126 : decode cX10_hangs 126 = .ok (.iload 9, 2) := by decide +kernel
theorem dX10_hangs_128 : decode cX10_hangs 128 = .ok (.ifCond .eq 10, 3) := by decide +kernel
theorem dX10_hangs_131 : decode cX10_hangs 131 = .ok (.aload_n 0, 1) := by decide +kernel
theorem dX10_hangs_132 : decode cX10_hangs 132 = .ok (.getfield 275, 3) := by decide +kernel
theorem dX10_hangs_135 : decode cX10_hangs 135 = .ok (.goto 5, 3) := by decide +kernel
theorem dX10_hangs_138 : decode cX10_hangs 138 = .ok (.lload 4, 2) := by decide +kernel
theorem dX10_hangs_140 : decode cX10_hangs 140 = .ok (.lstore 4, 2) := by decide +kernel
theorem dX10_hangs_142 : decode cX10_hangs 142 = .ok (.iload 9, 2) := by decide +kernel
theorem dX10_hangs_144 : decode cX10_hangs 144 = .ok (.ifCond .eq 10, 3) := by decide +kernel
theorem dX10_hangs_147 : decode cX10_hangs 147 = .ok (.aload_n 0, 1) := by decide +kernel
theorem dX10_hangs_148 : decode cX10_hangs 148 = .ok (.getfield 279, 3) := by decide +kernel
theorem dX10_hangs_151 : decode cX10_hangs 151 = .ok (.goto 5, 3) := by decide +kernel
theorem dX10_hangs_154 : decode cX10_hangs 154 = .ok (.lload 6, 2) := by decide +kernel
theorem dX10_hangs_156 : decode cX10_hangs 156 = .ok (.lstore 6, 2) := by decide +kernel
theorem dX10_hangs_158 : decode cX10_hangs 158 = .ok (.iinc 8 1, 3) := by decide +kernel
theorem dX10_hangs_161 : decode cX10_hangs 161 = .ok (.goto (-107), 3) := by decide +kernel
theorem dX10_hangs_164 : decode cX10_hangs 164 = .ok (.iload_n 3, 1) := by decide +kernel
theorem dX10_hangs_165 : decode cX10_hangs 165 = .ok (.ireturn, 1) := by decide +kernel
theorem dX10_highClass_0 : decode cX10_highClass 0 = .ok (.aload_n 0, 1) := by decide +kernel
theorem dX10_highClass_1 : decode cX10_highClass 1 = .ok (.aload_n 0, 1) := by decide +kernel
theorem dX10_highClass_2 : decode cX10_highClass 2 = .ok (.iload_n 1, 1) := by decide +kernel
theorem dX10_highClass_3 : decode cX10_highClass 3 = .ok (.iload_n 2, 1) := by decide +kernel
theorem dX10_highClass_4 : decode cX10_highClass 4 = .ok (.invokevirtual 218, 3) := by decide +kernel
theorem dX10_highClass_7 : decode cX10_highClass 7 = .ok (.aload_n 0, 1) := by decide +kernel
theorem dX10_highClass_8 : decode cX10_highClass 8 = .ok (.getfield 168, 3) := by decide +kernel
theorem dX10_highClass_11 : decode cX10_highClass 11 = .ok (.iadd, 1) := by decide +kernel
theorem dX10_highClass_12 : decode cX10_highClass 12 = .ok (.invokevirtual 309, 3) := by decide +kernel
theorem dX10_highClass_15 : decode cX10_highClass 15 = .ok (.ireturn, 1) := by decide +kernel
theorem dX10_ice_0 : decode cX10_ice 0 = .ok (.iload_n 1, 1) := by decide +kernel
theorem dX10_ice_1 : decode cX10_ice 1 = .ok (.i2l, 1) := by decide +kernel
theorem dX10_ice_2 : decode cX10_ice 2 = .ok (.lconst 0, 1) := by decide +kernel
theorem dX10_ice_3 : decode cX10_ice 3 = .ok (.ldc2_w 171, 3) := by decide +kernel
theorem dX10_ice_6 : decode cX10_ice 6 = .ok (.invokestatic 98, 3) := by decide +kernel
theorem dX10_ice_9 : decode cX10_ice 9 = .ok (.ifCond .eq 35, 3) := by decide +kernel
theorem dX10_ice_12 : decode cX10_ice 12 = .ok (.iload_n 2, 1) := by decide +kernel
theorem dX10_ice_13 : decode cX10_ice 13 = .ok (.i2l, 1) := by decide +kernel
theorem dX10_ice_14 : decode cX10_ice 14 = .ok (.ldc2_w 185, 3) := by decide +kernel
theorem dX10_ice_17 : decode cX10_ice 17 = .ok (.ldc2_w 201, 3) := by decide +kernel
theorem dX10_ice_20 : decode cX10_ice 20 = .ok (.invokestatic 98, 3) := by decide +kernel
theorem dX10_ice_23 : decode cX10_ice 23 = .ok (.ifCond .eq 21, 3) := by decide +kernel
theorem dX10_ice_26 : decode cX10_ice 26 = .ok (.iload_n 2, 1) := by decide +kernel
theorem dX10_ice_27 : decode cX10_ice 27 = .ok (.iconst (-1), 1) := by decide +kernel
theorem dX10_ice_28 : decode cX10_ice 28 = .ok (.if_icmp .eq 19, 3) := by decide +kernel
theorem dX10_ice_31 : decode cX10_ice 31 = .ok (.iload_n 3, 1) := by decide +kernel
theorem dX10_ice_32 : decode cX10_ice 32 = .ok (.i2l, 1) := by decide +kernel
theorem dX10_ice_33 : decode cX10_ice 33 = .ok (.iload_n 2, 1) := by decide +kernel
theorem dX10_ice_34 : decode cX10_ice 34 = .ok (.i2l, 1) := by decide +kernel
theorem dX10_ice_35 : decode cX10_ice 35 = .ok (.ldc2_w 201, 3) := by decide +kernel
theorem dX10_ice_38 : decode cX10_ice 38 = .ok (.invokestatic 98, 3) := by decide +kernel
theorem dX10_ice_41 : decode cX10_ice 41 = .ok (.ifCond .ne 6, 3) := by decide +kernel
theorem dX10_ice_44 : decode cX10_ice 44 = .ok (.bipush (-102), 2) := by decide +kernel
theorem dX10_ice_46 : decode cX10_ice 46 = .ok (.ireturn, 1) := by decide +kernel
theorem dX10_ice_47 : decode cX10_ice 47 = .ok (.iload_n 2, 1) := by decide +kernel
theorem dX10_ice_48 : decode cX10_ice 48 = .ok (.iconst (-1), 1) := by decide +kernel
theorem dX10_ice_49 : decode cX10_ice 49 = .ok (.if_icmp .eq 25, 3) := by decide +kernel
theorem dX10_ice_52 : decode cX10_ice 52 = .ok (.aload_n 0, 1) := by decide +kernel
theorem dX10_ice_53 : decode cX10_ice 53 = .ok (.getfield 69, 3) := by decide +kernel
theorem dX10_ice_56 : decode cX10_ice 56 = .ok (.iload_n 1, 1) := by decide +kernel
theorem dX10_ice_57 : decode cX10_ice 57 = .ok (.iaload, 1) := by decide +kernel
theorem dX10_ice_58 : decode cX10_ice 58 = .ok (.iconst (-1), 1) := by decide +kernel
theorem dX10_ice_59 : decode cX10_ice 59 = .ok (.if_icmp .ne 15, 3) := by decide +kernel
theorem dX10_ice_62 : decode cX10_ice 62 = .ok (.aload_n 0, 1) := by decide +kernel
theorem dX10_ice_63 : decode cX10_ice 63 = .ok (.getfield 306, 3) := by decide +kernel
theorem dX10_ice_66 : decode cX10_ice 66 = .ok (.bipush 40, 2) := by decide +kernel
theorem dX10_ice_68 : decode cX10_ice 68 = .ok (.if_icmp .ne 6, 3) := by decide +kernel
theorem dX10_ice_71 : decode cX10_ice 71 = .ok (.bipush (-104), 2) := by decide +kernel
theorem dX10_ice_73 : decode cX10_ice 73 = .ok (.ireturn, 1) := by decide +kernel
theorem dX10_ice_74 : decode cX10_ice 74 = .ok (.aload_n 0, 1) := by decide +kernel
theorem dX10_ice_75 : decode cX10_ice 75 = .ok (.dup, 1) := by decide +kernel
theorem dX10_ice_76 : decode cX10_ice 76 = .ok (.getfield 306, 3) := by decide +kernel
theorem dX10_ice_79 : decode cX10_ice 79 = .ok (.iload_n 2, 1) := by decide +kernel
theorem dX10_ice_80 : decode cX10_ice 80 = .ok (.iconst (-1), 1) := by decide +kernel
theorem dX10_ice_81 : decode cX10_ice 81 = .ok (.if_icmp .ne 7, 3) := by decide +kernel
theorem dX10_ice_84 : decode cX10_ice 84 = .ok (.iconst 0, 1) := by decide +kernel
theorem dX10_ice_85 : decode cX10_ice 85 = .ok (.goto 4, 3) := by decide +kernel
theorem dX10_ice_88 : decode cX10_ice 88 = .ok (.iconst 1, 1) := by decide +kernel
theorem dX10_ice_89 : decode cX10_ice 89 = .ok (.aload_n 0, 1) := by decide +kernel
theorem dX10_ice_90 : decode cX10_ice 90 = .ok (.getfield 69, 3) := by decide +kernel
theorem dX10_ice_93 : decode cX10_ice 93 = .ok (.iload_n 1, 1) := by decide +kernel
theorem dX10_ice_94 : decode cX10_ice 94 = .ok (.iaload, 1) := by decide +kernel
theorem dX10_ice_95 : decode cX10_ice 95 = .ok (.iconst (-1), 1) := by decide +kernel
theorem dX10_ice_96 : decode cX10_ice 96 = .ok (.if_icmp .ne 7, 3) := by decide +kernel
theorem dX10_ice_99 : decode cX10_ice 99 = .ok (.iconst 0, 1) := by decide +kernel
theorem dX10_ice_100 : decode cX10_ice 100 = .ok (.goto 4, 3) := by decide +kernel
theorem dX10_ice_103 : decode cX10_ice 103 = .ok (.iconst 1, 1) := by decide +kernel
theorem dX10_ice_104 : decode cX10_ice 104 = .ok (.isub, 1) := by decide +kernel
theorem dX10_ice_105 : decode cX10_ice 105 = .ok (.iadd, 1) := by decide +kernel
theorem dX10_ice_106 : decode cX10_ice 106 = .ok (.putfield 306, 3) := by decide +kernel
theorem dX10_ice_109 : decode cX10_ice 109 = .ok (.aload_n 0, 1) := by decide +kernel
theorem dX10_ice_110 : decode cX10_ice 110 = .ok (.getfield 69, 3) := by decide +kernel
theorem dX10_ice_113 : decode cX10_ice 113 = .ok (.iload_n 1, 1) := by decide +kernel
theorem dX10_ice_114 : decode cX10_ice 114 = .ok (.iload_n 2, 1) := by decide +kernel
theorem dX10_ice_115 : decode cX10_ice 115 = .ok (.iastore, 1) := by decide +kernel
theorem dX10_ice_116 : decode cX10_ice 116 = .ok (.aload_n 0, 1) := by decide +kernel
theorem dX10_ice_117 : decode cX10_ice 117 = .ok (.getfield 72, 3) := by decide +kernel
theorem dX10_ice_120 : decode cX10_ice 120 = .ok (.iload_n 1, 1) := by decide +kernel
theorem dX10_ice_121 : decode cX10_ice 121 = .ok (.iload_n 2, 1) := by decide +kernel
theorem dX10_ice_122 : decode cX10_ice 122 = .ok (.iconst (-1), 1) := by decide +kernel
theorem dX10_ice_123 : decode cX10_ice 123 = .ok (.if_icmp .ne 7, 3) := by decide +kernel
theorem dX10_ice_126 : decode cX10_ice 126 = .ok (.iconst (-1), 1) := by decide +kernel
theorem dX10_ice_127 : decode cX10_ice 127 = .ok (.goto 4, 3) := by decide +kernel
theorem dX10_ice_130 : decode cX10_ice 130 = .ok (.iload_n 3, 1) := by decide +kernel
theorem dX10_ice_131 : decode cX10_ice 131 = .ok (.iastore, 1) := by decide +kernel
theorem dX10_ice_132 : decode cX10_ice 132 = .ok (.aload_n 0, 1) := by decide +kernel
theorem dX10_ice_133 : decode cX10_ice 133 = .ok (.getfield 306, 3) := by decide +kernel
theorem dX10_ice_136 : decode cX10_ice 136 = .ok (.ireturn, 1) := by decide +kernel
theorem dX10_image_0 : decode cX10_image 0 = .ok (.iconst 0, 1) := by decide +kernel
theorem dX10_image_1 : decode cX10_image 1 = .ok (.istore_n 1, 1) := by decide +kernel
theorem dX10_image_2 : decode cX10_image 2 = .ok (.iload_n 1, 1) := by decide +kernel
theorem dX10_image_3 : decode cX10_image 3 = .ok (.bipush 96, 2) := by decide +kernel
theorem dX10_image_5 : decode cX10_image 5 = .ok (.if_icmp .ge 21, 3) := by decide +kernel
theorem dX10_image_8 : decode cX10_image 8 = .ok (.aload_n 0, 1) := by decide +kernel
theorem dX10_image_9 : decode cX10_image 9 = .ok (.getfield 75, 3) := by decide +kernel
theorem dX10_image_12 : decode cX10_image 12 = .ok (.iload_n 1, 1) := by decide +kernel
theorem dX10_image_13 : decode cX10_image 13 = .ok (.aload_n 0, 1) := by decide +kernel
theorem dX10_image_14 : decode cX10_image 14 = .ok (.getfield 37, 3) := by decide +kernel
theorem dX10_image_17 : decode cX10_image 17 = .ok (.iload_n 1, 1) := by decide +kernel
theorem dX10_image_18 : decode cX10_image 18 = .ok (.iaload, 1) := by decide +kernel
theorem dX10_image_19 : decode cX10_image 19 = .ok (.iastore, 1) := by decide +kernel
theorem dX10_image_20 : decode cX10_image 20 = .ok (.iinc 1 1, 3) := by decide +kernel
theorem dX10_image_23 : decode cX10_image 23 = .ok (.goto (-21), 3) := by decide +kernel
theorem dX10_image_26 : decode cX10_image 26 = .ok (.iconst 0, 1) := by decide +kernel
theorem dX10_image_27 : decode cX10_image 27 = .ok (.istore_n 1, 1) := by decide +kernel
theorem dX10_image_28 : decode cX10_image 28 = .ok (.iload_n 1, 1) := by decide +kernel
theorem dX10_image_29 : decode cX10_image 29 = .ok (.sipush 192, 3) := by decide +kernel
theorem dX10_image_32 : decode cX10_image 32 = .ok (.if_icmp .ge 21, 3) := by decide +kernel
theorem dX10_image_35 : decode cX10_image 35 = .ok (.aload_n 0, 1) := by decide +kernel
theorem dX10_image_36 : decode cX10_image 36 = .ok (.getfield 78, 3) := by decide +kernel
theorem dX10_image_39 : decode cX10_image 39 = .ok (.iload_n 1, 1) := by decide +kernel
theorem dX10_image_40 : decode cX10_image 40 = .ok (.aload_n 0, 1) := by decide +kernel
theorem dX10_image_41 : decode cX10_image 41 = .ok (.getfield 40, 3) := by decide +kernel
theorem dX10_image_44 : decode cX10_image 44 = .ok (.iload_n 1, 1) := by decide +kernel
theorem dX10_image_45 : decode cX10_image 45 = .ok (.iaload, 1) := by decide +kernel
theorem dX10_image_46 : decode cX10_image 46 = .ok (.iastore, 1) := by decide +kernel
theorem dX10_image_47 : decode cX10_image 47 = .ok (.iinc 1 1, 3) := by decide +kernel
theorem dX10_image_50 : decode cX10_image 50 = .ok (.goto (-22), 3) := by decide +kernel
theorem dX10_image_53 : decode cX10_image 53 = .ok (.iconst 0, 1) := by decide +kernel
theorem dX10_image_54 : decode cX10_image 54 = .ok (.istore_n 1, 1) := by decide +kernel
theorem dX10_image_55 : decode cX10_image 55 = .ok (.iload_n 1, 1) := by decide +kernel
theorem dX10_image_56 : decode cX10_image 56 = .ok (.bipush 6, 2) := by decide +kernel
theorem dX10_image_58 : decode cX10_image 58 = .ok (.if_icmp .ge 21, 3) := by decide +kernel
theorem dX10_image_61 : decode cX10_image 61 = .ok (.aload_n 0, 1) := by decide +kernel
theorem dX10_image_62 : decode cX10_image 62 = .ok (.getfield 81, 3) := by decide +kernel
theorem dX10_image_65 : decode cX10_image 65 = .ok (.iload_n 1, 1) := by decide +kernel
theorem dX10_image_66 : decode cX10_image 66 = .ok (.aload_n 0, 1) := by decide +kernel
theorem dX10_image_67 : decode cX10_image 67 = .ok (.getfield 43, 3) := by decide +kernel
theorem dX10_image_70 : decode cX10_image 70 = .ok (.iload_n 1, 1) := by decide +kernel
theorem dX10_image_71 : decode cX10_image 71 = .ok (.iaload, 1) := by decide +kernel
theorem dX10_image_72 : decode cX10_image 72 = .ok (.iastore, 1) := by decide +kernel
theorem dX10_image_73 : decode cX10_image 73 = .ok (.iinc 1 1, 3) := by decide +kernel
theorem dX10_image_76 : decode cX10_image 76 = .ok (.goto (-21), 3) := by decide +kernel
theorem dX10_image_79 : decode cX10_image 79 = .ok (.iconst 0, 1) := by decide +kernel
theorem dX10_image_80 : decode cX10_image 80 = .ok (.istore_n 1, 1) := by decide +kernel
theorem dX10_image_81 : decode cX10_image 81 = .ok (.iload_n 1, 1) := by decide +kernel
theorem dX10_image_82 : decode cX10_image 82 = .ok (.sipush 401, 3) := by decide +kernel
theorem dX10_image_85 : decode cX10_image 85 = .ok (.if_icmp .ge 33, 3) := by decide +kernel
theorem dX10_image_88 : decode cX10_image 88 = .ok (.aload_n 0, 1) := by decide +kernel
theorem dX10_image_89 : decode cX10_image 89 = .ok (.getfield 84, 3) := by decide +kernel
theorem dX10_image_92 : decode cX10_image 92 = .ok (.iload_n 1, 1) := by decide +kernel
theorem dX10_image_93 : decode cX10_image 93 = .ok (.aload_n 0, 1) := by decide +kernel
theorem dX10_image_94 : decode cX10_image 94 = .ok (.getfield 69, 3) := by decide +kernel
theorem dX10_image_97 : decode cX10_image 97 = .ok (.iload_n 1, 1) := by decide +kernel
theorem dX10_image_98 : decode cX10_image 98 = .ok (.iaload, 1) := by decide +kernel
theorem dX10_image_99 : decode cX10_image 99 = .ok (.iastore, 1) := by decide +kernel
theorem dX10_image_100 : decode cX10_image 100 = .ok (.aload_n 0, 1) := by decide +kernel
theorem dX10_image_101 : decode cX10_image 101 = .ok (.getfield 87, 3) := by decide +kernel
theorem dX10_image_104 : decode cX10_image 104 = .ok (.iload_n 1, 1) := by decide +kernel
theorem dX10_image_105 : decode cX10_image 105 = .ok (.aload_n 0, 1) := by decide +kernel
theorem dX10_image_106 : decode cX10_image 106 = .ok (.getfield 72, 3) := by decide +kernel
theorem dX10_image_109 : decode cX10_image 109 = .ok (.iload_n 1, 1) := by decide +kernel
theorem dX10_image_110 : decode cX10_image 110 = .ok (.iaload, 1) := by decide +kernel
theorem dX10_image_111 : decode cX10_image 111 = .ok (.iastore, 1) := by decide +kernel
theorem dX10_image_112 : decode cX10_image 112 = .ok (.iinc 1 1, 3) := by decide +kernel
theorem dX10_image_115 : decode cX10_image 115 = .ok (.goto (-34), 3) := by decide +kernel
theorem dX10_image_118 : decode cX10_image 118 = .ok (.aload_n 0, 1) := by decide +kernel
theorem dX10_image_119 : decode cX10_image 119 = .ok (.aload_n 0, 1) := by decide +kernel
theorem dX10_image_120 : decode cX10_image 120 = .ok (.getfield 221, 3) := by decide +kernel
theorem dX10_image_123 : decode cX10_image 123 = .ok (.putfield 337, 3) := by decide +kernel
theorem dX10_image_126 : decode cX10_image 126 = .ok (.aload_n 0, 1) := by decide +kernel
theorem dX10_image_127 : decode cX10_image 127 = .ok (.aload_n 0, 1) := by decide +kernel
theorem dX10_image_128 : decode cX10_image 128 = .ok (.getfield 306, 3) := by decide +kernel
theorem dX10_image_131 : decode cX10_image 131 = .ok (.putfield 340, 3) := by decide +kernel
theorem dX10_image_134 : decode cX10_image 134 = .ok (.aload_n 0, 1) := by decide +kernel
theorem dX10_image_135 : decode cX10_image 135 = .ok (.aload_n 0, 1) := by decide +kernel
theorem dX10_image_136 : decode cX10_image 136 = .ok (.getfield 178, 3) := by decide +kernel
theorem dX10_image_139 : decode cX10_image 139 = .ok (.putfield 90, 3) := by decide +kernel
theorem dX10_image_142 : decode cX10_image 142 = .ok (.aload_n 0, 1) := by decide +kernel
theorem dX10_image_143 : decode cX10_image 143 = .ok (.getfield 178, 3) := by decide +kernel
theorem dX10_image_146 : decode cX10_image 146 = .ok (.ireturn, 1) := by decide +kernel
theorem dX10_in_0 : decode cX10_in 0 = .ok (.lload_n 0, 1) := by decide +kernel
theorem dX10_in_1 : decode cX10_in 1 = .ok (.lload_n 2, 1) := by decide +kernel
theorem dX10_in_2 : decode cX10_in 2 = .ok (.lcmp, 1) := by decide +kernel
theorem dX10_in_3 : decode cX10_in 3 = .ok (.ifCond .lt 14, 3) := by decide +kernel
theorem dX10_in_6 : decode cX10_in 6 = .ok (.lload_n 0, 1) := by decide +kernel
theorem dX10_in_7 : decode cX10_in 7 = .ok (.lload 4, 2) := by decide +kernel
theorem dX10_in_9 : decode cX10_in 9 = .ok (.lcmp, 1) := by decide +kernel
theorem dX10_in_10 : decode cX10_in 10 = .ok (.ifCond .gt 7, 3) := by decide +kernel
theorem dX10_in_13 : decode cX10_in 13 = .ok (.iconst 1, 1) := by decide +kernel
theorem dX10_in_14 : decode cX10_in 14 = .ok (.goto 4, 3) := by decide +kernel
theorem dX10_in_17 : decode cX10_in 17 = .ok (.iconst 0, 1) := by decide +kernel
theorem dX10_in_18 : decode cX10_in 18 = .ok (.ireturn, 1) := by decide +kernel
theorem dX10_init_0 : decode cX10_init 0 = .ok (.aload_n 0, 1) := by decide +kernel
theorem dX10_init_1 : decode cX10_init 1 = .ok (.invokespecial 1, 3) := by decide +kernel
theorem dX10_init_4 : decode cX10_init 4 = .ok (.aload_n 0, 1) := by decide +kernel
theorem dX10_init_5 : decode cX10_init 5 = .ok (.bipush 40, 2) := by decide +kernel
theorem dX10_init_7 : decode cX10_init 7 = .ok (.newarray .int, 2) := by decide +kernel
theorem dX10_init_9 : decode cX10_init 9 = .ok (.putfield 7, 3) := by decide +kernel
theorem dX10_init_12 : decode cX10_init 12 = .ok (.aload_n 0, 1) := by decide +kernel
theorem dX10_init_13 : decode cX10_init 13 = .ok (.iconst 3, 1) := by decide +kernel
theorem dX10_init_14 : decode cX10_init 14 = .ok (.newarray .int, 2) := by decide +kernel
theorem dX10_init_16 : decode cX10_init 16 = .ok (.putfield 13, 3) := by decide +kernel
theorem dX10_init_19 : decode cX10_init 19 = .ok (.aload_n 0, 1) := by decide +kernel
theorem dX10_init_20 : decode cX10_init 20 = .ok (.bipush 24, 2) := by decide +kernel
theorem dX10_init_22 : decode cX10_init 22 = .ok (.newarray .int, 2) := by decide +kernel
theorem dX10_init_24 : decode cX10_init 24 = .ok (.putfield 16, 3) := by decide +kernel
theorem dX10_init_27 : decode cX10_init 27 = .ok (.aload_n 0, 1) := by decide +kernel
theorem dX10_init_28 : decode cX10_init 28 = .ok (.iconst 5, 1) := by decide +kernel
theorem dX10_init_29 : decode cX10_init 29 = .ok (.newarray .int, 2) := by decide +kernel
theorem dX10_init_31 : decode cX10_init 31 = .ok (.putfield 19, 3) := by decide +kernel
theorem dX10_init_34 : decode cX10_init 34 = .ok (.aload_n 0, 1) := by decide +kernel
theorem dX10_init_35 : decode cX10_init 35 = .ok (.bipush 12, 2) := by decide +kernel
theorem dX10_init_37 : decode cX10_init 37 = .ok (.newarray .int, 2) := by decide +kernel
theorem dX10_init_39 : decode cX10_init 39 = .ok (.putfield 22, 3) := by decide +kernel
theorem dX10_init_42 : decode cX10_init 42 = .ok (.aload_n 0, 1) := by decide +kernel
theorem dX10_init_43 : decode cX10_init 43 = .ok (.bipush 96, 2) := by decide +kernel
theorem dX10_init_45 : decode cX10_init 45 = .ok (.newarray .int, 2) := by decide +kernel
theorem dX10_init_47 : decode cX10_init 47 = .ok (.putfield 25, 3) := by decide +kernel
theorem dX10_init_50 : decode cX10_init 50 = .ok (.aload_n 0, 1) := by decide +kernel
theorem dX10_init_51 : decode cX10_init 51 = .ok (.iconst 5, 1) := by decide +kernel
theorem dX10_init_52 : decode cX10_init 52 = .ok (.newarray .int, 2) := by decide +kernel
theorem dX10_init_54 : decode cX10_init 54 = .ok (.putfield 28, 3) := by decide +kernel
theorem dX10_init_57 : decode cX10_init 57 = .ok (.aload_n 0, 1) := by decide +kernel
theorem dX10_init_58 : decode cX10_init 58 = .ok (.iconst 4, 1) := by decide +kernel
theorem dX10_init_59 : decode cX10_init 59 = .ok (.newarray .int, 2) := by decide +kernel
theorem dX10_init_61 : decode cX10_init 61 = .ok (.putfield 31, 3) := by decide +kernel
theorem dX10_init_64 : decode cX10_init 64 = .ok (.aload_n 0, 1) := by decide +kernel
theorem dX10_init_65 : decode cX10_init 65 = .ok (.iconst 4, 1) := by decide +kernel
theorem dX10_init_66 : decode cX10_init 66 = .ok (.newarray .int, 2) := by decide +kernel
theorem dX10_init_68 : decode cX10_init 68 = .ok (.putfield 34, 3) := by decide +kernel
theorem dX10_init_71 : decode cX10_init 71 = .ok (.aload_n 0, 1) := by decide +kernel
theorem dX10_init_72 : decode cX10_init 72 = .ok (.bipush 96, 2) := by decide +kernel
theorem dX10_init_74 : decode cX10_init 74 = .ok (.newarray .int, 2) := by decide +kernel
theorem dX10_init_76 : decode cX10_init 76 = .ok (.putfield 37, 3) := by decide +kernel
theorem dX10_init_79 : decode cX10_init 79 = .ok (.aload_n 0, 1) := by decide +kernel
theorem dX10_init_80 : decode cX10_init 80 = .ok (.sipush 192, 3) := by decide +kernel
theorem dX10_init_83 : decode cX10_init 83 = .ok (.newarray .int, 2) := by decide +kernel
theorem dX10_init_85 : decode cX10_init 85 = .ok (.putfield 40, 3) := by decide +kernel
theorem dX10_init_88 : decode cX10_init 88 = .ok (.aload_n 0, 1) := by decide +kernel
theorem dX10_init_89 : decode cX10_init 89 = .ok (.bipush 6, 2) := by decide +kernel
theorem dX10_init_91 : decode cX10_init 91 = .ok (.newarray .int, 2) := by decide +kernel
theorem dX10_init_93 : decode cX10_init 93 = .ok (.putfield 43, 3) := by decide +kernel
theorem dX10_init_96 : decode cX10_init 96 = .ok (.aload_n 0, 1) := by decide +kernel
theorem dX10_init_97 : decode cX10_init 97 = .ok (.bipush 16, 2) := by decide +kernel
theorem dX10_init_99 : decode cX10_init 99 = .ok (.newarray .int, 2) := by decide +kernel
theorem dX10_init_101 : decode cX10_init 101 = .ok (.putfield 46, 3) := by decide +kernel
theorem dX10_init_104 : decode cX10_init 104 = .ok (.aload_n 0, 1) := by decide +kernel
theorem dX10_init_105 : decode cX10_init 105 = .ok (.bipush 16, 2) := by decide +kernel
theorem dX10_init_107 : decode cX10_init 107 = .ok (.newarray .int, 2) := by decide +kernel
theorem dX10_init_109 : decode cX10_init 109 = .ok (.putfield 49, 3) := by decide +kernel
theorem dX10_init_112 : decode cX10_init 112 = .ok (.aload_n 0, 1) := by decide +kernel
theorem dX10_init_113 : decode cX10_init 113 = .ok (.bipush 16, 2) := by decide +kernel
theorem dX10_init_115 : decode cX10_init 115 = .ok (.newarray .boolean, 2) := by decide +kernel
theorem dX10_init_117 : decode cX10_init 117 = .ok (.putfield 52, 3) := by decide +kernel
theorem dX10_init_120 : decode cX10_init 120 = .ok (.aload_n 0, 1) := by decide +kernel
theorem dX10_init_121 : decode cX10_init 121 = .ok (.bipush 16, 2) := by decide +kernel
theorem dX10_init_123 : decode cX10_init 123 = .ok (.newarray .int, 2) := by decide +kernel
theorem dX10_init_125 : decode cX10_init 125 = .ok (.putfield 56, 3) := by decide +kernel
theorem dX10_init_128 : decode cX10_init 128 = .ok (.aload_n 0, 1) := by decide +kernel
theorem dX10_init_129 : decode cX10_init 129 = .ok (.sipush 8721, 3) := by decide +kernel
theorem dX10_init_132 : decode cX10_init 132 = .ok (.newarray .long, 2) := by decide +kernel
theorem dX10_init_134 : decode cX10_init 134 = .ok (.putfield 59, 3) := by decide +kernel
theorem dX10_init_137 : decode cX10_init 137 = .ok (.aload_n 0, 1) := by decide +kernel
theorem dX10_init_138 : decode cX10_init 138 = .ok (.sipush 513, 3) := by decide +kernel
theorem dX10_init_141 : decode cX10_init 141 = .ok (.newarray .long, 2) := by decide +kernel
theorem dX10_init_143 : decode cX10_init 143 = .ok (.putfield 63, 3) := by decide +kernel
theorem dX10_init_146 : decode cX10_init 146 = .ok (.aload_n 0, 1) := by decide +kernel
theorem dX10_init_147 : decode cX10_init 147 = .ok (.sipush 513, 3) := by decide +kernel
theorem dX10_init_150 : decode cX10_init 150 = .ok (.newarray .long, 2) := by decide +kernel
theorem dX10_init_152 : decode cX10_init 152 = .ok (.putfield 66, 3) := by decide +kernel
theorem dX10_init_155 : decode cX10_init 155 = .ok (.aload_n 0, 1) := by decide +kernel
theorem dX10_init_156 : decode cX10_init 156 = .ok (.sipush 401, 3) := by decide +kernel
theorem dX10_init_159 : decode cX10_init 159 = .ok (.newarray .int, 2) := by decide +kernel
theorem dX10_init_161 : decode cX10_init 161 = .ok (.putfield 69, 3) := by decide +kernel
theorem dX10_init_164 : decode cX10_init 164 = .ok (.aload_n 0, 1) := by decide +kernel
theorem dX10_init_165 : decode cX10_init 165 = .ok (.sipush 401, 3) := by decide +kernel
theorem dX10_init_168 : decode cX10_init 168 = .ok (.newarray .int, 2) := by decide +kernel
theorem dX10_init_170 : decode cX10_init 170 = .ok (.putfield 72, 3) := by decide +kernel
theorem dX10_init_173 : decode cX10_init 173 = .ok (.aload_n 0, 1) := by decide +kernel
theorem dX10_init_174 : decode cX10_init 174 = .ok (.bipush 96, 2) := by decide +kernel
theorem dX10_init_176 : decode cX10_init 176 = .ok (.newarray .int, 2) := by decide +kernel
theorem dX10_init_178 : decode cX10_init 178 = .ok (.putfield 75, 3) := by decide +kernel
theorem dX10_init_181 : decode cX10_init 181 = .ok (.aload_n 0, 1) := by decide +kernel
theorem dX10_init_182 : decode cX10_init 182 = .ok (.sipush 192, 3) := by decide +kernel
theorem dX10_init_185 : decode cX10_init 185 = .ok (.newarray .int, 2) := by decide +kernel
theorem dX10_init_187 : decode cX10_init 187 = .ok (.putfield 78, 3) := by decide +kernel
theorem dX10_init_190 : decode cX10_init 190 = .ok (.aload_n 0, 1) := by decide +kernel
theorem dX10_init_191 : decode cX10_init 191 = .ok (.bipush 6, 2) := by decide +kernel
theorem dX10_init_193 : decode cX10_init 193 = .ok (.newarray .int, 2) := by decide +kernel
theorem dX10_init_195 : decode cX10_init 195 = .ok (.putfield 81, 3) := by decide +kernel
theorem dX10_init_198 : decode cX10_init 198 = .ok (.aload_n 0, 1) := by decide +kernel
theorem dX10_init_199 : decode cX10_init 199 = .ok (.sipush 401, 3) := by decide +kernel
theorem dX10_init_202 : decode cX10_init 202 = .ok (.newarray .int, 2) := by decide +kernel
theorem dX10_init_204 : decode cX10_init 204 = .ok (.putfield 84, 3) := by decide +kernel
theorem dX10_init_207 : decode cX10_init 207 = .ok (.aload_n 0, 1) := by decide +kernel
theorem dX10_init_208 : decode cX10_init 208 = .ok (.sipush 401, 3) := by decide +kernel
theorem dX10_init_211 : decode cX10_init 211 = .ok (.newarray .int, 2) := by decide +kernel
theorem dX10_init_213 : decode cX10_init 213 = .ok (.putfield 87, 3) := by decide +kernel
theorem dX10_init_216 : decode cX10_init 216 = .ok (.iconst 0, 1) := by decide +kernel
theorem dX10_init_217 : decode cX10_init 217 = .ok (.istore_n 1, 1) := by decide +kernel
theorem dX10_init_218 : decode cX10_init 218 = .ok (.iload_n 1, 1) := by decide +kernel
theorem dX10_init_219 : decode cX10_init 219 = .ok (.sipush 401, 3) := by decide +kernel
theorem dX10_init_222 : decode cX10_init 222 = .ok (.if_icmp .ge 16, 3) := by decide +kernel
theorem dX10_init_225 : decode cX10_init 225 = .ok (.aload_n 0, 1) := by decide +kernel
theorem dX10_init_226 : decode cX10_init 226 = .ok (.getfield 69, 3) := by decide +kernel
theorem dX10_init_229 : decode cX10_init 229 = .ok (.iload_n 1, 1) := by decide +kernel
theorem dX10_init_230 : decode cX10_init 230 = .ok (.iconst (-1), 1) := by decide +kernel
theorem dX10_init_231 : decode cX10_init 231 = .ok (.iastore, 1) := by decide +kernel
theorem dX10_init_232 : decode cX10_init 232 = .ok (.iinc 1 1, 3) := by decide +kernel
theorem dX10_init_235 : decode cX10_init 235 = .ok (.goto (-17), 3) := by decide +kernel
theorem dX10_init_238 : decode cX10_init 238 = .ok (.aload_n 0, 1) := by decide +kernel
theorem dX10_init_239 : decode cX10_init 239 = .ok (.iconst (-1), 1) := by decide +kernel
theorem dX10_init_240 : decode cX10_init 240 = .ok (.putfield 90, 3) := by decide +kernel
theorem dX10_init_243 : decode cX10_init 243 = .ok (.return_, 1) := by decide +kernel
theorem dX10_isCounted_0 : decode cX10_isCounted 0 = .ok (.aload_n 0, 1) := by decide +kernel
theorem dX10_isCounted_1 : decode cX10_isCounted 1 = .ok (.getfield 37, 3) := by decide +kernel
theorem dX10_isCounted_4 : decode cX10_isCounted 4 = .ok (.bipush 6, 2) := by decide +kernel
theorem dX10_isCounted_6 : decode cX10_isCounted 6 = .ok (.iload_n 1, 1) := by decide +kernel
theorem dX10_isCounted_7 : decode cX10_isCounted 7 = .ok (.imul, 1) := by decide +kernel
theorem dX10_isCounted_8 : decode cX10_isCounted 8 = .ok (.iaload, 1) := by decide +kernel
theorem dX10_isCounted_9 : decode cX10_isCounted 9 = .ok (.iconst 3, 1) := by decide +kernel
theorem dX10_isCounted_10 : decode cX10_isCounted 10 = .ok (.if_icmp .eq 7, 3) := by decide +kernel
theorem dX10_isCounted_13 : decode cX10_isCounted 13 = .ok (.iconst 1, 1) := by decide +kernel
theorem dX10_isCounted_14 : decode cX10_isCounted 14 = .ok (.goto 4, 3) := by decide +kernel
theorem dX10_isCounted_17 : decode cX10_isCounted 17 = .ok (.iconst 0, 1) := by decide +kernel
theorem dX10_isCounted_18 : decode cX10_isCounted 18 = .ok (.ireturn, 1) := by decide +kernel
theorem dX10_isDate_0 : decode cX10_isDate 0 = .ok (.aload_n 0, 1) := by decide +kernel
theorem dX10_isDate_1 : decode cX10_isDate 1 = .ok (.getfield 37, 3) := by decide +kernel
theorem dX10_isDate_4 : decode cX10_isDate 4 = .ok (.bipush 6, 2) := by decide +kernel
theorem dX10_isDate_6 : decode cX10_isDate 6 = .ok (.iload_n 2, 1) := by decide +kernel
theorem dX10_isDate_7 : decode cX10_isDate 7 = .ok (.imul, 1) := by decide +kernel
theorem dX10_isDate_8 : decode cX10_isDate 8 = .ok (.iconst 5, 1) := by decide +kernel
theorem dX10_isDate_9 : decode cX10_isDate 9 = .ok (.iadd, 1) := by decide +kernel
theorem dX10_isDate_10 : decode cX10_isDate 10 = .ok (.iaload, 1) := by decide +kernel
theorem dX10_isDate_11 : decode cX10_isDate 11 = .ok (.istore 4, 2) := by decide +kernel
theorem dX10_isDate_13 : decode cX10_isDate 13 = .ok (.iload 4, 2) := by decide +kernel
theorem dX10_isDate_15 : decode cX10_isDate 15 = .ok (.iconst (-1), 1) := by decide +kernel
theorem dX10_isDate_16 : decode cX10_isDate 16 = .ok (.if_icmp .eq 14, 3) := by decide +kernel
theorem dX10_isDate_19 : decode cX10_isDate 19 = .ok (.iload_n 3, 1) := by decide +kernel
theorem dX10_isDate_20 : decode cX10_isDate 20 = .ok (.aload_n 0, 1) := by decide +kernel
theorem dX10_isDate_21 : decode cX10_isDate 21 = .ok (.getfield 31, 3) := by decide +kernel
theorem dX10_isDate_24 : decode cX10_isDate 24 = .ok (.iload 4, 2) := by decide +kernel
theorem dX10_isDate_26 : decode cX10_isDate 26 = .ok (.iaload, 1) := by decide +kernel
theorem dX10_isDate_27 : decode cX10_isDate 27 = .ok (.if_icmp .lt 7, 3) := by decide +kernel
theorem dX10_isDate_30 : decode cX10_isDate 30 = .ok (.iconst 1, 1) := by decide +kernel
theorem dX10_isDate_31 : decode cX10_isDate 31 = .ok (.goto 4, 3) := by decide +kernel
theorem dX10_isDate_34 : decode cX10_isDate 34 = .ok (.iconst 0, 1) := by decide +kernel
theorem dX10_isDate_35 : decode cX10_isDate 35 = .ok (.istore 5, 2) := by decide +kernel
theorem dX10_isDate_37 : decode cX10_isDate 37 = .ok (.iload 5, 2) := by decide +kernel
theorem dX10_isDate_39 : decode cX10_isDate 39 = .ok (.ifCond .eq 47, 3) := by decide +kernel
theorem dX10_isDate_42 : decode cX10_isDate 42 = .ok (.aload_n 0, 1) := by decide +kernel
theorem dX10_isDate_43 : decode cX10_isDate 43 = .ok (.getfield 69, 3) := by decide +kernel
theorem dX10_isDate_46 : decode cX10_isDate 46 = .ok (.iload_n 3, 1) := by decide +kernel
theorem dX10_isDate_47 : decode cX10_isDate 47 = .ok (.iaload, 1) := by decide +kernel
theorem dX10_isDate_48 : decode cX10_isDate 48 = .ok (.iconst (-1), 1) := by decide +kernel
theorem dX10_isDate_49 : decode cX10_isDate 49 = .ok (.if_icmp .eq 33, 3) := by decide +kernel
theorem dX10_isDate_52 : decode cX10_isDate 52 = .ok (.aload_n 0, 1) := by decide +kernel
theorem dX10_isDate_53 : decode cX10_isDate 53 = .ok (.getfield 69, 3) := by decide +kernel
theorem dX10_isDate_56 : decode cX10_isDate 56 = .ok (.iload_n 3, 1) := by decide +kernel
theorem dX10_isDate_57 : decode cX10_isDate 57 = .ok (.iaload, 1) := by decide +kernel
theorem dX10_isDate_58 : decode cX10_isDate 58 = .ok (.aload_n 0, 1) := by decide +kernel
theorem dX10_isDate_59 : decode cX10_isDate 59 = .ok (.iload_n 1, 1) := by decide +kernel
theorem dX10_isDate_60 : decode cX10_isDate 60 = .ok (.iload_n 2, 1) := by decide +kernel
theorem dX10_isDate_61 : decode cX10_isDate 61 = .ok (.invokevirtual 315, 3) := by decide +kernel
theorem dX10_isDate_64 : decode cX10_isDate 64 = .ok (.if_icmp .gt 22, 3) := by decide +kernel
theorem dX10_isDate_67 : decode cX10_isDate 67 = .ok (.aload_n 0, 1) := by decide +kernel
theorem dX10_isDate_68 : decode cX10_isDate 68 = .ok (.getfield 72, 3) := by decide +kernel
theorem dX10_isDate_71 : decode cX10_isDate 71 = .ok (.iload_n 3, 1) := by decide +kernel
theorem dX10_isDate_72 : decode cX10_isDate 72 = .ok (.iaload, 1) := by decide +kernel
theorem dX10_isDate_73 : decode cX10_isDate 73 = .ok (.aload_n 0, 1) := by decide +kernel
theorem dX10_isDate_74 : decode cX10_isDate 74 = .ok (.iload_n 1, 1) := by decide +kernel
theorem dX10_isDate_75 : decode cX10_isDate 75 = .ok (.iload_n 2, 1) := by decide +kernel
theorem dX10_isDate_76 : decode cX10_isDate 76 = .ok (.invokevirtual 312, 3) := by decide +kernel
theorem dX10_isDate_79 : decode cX10_isDate 79 = .ok (.if_icmp .lt 7, 3) := by decide +kernel
theorem dX10_isDate_82 : decode cX10_isDate 82 = .ok (.iconst 1, 1) := by decide +kernel
theorem dX10_isDate_83 : decode cX10_isDate 83 = .ok (.goto 4, 3) := by decide +kernel
theorem dX10_isDate_86 : decode cX10_isDate 86 = .ok (.iconst 0, 1) := by decide +kernel
theorem dX10_isDate_87 : decode cX10_isDate 87 = .ok (.ireturn, 1) := by decide +kernel
theorem dX10_isDigit_0 : decode cX10_isDigit 0 = .ok (.iload_n 0, 1) := by decide +kernel
theorem dX10_isDigit_1 : decode cX10_isDigit 1 = .ok (.i2l, 1) := by decide +kernel
theorem dX10_isDigit_2 : decode cX10_isDigit 2 = .ok (.ldc2_w 94, 3) := by decide +kernel
theorem dX10_isDigit_5 : decode cX10_isDigit 5 = .ok (.ldc2_w 96, 3) := by decide +kernel
theorem dX10_isDigit_8 : decode cX10_isDigit 8 = .ok (.invokestatic 98, 3) := by decide +kernel
theorem dX10_isDigit_11 : decode cX10_isDigit 11 = .ok (.ireturn, 1) := by decide +kernel
theorem dX10_isMeasure_0 : decode cX10_isMeasure 0 = .ok (.iload_n 1, 1) := by decide +kernel
theorem dX10_isMeasure_1 : decode cX10_isMeasure 1 = .ok (.i2l, 1) := by decide +kernel
theorem dX10_isMeasure_2 : decode cX10_isMeasure 2 = .ok (.lconst 0, 1) := by decide +kernel
theorem dX10_isMeasure_3 : decode cX10_isMeasure 3 = .ok (.aload_n 0, 1) := by decide +kernel
theorem dX10_isMeasure_4 : decode cX10_isMeasure 4 = .ok (.getfield 162, 3) := by decide +kernel
theorem dX10_isMeasure_7 : decode cX10_isMeasure 7 = .ok (.iconst 1, 1) := by decide +kernel
theorem dX10_isMeasure_8 : decode cX10_isMeasure 8 = .ok (.isub, 1) := by decide +kernel
theorem dX10_isMeasure_9 : decode cX10_isMeasure 9 = .ok (.i2l, 1) := by decide +kernel
theorem dX10_isMeasure_10 : decode cX10_isMeasure 10 = .ok (.invokestatic 98, 3) := by decide +kernel
theorem dX10_isMeasure_13 : decode cX10_isMeasure 13 = .ok (.ireturn, 1) := by decide +kernel
theorem dX10_isNear_0 : decode cX10_isNear 0 = .ok (.iconst 0, 1) := by decide +kernel
theorem dX10_isNear_1 : decode cX10_isNear 1 = .ok (.istore 4, 2) := by decide +kernel
theorem dX10_isNear_3 : decode cX10_isNear 3 = .ok (.iconst 0, 1) := by decide +kernel
theorem dX10_isNear_4 : decode cX10_isNear 4 = .ok (.istore 5, 2) := by decide +kernel
theorem dX10_isNear_6 : decode cX10_isNear 6 = .ok (.iload 5, 2) := by decide +kernel
theorem dX10_isNear_8 : decode cX10_isNear 8 = .ok (.aload_n 0, 1) := by decide +kernel
theorem dX10_isNear_9 : decode cX10_isNear 9 = .ok (.getfield 221, 3) := by decide +kernel
theorem dX10_isNear_12 : decode cX10_isNear 12 = .ok (.if_icmp .ge 52, 3) := by decide +kernel
theorem dX10_isNear_15 : decode cX10_isNear 15 = .ok (.iload 4, 2) := by decide +kernel
theorem dX10_isNear_17 : decode cX10_isNear 17 = .ok (.ifCond .ne 34, 3) := by decide +kernel
theorem dX10_isNear_20 : decode cX10_isNear 20 = .ok (.iload_n 2, 1) := by decide +kernel
theorem dX10_isNear_21 : decode cX10_isNear 21 = .ok (.aload_n 0, 1) := by decide +kernel
theorem dX10_isNear_22 : decode cX10_isNear 22 = .ok (.getfield 43, 3) := by decide +kernel
theorem dX10_isNear_25 : decode cX10_isNear 25 = .ok (.iload 5, 2) := by decide +kernel
theorem dX10_isNear_27 : decode cX10_isNear 27 = .ok (.iaload, 1) := by decide +kernel
theorem dX10_isNear_28 : decode cX10_isNear 28 = .ok (.isub, 1) := by decide +kernel
theorem dX10_isNear_29 : decode cX10_isNear 29 = .ok (.i2l, 1) := by decide +kernel
theorem dX10_isNear_30 : decode cX10_isNear 30 = .ok (.lconst 0, 1) := by decide +kernel
theorem dX10_isNear_31 : decode cX10_isNear 31 = .ok (.iload_n 1, 1) := by decide +kernel
theorem dX10_isNear_32 : decode cX10_isNear 32 = .ok (.iconst 4, 1) := by decide +kernel
theorem dX10_isNear_33 : decode cX10_isNear 33 = .ok (.if_icmp .ne 10, 3) := by decide +kernel
theorem dX10_isNear_36 : decode cX10_isNear 36 = .ok (.iload_n 3, 1) := by decide +kernel
theorem dX10_isNear_37 : decode cX10_isNear 37 = .ok (.iconst 5, 1) := by decide +kernel
theorem dX10_isNear_38 : decode cX10_isNear 38 = .ok (.iadd, 1) := by decide +kernel
theorem dX10_isNear_39 : decode cX10_isNear 39 = .ok (.i2l, 1) := by decide +kernel
theorem dX10_isNear_40 : decode cX10_isNear 40 = .ok (.goto 5, 3) := by decide +kernel
theorem dX10_isNear_43 : decode cX10_isNear 43 = .ok (.iload_n 3, 1) := by decide +kernel
theorem dX10_isNear_44 : decode cX10_isNear 44 = .ok (.i2l, 1) := by decide +kernel
theorem dX10_isNear_45 : decode cX10_isNear 45 = .ok (.invokestatic 98, 3) := by decide +kernel
theorem dX10_isNear_48 : decode cX10_isNear 48 = .ok (.ifCond .eq 7, 3) := by decide +kernel
theorem dX10_isNear_51 : decode cX10_isNear 51 = .ok (.iconst 1, 1) := by decide +kernel
theorem dX10_isNear_52 : decode cX10_isNear 52 = .ok (.goto 4, 3) := by decide +kernel
theorem dX10_isNear_55 : decode cX10_isNear 55 = .ok (.iconst 0, 1) := by decide +kernel
theorem dX10_isNear_56 : decode cX10_isNear 56 = .ok (.istore 4, 2) := by decide +kernel
theorem dX10_isNear_58 : decode cX10_isNear 58 = .ok (.iinc 5 1, 3) := by decide +kernel
theorem dX10_isNear_61 : decode cX10_isNear 61 = .ok (.goto (-55), 3) := by decide +kernel
theorem dX10_isNear_64 : decode cX10_isNear 64 = .ok (.iload 4, 2) := by decide +kernel
theorem dX10_isNear_66 : decode cX10_isNear 66 = .ok (.ireturn, 1) := by decide +kernel
theorem dX10_isNearPicture_0 : decode cX10_isNearPicture 0 = .ok (.aload_n 0, 1) := by decide +kernel
theorem dX10_isNearPicture_1 : decode cX10_isNearPicture 1 = .ok (.aload_n 0, 1) := by decide +kernel
theorem dX10_isNearPicture_2 : decode cX10_isNearPicture 2 = .ok (.getfield 37, 3) := by decide +kernel
theorem dX10_isNearPicture_5 : decode cX10_isNearPicture 5 = .ok (.bipush 6, 2) := by decide +kernel
theorem dX10_isNearPicture_7 : decode cX10_isNearPicture 7 = .ok (.iload_n 1, 1) := by decide +kernel
theorem dX10_isNearPicture_8 : decode cX10_isNearPicture 8 = .ok (.imul, 1) := by decide +kernel
theorem dX10_isNearPicture_9 : decode cX10_isNearPicture 9 = .ok (.iaload, 1) := by decide +kernel
theorem dX10_isNearPicture_10 : decode cX10_isNearPicture 10 = .ok (.aload_n 0, 1) := by decide +kernel
theorem dX10_isNearPicture_11 : decode cX10_isNearPicture 11 = .ok (.getfield 37, 3) := by decide +kernel
theorem dX10_isNearPicture_14 : decode cX10_isNearPicture 14 = .ok (.bipush 6, 2) := by decide +kernel
theorem dX10_isNearPicture_16 : decode cX10_isNearPicture 16 = .ok (.iload_n 1, 1) := by decide +kernel
theorem dX10_isNearPicture_17 : decode cX10_isNearPicture 17 = .ok (.imul, 1) := by decide +kernel
theorem dX10_isNearPicture_18 : decode cX10_isNearPicture 18 = .ok (.iconst 2, 1) := by decide +kernel
theorem dX10_isNearPicture_19 : decode cX10_isNearPicture 19 = .ok (.iadd, 1) := by decide +kernel
theorem dX10_isNearPicture_20 : decode cX10_isNearPicture 20 = .ok (.iaload, 1) := by decide +kernel
theorem dX10_isNearPicture_21 : decode cX10_isNearPicture 21 = .ok (.iload_n 2, 1) := by decide +kernel
theorem dX10_isNearPicture_22 : decode cX10_isNearPicture 22 = .ok (.invokevirtual 224, 3) := by decide +kernel
theorem dX10_isNearPicture_25 : decode cX10_isNearPicture 25 = .ok (.ireturn, 1) := by decide +kernel
theorem dX10_isPart_0 : decode cX10_isPart 0 = .ok (.iload_n 0, 1) := by decide +kernel
theorem dX10_isPart_1 : decode cX10_isPart 1 = .ok (.i2l, 1) := by decide +kernel
theorem dX10_isPart_2 : decode cX10_isPart 2 = .ok (.lconst 0, 1) := by decide +kernel
theorem dX10_isPart_3 : decode cX10_isPart 3 = .ok (.lconst 1, 1) := by decide +kernel
theorem dX10_isPart_4 : decode cX10_isPart 4 = .ok (.invokestatic 98, 3) := by decide +kernel
theorem dX10_isPart_7 : decode cX10_isPart 7 = .ok (.ireturn, 1) := by decide +kernel
theorem dX10_isPicture_0 : decode cX10_isPicture 0 = .ok (.iload_n 1, 1) := by decide +kernel
theorem dX10_isPicture_1 : decode cX10_isPicture 1 = .ok (.i2l, 1) := by decide +kernel
theorem dX10_isPicture_2 : decode cX10_isPicture 2 = .ok (.lconst 0, 1) := by decide +kernel
theorem dX10_isPicture_3 : decode cX10_isPicture 3 = .ok (.aload_n 0, 1) := by decide +kernel
theorem dX10_isPicture_4 : decode cX10_isPicture 4 = .ok (.getfield 178, 3) := by decide +kernel
theorem dX10_isPicture_7 : decode cX10_isPicture 7 = .ok (.iconst 1, 1) := by decide +kernel
theorem dX10_isPicture_8 : decode cX10_isPicture 8 = .ok (.isub, 1) := by decide +kernel
theorem dX10_isPicture_9 : decode cX10_isPicture 9 = .ok (.i2l, 1) := by decide +kernel
theorem dX10_isPicture_10 : decode cX10_isPicture 10 = .ok (.invokestatic 98, 3) := by decide +kernel
theorem dX10_isPicture_13 : decode cX10_isPicture 13 = .ok (.ireturn, 1) := by decide +kernel
theorem dX10_isWindow_0 : decode cX10_isWindow 0 = .ok (.iload_n 0, 1) := by decide +kernel
theorem dX10_isWindow_1 : decode cX10_isWindow 1 = .ok (.i2l, 1) := by decide +kernel
theorem dX10_isWindow_2 : decode cX10_isWindow 2 = .ok (.lconst 0, 1) := by decide +kernel
theorem dX10_isWindow_3 : decode cX10_isWindow 3 = .ok (.ldc2_w 173, 3) := by decide +kernel
theorem dX10_isWindow_6 : decode cX10_isWindow 6 = .ok (.invokestatic 98, 3) := by decide +kernel
theorem dX10_isWindow_9 : decode cX10_isWindow 9 = .ok (.ireturn, 1) := by decide +kernel
theorem dX10_lamp_0 : decode cX10_lamp 0 = .ok (.aload_n 0, 1) := by decide +kernel
theorem dX10_lamp_1 : decode cX10_lamp 1 = .ok (.iconst 0, 1) := by decide +kernel
theorem dX10_lamp_2 : decode cX10_lamp 2 = .ok (.invokevirtual 156, 3) := by decide +kernel
theorem dX10_lamp_5 : decode cX10_lamp 5 = .ok (.aload_n 0, 1) := by decide +kernel
theorem dX10_lamp_6 : decode cX10_lamp 6 = .ok (.getfield 104, 3) := by decide +kernel
theorem dX10_lamp_9 : decode cX10_lamp 9 = .ok (.if_icmp .lt 11, 3) := by decide +kernel
theorem dX10_lamp_12 : decode cX10_lamp 12 = .ok (.aload_n 0, 1) := by decide +kernel
theorem dX10_lamp_13 : decode cX10_lamp 13 = .ok (.getfield 107, 3) := by decide +kernel
theorem dX10_lamp_16 : decode cX10_lamp 16 = .ok (.iconst 3, 1) := by decide +kernel
theorem dX10_lamp_17 : decode cX10_lamp 17 = .ok (.if_icmp .ge 6, 3) := by decide +kernel
theorem dX10_lamp_20 : decode cX10_lamp 20 = .ok (.bipush (-103), 2) := by decide +kernel
theorem dX10_lamp_22 : decode cX10_lamp 22 = .ok (.ireturn, 1) := by decide +kernel
theorem dX10_lamp_23 : decode cX10_lamp 23 = .ok (.aload_n 0, 1) := by decide +kernel
theorem dX10_lamp_24 : decode cX10_lamp 24 = .ok (.getfield 159, 3) := by decide +kernel
theorem dX10_lamp_27 : decode cX10_lamp 27 = .ok (.iconst 4, 1) := by decide +kernel
theorem dX10_lamp_28 : decode cX10_lamp 28 = .ok (.if_icmp .ne 6, 3) := by decide +kernel
theorem dX10_lamp_31 : decode cX10_lamp 31 = .ok (.bipush (-104), 2) := by decide +kernel
theorem dX10_lamp_33 : decode cX10_lamp 33 = .ok (.ireturn, 1) := by decide +kernel
theorem dX10_lamp_34 : decode cX10_lamp 34 = .ok (.iconst 0, 1) := by decide +kernel
theorem dX10_lamp_35 : decode cX10_lamp 35 = .ok (.istore_n 1, 1) := by decide +kernel
theorem dX10_lamp_36 : decode cX10_lamp 36 = .ok (.iload_n 1, 1) := by decide +kernel
theorem dX10_lamp_37 : decode cX10_lamp 37 = .ok (.iconst 3, 1) := by decide +kernel
theorem dX10_lamp_38 : decode cX10_lamp 38 = .ok (.if_icmp .ge 28, 3) := by decide +kernel
theorem dX10_lamp_41 : decode cX10_lamp 41 = .ok (.aload_n 0, 1) := by decide +kernel
theorem dX10_lamp_42 : decode cX10_lamp 42 = .ok (.getfield 22, 3) := by decide +kernel
theorem dX10_lamp_45 : decode cX10_lamp 45 = .ok (.iconst 3, 1) := by decide +kernel
theorem dX10_lamp_46 : decode cX10_lamp 46 = .ok (.aload_n 0, 1) := by decide +kernel
theorem dX10_lamp_47 : decode cX10_lamp 47 = .ok (.getfield 159, 3) := by decide +kernel
theorem dX10_lamp_50 : decode cX10_lamp 50 = .ok (.imul, 1) := by decide +kernel
theorem dX10_lamp_51 : decode cX10_lamp 51 = .ok (.iload_n 1, 1) := by decide +kernel
theorem dX10_lamp_52 : decode cX10_lamp 52 = .ok (.iadd, 1) := by decide +kernel
theorem dX10_lamp_53 : decode cX10_lamp 53 = .ok (.aload_n 0, 1) := by decide +kernel
theorem dX10_lamp_54 : decode cX10_lamp 54 = .ok (.getfield 13, 3) := by decide +kernel
theorem dX10_lamp_57 : decode cX10_lamp 57 = .ok (.iload_n 1, 1) := by decide +kernel
theorem dX10_lamp_58 : decode cX10_lamp 58 = .ok (.iaload, 1) := by decide +kernel
theorem dX10_lamp_59 : decode cX10_lamp 59 = .ok (.iastore, 1) := by decide +kernel
theorem dX10_lamp_60 : decode cX10_lamp 60 = .ok (.iinc 1 1, 3) := by decide +kernel
theorem dX10_lamp_63 : decode cX10_lamp 63 = .ok (.goto (-27), 3) := by decide +kernel
theorem dX10_lamp_66 : decode cX10_lamp 66 = .ok (.aload_n 0, 1) := by decide +kernel
theorem dX10_lamp_67 : decode cX10_lamp 67 = .ok (.dup, 1) := by decide +kernel
theorem dX10_lamp_68 : decode cX10_lamp 68 = .ok (.getfield 159, 3) := by decide +kernel
theorem dX10_lamp_71 : decode cX10_lamp 71 = .ok (.iconst 1, 1) := by decide +kernel
theorem dX10_lamp_72 : decode cX10_lamp 72 = .ok (.iadd, 1) := by decide +kernel
theorem dX10_lamp_73 : decode cX10_lamp 73 = .ok (.putfield 159, 3) := by decide +kernel
theorem dX10_lamp_76 : decode cX10_lamp 76 = .ok (.aload_n 0, 1) := by decide +kernel
theorem dX10_lamp_77 : decode cX10_lamp 77 = .ok (.iconst 0, 1) := by decide +kernel
theorem dX10_lamp_78 : decode cX10_lamp 78 = .ok (.putfield 104, 3) := by decide +kernel
theorem dX10_lamp_81 : decode cX10_lamp 81 = .ok (.aload_n 0, 1) := by decide +kernel
theorem dX10_lamp_82 : decode cX10_lamp 82 = .ok (.getfield 159, 3) := by decide +kernel
theorem dX10_lamp_85 : decode cX10_lamp 85 = .ok (.iconst 1, 1) := by decide +kernel
theorem dX10_lamp_86 : decode cX10_lamp 86 = .ok (.isub, 1) := by decide +kernel
theorem dX10_lamp_87 : decode cX10_lamp 87 = .ok (.ireturn, 1) := by decide +kernel
theorem dX10_law_0 : decode cX10_law 0 = .ok (.aload_n 0, 1) := by decide +kernel
theorem dX10_law_1 : decode cX10_law 1 = .ok (.iconst 2, 1) := by decide +kernel
theorem dX10_law_2 : decode cX10_law 2 = .ok (.invokevirtual 156, 3) := by decide +kernel
theorem dX10_law_5 : decode cX10_law 5 = .ok (.aload_n 0, 1) := by decide +kernel
theorem dX10_law_6 : decode cX10_law 6 = .ok (.getfield 104, 3) := by decide +kernel
theorem dX10_law_9 : decode cX10_law 9 = .ok (.if_icmp .lt 11, 3) := by decide +kernel
theorem dX10_law_12 : decode cX10_law 12 = .ok (.aload_n 0, 1) := by decide +kernel
theorem dX10_law_13 : decode cX10_law 13 = .ok (.getfield 107, 3) := by decide +kernel
theorem dX10_law_16 : decode cX10_law 16 = .ok (.iconst 3, 1) := by decide +kernel
theorem dX10_law_17 : decode cX10_law 17 = .ok (.if_icmp .ge 6, 3) := by decide +kernel
theorem dX10_law_20 : decode cX10_law 20 = .ok (.bipush (-103), 2) := by decide +kernel
theorem dX10_law_22 : decode cX10_law 22 = .ok (.ireturn, 1) := by decide +kernel
theorem dX10_law_23 : decode cX10_law 23 = .ok (.aload_n 0, 1) := by decide +kernel
theorem dX10_law_24 : decode cX10_law 24 = .ok (.aload_n 0, 1) := by decide +kernel
theorem dX10_law_25 : decode cX10_law 25 = .ok (.getfield 133, 3) := by decide +kernel
theorem dX10_law_28 : decode cX10_law 28 = .ok (.putfield 165, 3) := by decide +kernel
theorem dX10_law_31 : decode cX10_law 31 = .ok (.iconst 0, 1) := by decide +kernel
theorem dX10_law_32 : decode cX10_law 32 = .ok (.istore_n 1, 1) := by decide +kernel
theorem dX10_law_33 : decode cX10_law 33 = .ok (.iload_n 1, 1) := by decide +kernel
theorem dX10_law_34 : decode cX10_law 34 = .ok (.iconst 5, 1) := by decide +kernel
theorem dX10_law_35 : decode cX10_law 35 = .ok (.if_icmp .ge 21, 3) := by decide +kernel
theorem dX10_law_38 : decode cX10_law 38 = .ok (.aload_n 0, 1) := by decide +kernel
theorem dX10_law_39 : decode cX10_law 39 = .ok (.getfield 28, 3) := by decide +kernel
theorem dX10_law_42 : decode cX10_law 42 = .ok (.iload_n 1, 1) := by decide +kernel
theorem dX10_law_43 : decode cX10_law 43 = .ok (.aload_n 0, 1) := by decide +kernel
theorem dX10_law_44 : decode cX10_law 44 = .ok (.getfield 19, 3) := by decide +kernel
theorem dX10_law_47 : decode cX10_law 47 = .ok (.iload_n 1, 1) := by decide +kernel
theorem dX10_law_48 : decode cX10_law 48 = .ok (.iaload, 1) := by decide +kernel
theorem dX10_law_49 : decode cX10_law 49 = .ok (.iastore, 1) := by decide +kernel
theorem dX10_law_50 : decode cX10_law 50 = .ok (.iinc 1 1, 3) := by decide +kernel
theorem dX10_law_53 : decode cX10_law 53 = .ok (.goto (-20), 3) := by decide +kernel
theorem dX10_law_56 : decode cX10_law 56 = .ok (.aload_n 0, 1) := by decide +kernel
theorem dX10_law_57 : decode cX10_law 57 = .ok (.aload_n 0, 1) := by decide +kernel
theorem dX10_law_58 : decode cX10_law 58 = .ok (.getfield 114, 3) := by decide +kernel
theorem dX10_law_61 : decode cX10_law 61 = .ok (.putfield 168, 3) := by decide +kernel
theorem dX10_law_64 : decode cX10_law 64 = .ok (.aload_n 0, 1) := by decide +kernel
theorem dX10_law_65 : decode cX10_law 65 = .ok (.iconst 0, 1) := by decide +kernel
theorem dX10_law_66 : decode cX10_law 66 = .ok (.putfield 104, 3) := by decide +kernel
theorem dX10_law_69 : decode cX10_law 69 = .ok (.aload_n 0, 1) := by decide +kernel
theorem dX10_law_70 : decode cX10_law 70 = .ok (.getfield 165, 3) := by decide +kernel
theorem dX10_law_73 : decode cX10_law 73 = .ok (.ireturn, 1) := by decide +kernel
theorem dX10_layDates_0 : decode cX10_layDates 0 = .ok (.aload_n 0, 1) := by decide +kernel
theorem dX10_layDates_1 : decode cX10_layDates 1 = .ok (.iconst 0, 1) := by decide +kernel
theorem dX10_layDates_2 : decode cX10_layDates 2 = .ok (.putfield 318, 3) := by decide +kernel
theorem dX10_layDates_5 : decode cX10_layDates 5 = .ok (.aload_n 0, 1) := by decide +kernel
theorem dX10_layDates_6 : decode cX10_layDates 6 = .ok (.iconst (-1), 1) := by decide +kernel
theorem dX10_layDates_7 : decode cX10_layDates 7 = .ok (.putfield 321, 3) := by decide +kernel
theorem dX10_layDates_10 : decode cX10_layDates 10 = .ok (.aload_n 0, 1) := by decide +kernel
theorem dX10_layDates_11 : decode cX10_layDates 11 = .ok (.iconst (-1), 1) := by decide +kernel
theorem dX10_layDates_12 : decode cX10_layDates 12 = .ok (.putfield 324, 3) := by decide +kernel
theorem dX10_layDates_15 : decode cX10_layDates 15 = .ok (.aload_n 0, 1) := by decide +kernel
theorem dX10_layDates_16 : decode cX10_layDates 16 = .ok (.getfield 37, 3) := by decide +kernel
theorem dX10_layDates_19 : decode cX10_layDates 19 = .ok (.bipush 6, 2) := by decide +kernel
theorem dX10_layDates_21 : decode cX10_layDates 21 = .ok (.iload_n 2, 1) := by decide +kernel
theorem dX10_layDates_22 : decode cX10_layDates 22 = .ok (.imul, 1) := by decide +kernel
theorem dX10_layDates_23 : decode cX10_layDates 23 = .ok (.iconst 2, 1) := by decide +kernel
theorem dX10_layDates_24 : decode cX10_layDates 24 = .ok (.iadd, 1) := by decide +kernel
theorem dX10_layDates_25 : decode cX10_layDates 25 = .ok (.iaload, 1) := by decide +kernel
theorem dX10_layDates_26 : decode cX10_layDates 26 = .ok (.aload_n 0, 1) := by decide +kernel
theorem dX10_layDates_27 : decode cX10_layDates 27 = .ok (.getfield 37, 3) := by decide +kernel
theorem dX10_layDates_30 : decode cX10_layDates 30 = .ok (.bipush 6, 2) := by decide +kernel
theorem dX10_layDates_32 : decode cX10_layDates 32 = .ok (.iload_n 2, 1) := by decide +kernel
theorem dX10_layDates_33 : decode cX10_layDates 33 = .ok (.imul, 1) := by decide +kernel
theorem dX10_layDates_34 : decode cX10_layDates 34 = .ok (.iconst 3, 1) := by decide +kernel
theorem dX10_layDates_35 : decode cX10_layDates 35 = .ok (.iadd, 1) := by decide +kernel
theorem dX10_layDates_36 : decode cX10_layDates 36 = .ok (.iaload, 1) := by decide +kernel
theorem dX10_layDates_37 : decode cX10_layDates 37 = .ok (.isub, 1) := by decide +kernel
theorem dX10_layDates_38 : decode cX10_layDates 38 = .ok (.istore_n 3, 1) := by decide +kernel
theorem dX10_layDates_39 : decode cX10_layDates 39 = .ok (.iload_n 3, 1) := by decide +kernel
theorem dX10_layDates_40 : decode cX10_layDates 40 = .ok (.aload_n 0, 1) := by decide +kernel
theorem dX10_layDates_41 : decode cX10_layDates 41 = .ok (.getfield 37, 3) := by decide +kernel
theorem dX10_layDates_44 : decode cX10_layDates 44 = .ok (.bipush 6, 2) := by decide +kernel
theorem dX10_layDates_46 : decode cX10_layDates 46 = .ok (.iload_n 2, 1) := by decide +kernel
theorem dX10_layDates_47 : decode cX10_layDates 47 = .ok (.imul, 1) := by decide +kernel
theorem dX10_layDates_48 : decode cX10_layDates 48 = .ok (.iconst 2, 1) := by decide +kernel
theorem dX10_layDates_49 : decode cX10_layDates 49 = .ok (.iadd, 1) := by decide +kernel
theorem dX10_layDates_50 : decode cX10_layDates 50 = .ok (.iaload, 1) := by decide +kernel
theorem dX10_layDates_51 : decode cX10_layDates 51 = .ok (.aload_n 0, 1) := by decide +kernel
theorem dX10_layDates_52 : decode cX10_layDates 52 = .ok (.getfield 37, 3) := by decide +kernel
theorem dX10_layDates_55 : decode cX10_layDates 55 = .ok (.bipush 6, 2) := by decide +kernel
theorem dX10_layDates_57 : decode cX10_layDates 57 = .ok (.iload_n 2, 1) := by decide +kernel
theorem dX10_layDates_58 : decode cX10_layDates 58 = .ok (.imul, 1) := by decide +kernel
theorem dX10_layDates_59 : decode cX10_layDates 59 = .ok (.iconst 3, 1) := by decide +kernel
theorem dX10_layDates_60 : decode cX10_layDates 60 = .ok (.iadd, 1) := by decide +kernel
theorem dX10_layDates_61 : decode cX10_layDates 61 = .ok (.iaload, 1) := by decide +kernel
theorem dX10_layDates_62 : decode cX10_layDates 62 = .ok (.iadd, 1) := by decide +kernel
theorem dX10_layDates_63 : decode cX10_layDates 63 = .ok (.if_icmp .gt 65, 3) := by decide +kernel
theorem dX10_layDates_66 : decode cX10_layDates 66 = .ok (.iload_n 3, 1) := by decide +kernel
theorem dX10_layDates_67 : decode cX10_layDates 67 = .ok (.i2l, 1) := by decide +kernel
theorem dX10_layDates_68 : decode cX10_layDates 68 = .ok (.lconst 0, 1) := by decide +kernel
theorem dX10_layDates_69 : decode cX10_layDates 69 = .ok (.ldc2_w 171, 3) := by decide +kernel
theorem dX10_layDates_72 : decode cX10_layDates 72 = .ok (.invokestatic 98, 3) := by decide +kernel
theorem dX10_layDates_75 : decode cX10_layDates 75 = .ok (.ifCond .eq 47, 3) := by decide +kernel
theorem dX10_layDates_78 : decode cX10_layDates 78 = .ok (.aload_n 0, 1) := by decide +kernel
theorem dX10_layDates_79 : decode cX10_layDates 79 = .ok (.iload_n 1, 1) := by decide +kernel
theorem dX10_layDates_80 : decode cX10_layDates 80 = .ok (.iload_n 2, 1) := by decide +kernel
theorem dX10_layDates_81 : decode cX10_layDates 81 = .ok (.iload_n 3, 1) := by decide +kernel
theorem dX10_layDates_82 : decode cX10_layDates 82 = .ok (.invokevirtual 327, 3) := by decide +kernel
theorem dX10_layDates_85 : decode cX10_layDates 85 = .ok (.ifCond .eq 37, 3) := by decide +kernel
theorem dX10_layDates_88 : decode cX10_layDates 88 = .ok (.aload_n 0, 1) := by decide +kernel
theorem dX10_layDates_89 : decode cX10_layDates 89 = .ok (.aload_n 0, 1) := by decide +kernel
theorem dX10_layDates_90 : decode cX10_layDates 90 = .ok (.getfield 318, 3) := by decide +kernel
theorem dX10_layDates_93 : decode cX10_layDates 93 = .ok (.ifCond .ne 7, 3) := by decide +kernel
theorem dX10_layDates_96 : decode cX10_layDates 96 = .ok (.iload_n 3, 1) := by decide +kernel
theorem dX10_layDates_97 : decode cX10_layDates 97 = .ok (.goto 7, 3) := by decide +kernel
theorem dX10_layDates_100 : decode cX10_layDates 100 = .ok (.aload_n 0, 1) := by decide +kernel
theorem dX10_layDates_101 : decode cX10_layDates 101 = .ok (.getfield 321, 3) := by decide +kernel
theorem dX10_layDates_104 : decode cX10_layDates 104 = .ok (.putfield 321, 3) := by decide +kernel
theorem dX10_layDates_107 : decode cX10_layDates 107 = .ok (.aload_n 0, 1) := by decide +kernel
theorem dX10_layDates_108 : decode cX10_layDates 108 = .ok (.iload_n 3, 1) := by decide +kernel
theorem dX10_layDates_109 : decode cX10_layDates 109 = .ok (.putfield 324, 3) := by decide +kernel
theorem dX10_layDates_112 : decode cX10_layDates 112 = .ok (.aload_n 0, 1) := by decide +kernel
theorem dX10_layDates_113 : decode cX10_layDates 113 = .ok (.dup, 1) := by decide +kernel
theorem dX10_layDates_114 : decode cX10_layDates 114 = .ok (.getfield 318, 3) := by decide +kernel
theorem dX10_layDates_117 : decode cX10_layDates 117 = .ok (.iconst 1, 1) := by decide +kernel
theorem dX10_layDates_118 : decode cX10_layDates 118 = .ok (.iadd, 1) := by decide +kernel
theorem dX10_layDates_119 : decode cX10_layDates 119 = .ok (.putfield 318, 3) := by decide +kernel
theorem dX10_layDates_122 : decode cX10_layDates 122 = .ok (.iinc 3 1, 3) := by decide +kernel
theorem dX10_layDates_125 : decode cX10_layDates 125 = .ok (.goto (-86), 3) := by decide +kernel
theorem dX10_layDates_128 : decode cX10_layDates 128 = .ok (.return_, 1) := by decide +kernel
theorem dX10_layHand_0 : decode cX10_layHand 0 = .ok (.iconst 0, 1) := by decide +kernel
theorem dX10_layHand_1 : decode cX10_layHand 1 = .ok (.istore_n 2, 1) := by decide +kernel
theorem dX10_layHand_2 : decode cX10_layHand 2 = .ok (.iconst 0, 1) := by decide +kernel
theorem dX10_layHand_3 : decode cX10_layHand 3 = .ok (.istore_n 3, 1) := by decide +kernel
theorem dX10_layHand_4 : decode cX10_layHand 4 = .ok (.iconst 0, 1) := by decide +kernel
theorem dX10_layHand_5 : decode cX10_layHand 5 = .ok (.istore 4, 2) := by decide +kernel
theorem dX10_layHand_7 : decode cX10_layHand 7 = .ok (.iload 4, 2) := by decide +kernel
theorem dX10_layHand_9 : decode cX10_layHand 9 = .ok (.sipush 8721, 3) := by decide +kernel
theorem dX10_layHand_12 : decode cX10_layHand 12 = .ok (.if_icmp .ge 17, 3) := by decide +kernel
theorem dX10_layHand_15 : decode cX10_layHand 15 = .ok (.aload_n 0, 1) := by decide +kernel
theorem dX10_layHand_16 : decode cX10_layHand 16 = .ok (.getfield 59, 3) := by decide +kernel
theorem dX10_layHand_19 : decode cX10_layHand 19 = .ok (.iload 4, 2) := by decide +kernel
theorem dX10_layHand_21 : decode cX10_layHand 21 = .ok (.lconst 0, 1) := by decide +kernel
theorem dX10_layHand_22 : decode cX10_layHand 22 = .ok (.lastore, 1) := by decide +kernel
theorem dX10_layHand_23 : decode cX10_layHand 23 = .ok (.iinc 4 1, 3) := by decide +kernel
theorem dX10_layHand_26 : decode cX10_layHand 26 = .ok (.goto (-19), 3) := by decide +kernel
theorem dX10_layHand_29 : decode cX10_layHand 29 = .ok (.aload_n 0, 1) := by decide +kernel
theorem dX10_layHand_30 : decode cX10_layHand 30 = .ok (.getfield 59, 3) := by decide +kernel
theorem dX10_layHand_33 : decode cX10_layHand 33 = .ok (.sipush 256, 3) := by decide +kernel
theorem dX10_layHand_36 : decode cX10_layHand 36 = .ok (.lconst 1, 1) := by decide +kernel
theorem dX10_layHand_37 : decode cX10_layHand 37 = .ok (.lastore, 1) := by decide +kernel
theorem dX10_layHand_38 : decode cX10_layHand 38 = .ok (.iconst 0, 1) := by decide +kernel
theorem dX10_layHand_39 : decode cX10_layHand 39 = .ok (.istore 4, 2) := by decide +kernel
theorem dX10_layHand_41 : decode cX10_layHand 41 = .ok (.iload 4, 2) := by decide +kernel
theorem dX10_layHand_43 : decode cX10_layHand 43 = .ok (.aload_n 0, 1) := by decide +kernel
theorem dX10_layHand_44 : decode cX10_layHand 44 = .ok (.getfield 256, 3) := by decide +kernel
theorem dX10_layHand_47 : decode cX10_layHand 47 = .ok (.if_icmp .ge 117, 3) := by decide +kernel
theorem dX10_layHand_50 : decode cX10_layHand 50 = .ok (.aload_n 0, 1) := by decide +kernel
theorem dX10_layHand_51 : decode cX10_layHand 51 = .ok (.getfield 46, 3) := by decide +kernel
theorem dX10_layHand_54 : decode cX10_layHand 54 = .ok (.iload 4, 2) := by decide +kernel
theorem dX10_layHand_56 : decode cX10_layHand 56 = .ok (.iaload, 1) := by decide +kernel
theorem dX10_layHand_57 : decode cX10_layHand 57 = .ok (.iload_n 1, 1) := by decide +kernel
theorem dX10_layHand_58 : decode cX10_layHand 58 = .ok (.if_icmp .ne 100, 3) := by decide +kernel
theorem dX10_layHand_61 : decode cX10_layHand 61 = .ok (.aload_n 0, 1) := by decide +kernel
theorem dX10_layHand_62 : decode cX10_layHand 62 = .ok (.iload 4, 2) := by decide +kernel
theorem dX10_layHand_64 : decode cX10_layHand 64 = .ok (.invokevirtual 259, 3) := by decide +kernel
theorem dX10_layHand_67 : decode cX10_layHand 67 = .ok (.istore 5, 2) := by decide +kernel
theorem dX10_layHand_69 : decode cX10_layHand 69 = .ok (.iinc 3 1, 3) := by decide +kernel
theorem dX10_layHand_72 : decode cX10_layHand 72 = .ok (.iload_n 2, 1) := by decide +kernel
theorem dX10_layHand_73 : decode cX10_layHand 73 = .ok (.aload_n 0, 1) := by decide +kernel
theorem dX10_layHand_74 : decode cX10_layHand 74 = .ok (.getfield 52, 3) := by decide +kernel
theorem dX10_layHand_77 : decode cX10_layHand 77 = .ok (.iload 4, 2) := by decide +kernel
theorem dX10_layHand_79 : decode cX10_layHand 79 = .ok (.baload, 1) := by decide +kernel
theorem dX10_layHand_80 : decode cX10_layHand 80 = .ok (.ifCond .eq 7, 3) := by decide +kernel
theorem dX10_layHand_83 : decode cX10_layHand 83 = .ok (.iconst 1, 1) := by decide +kernel
theorem dX10_layHand_84 : decode cX10_layHand 84 = .ok (.goto 4, 3) := by decide +kernel
theorem dX10_layHand_87 : decode cX10_layHand 87 = .ok (.iconst 0, 1) := by decide +kernel
theorem dX10_layHand_88 : decode cX10_layHand 88 = .ok (.iadd, 1) := by decide +kernel
theorem dX10_layHand_89 : decode cX10_layHand 89 = .ok (.istore_n 2, 1) := by decide +kernel
theorem dX10_layHand_90 : decode cX10_layHand 90 = .ok (.iload_n 3, 1) := by decide +kernel
theorem dX10_layHand_91 : decode cX10_layHand 91 = .ok (.istore 6, 2) := by decide +kernel
theorem dX10_layHand_93 : decode cX10_layHand 93 = .ok (.iload 6, 2) := by decide +kernel
theorem dX10_layHand_95 : decode cX10_layHand 95 = .ok (.ifCond .le 63, 3) := by decide +kernel
theorem dX10_layHand_98 : decode cX10_layHand 98 = .ok (.bipush 16, 2) := by decide +kernel
theorem dX10_layHand_100 : decode cX10_layHand 100 = .ok (.istore 7, 2) := by decide +kernel
theorem dX10_layHand_102 : decode cX10_layHand 102 = .ok (.iload 7, 2) := by decide +kernel
theorem dX10_layHand_104 : decode cX10_layHand 104 = .ok (.sipush 497, 3) := by decide +kernel
theorem dX10_layHand_107 : decode cX10_layHand 107 = .ok (.if_icmp .ge 45, 3) := by decide +kernel
theorem dX10_layHand_110 : decode cX10_layHand 110 = .ok (.aload_n 0, 1) := by decide +kernel
theorem dX10_layHand_111 : decode cX10_layHand 111 = .ok (.getfield 59, 3) := by decide +kernel
theorem dX10_layHand_114 : decode cX10_layHand 114 = .ok (.sipush 513, 3) := by decide +kernel
theorem dX10_layHand_117 : decode cX10_layHand 117 = .ok (.iload 6, 2) := by decide +kernel
theorem dX10_layHand_119 : decode cX10_layHand 119 = .ok (.imul, 1) := by decide +kernel
theorem dX10_layHand_120 : decode cX10_layHand 120 = .ok (.iload 7, 2) := by decide +kernel
theorem dX10_layHand_122 : decode cX10_layHand 122 = .ok (.iadd, 1) := by decide +kernel
theorem dX10_layHand_123 : decode cX10_layHand 123 = .ok (.dup2, 1) := by decide +kernel
theorem dX10_layHand_124 : decode cX10_layHand 124 = .ok (.laload, 1) := by decide +kernel
theorem dX10_layHand_125 : decode cX10_layHand 125 = .ok (.aload_n 0, 1) := by decide +kernel
theorem dX10_layHand_126 : decode cX10_layHand 126 = .ok (.getfield 59, 3) := by decide +kernel
theorem dX10_layHand_129 : decode cX10_layHand 129 = .ok (.sipush 513, 3) := by decide +kernel
theorem dX10_layHand_132 : decode cX10_layHand 132 = .ok (.iload 6, 2) := by decide +kernel
theorem dX10_layHand_134 : decode cX10_layHand 134 = .ok (.iconst 1, 1) := by decide +kernel
theorem dX10_layHand_135 : decode cX10_layHand 135 = .ok (.isub, 1) := by decide +kernel
theorem dX10_layHand_136 : decode cX10_layHand 136 = .ok (.imul, 1) := by decide +kernel
theorem dX10_layHand_137 : decode cX10_layHand 137 = .ok (.iload 7, 2) := by decide +kernel
theorem dX10_layHand_139 : decode cX10_layHand 139 = .ok (.iadd, 1) := by decide +kernel
theorem dX10_layHand_140 : decode cX10_layHand 140 = .ok (.iload 5, 2) := by decide +kernel
theorem dX10_layHand_142 : decode cX10_layHand 142 = .ok (.isub, 1) := by decide +kernel
theorem dX10_layHand_143 : decode cX10_layHand 143 = .ok (.laload, 1) := by decide +kernel
theorem dX10_layHand_144 : decode cX10_layHand 144 = .ok (.ladd, 1) := by decide +kernel
theorem dX10_layHand_145 : decode cX10_layHand 145 = .ok (.lastore, 1) := by decide +kernel
theorem dX10_layHand_146 : decode cX10_layHand 146 = .ok (.iinc 7 1, 3) := by decide +kernel
theorem dX10_layHand_149 : decode cX10_layHand 149 = .ok (.goto (-47), 3) := by decide +kernel
theorem dX10_layHand_152 : decode cX10_layHand 152 = .ok (.iinc 6 (-1), 3) := by decide +kernel
theorem dX10_layHand_155 : decode cX10_layHand 155 = .ok (.goto (-62), 3) := by decide +kernel
theorem dX10_layHand_158 : decode cX10_layHand 158 = .ok (.iinc 4 1, 3) := by decide +kernel
theorem dX10_layHand_161 : decode cX10_layHand 161 = .ok (.goto (-120), 3) := by decide +kernel
theorem dX10_layHand_164 : decode cX10_layHand 164 = .ok (.iload_n 2, 1) := by decide +kernel
theorem dX10_layHand_165 : decode cX10_layHand 165 = .ok (.ireturn, 1) := by decide +kernel
theorem dX10_layOdds_0 : decode cX10_layOdds 0 = .ok (.aload_n 0, 1) := by decide +kernel
theorem dX10_layOdds_1 : decode cX10_layOdds 1 = .ok (.invokevirtual 272, 3) := by decide +kernel
theorem dX10_layOdds_4 : decode cX10_layOdds 4 = .ok (.aload_n 0, 1) := by decide +kernel
theorem dX10_layOdds_5 : decode cX10_layOdds 5 = .ok (.invokevirtual 266, 3) := by decide +kernel
theorem dX10_layOdds_8 : decode cX10_layOdds 8 = .ok (.istore_n 1, 1) := by decide +kernel
theorem dX10_layOdds_9 : decode cX10_layOdds 9 = .ok (.aload_n 0, 1) := by decide +kernel
theorem dX10_layOdds_10 : decode cX10_layOdds 10 = .ok (.lconst 0, 1) := by decide +kernel
theorem dX10_layOdds_11 : decode cX10_layOdds 11 = .ok (.putfield 275, 3) := by decide +kernel
theorem dX10_layOdds_14 : decode cX10_layOdds 14 = .ok (.aload_n 0, 1) := by decide +kernel
theorem dX10_layOdds_15 : decode cX10_layOdds 15 = .ok (.lconst 0, 1) := by decide +kernel
theorem dX10_layOdds_16 : decode cX10_layOdds 16 = .ok (.putfield 279, 3) := by decide +kernel
theorem dX10_layOdds_19 : decode cX10_layOdds 19 = .ok (.iconst 0, 1) := by decide +kernel
theorem dX10_layOdds_20 : decode cX10_layOdds 20 = .ok (.istore_n 2, 1) := by decide +kernel
theorem dX10_layOdds_21 : decode cX10_layOdds 21 = .ok (.iload_n 2, 1) := by decide +kernel
theorem dX10_layOdds_22 : decode cX10_layOdds 22 = .ok (.sipush 513, 3) := by decide +kernel
theorem dX10_layOdds_25 : decode cX10_layOdds 25 = .ok (.if_icmp .ge 52, 3) := by decide +kernel
theorem dX10_layOdds_28 : decode cX10_layOdds 28 = .ok (.aload_n 0, 1) := by decide +kernel
theorem dX10_layOdds_29 : decode cX10_layOdds 29 = .ok (.dup, 1) := by decide +kernel
theorem dX10_layOdds_30 : decode cX10_layOdds 30 = .ok (.getfield 279, 3) := by decide +kernel
theorem dX10_layOdds_33 : decode cX10_layOdds 33 = .ok (.aload_n 0, 1) := by decide +kernel
theorem dX10_layOdds_34 : decode cX10_layOdds 34 = .ok (.getfield 63, 3) := by decide +kernel
theorem dX10_layOdds_37 : decode cX10_layOdds 37 = .ok (.iload_n 2, 1) := by decide +kernel
theorem dX10_layOdds_38 : decode cX10_layOdds 38 = .ok (.laload, 1) := by decide +kernel
theorem dX10_layOdds_39 : decode cX10_layOdds 39 = .ok (.ladd, 1) := by decide +kernel
theorem dX10_layOdds_40 : decode cX10_layOdds 40 = .ok (.putfield 279, 3) := by decide +kernel
theorem dX10_layOdds_43 : decode cX10_layOdds 43 = .ok (.aload_n 0, 1) := by decide +kernel
theorem dX10_layOdds_44 : decode cX10_layOdds 44 = .ok (.dup, 1) := by decide +kernel
theorem dX10_layOdds_45 : decode cX10_layOdds 45 = .ok (.getfield 275, 3) := by decide +kernel
theorem dX10_layOdds_48 : decode cX10_layOdds 48 = .ok (.iload_n 2, 1) := by decide +kernel
theorem dX10_layOdds_49 : decode cX10_layOdds 49 = .ok (.sipush 256, 3) := by decide +kernel
theorem dX10_layOdds_52 : decode cX10_layOdds 52 = .ok (.isub, 1) := by decide +kernel
theorem dX10_layOdds_53 : decode cX10_layOdds 53 = .ok (.iload_n 1, 1) := by decide +kernel
theorem dX10_layOdds_54 : decode cX10_layOdds 54 = .ok (.if_icmp .lt 12, 3) := by decide +kernel
theorem dX10_layOdds_57 : decode cX10_layOdds 57 = .ok (.aload_n 0, 1) := by decide +kernel
theorem dX10_layOdds_58 : decode cX10_layOdds 58 = .ok (.getfield 63, 3) := by decide +kernel
theorem dX10_layOdds_61 : decode cX10_layOdds 61 = .ok (.iload_n 2, 1) := by decide +kernel
theorem dX10_layOdds_62 : decode cX10_layOdds 62 = .ok (.laload, 1) := by decide +kernel
theorem dX10_layOdds_63 : decode cX10_layOdds 63 = .ok (.goto 4, 3) := by decide +kernel
theorem dX10_layOdds_66 : decode cX10_layOdds 66 = .ok (.lconst 0, 1) := by decide +kernel
theorem dX10_layOdds_67 : decode cX10_layOdds 67 = .ok (.ladd, 1) := by decide +kernel
theorem dX10_layOdds_68 : decode cX10_layOdds 68 = .ok (.putfield 275, 3) := by decide +kernel
theorem dX10_layOdds_71 : decode cX10_layOdds 71 = .ok (.iinc 2 1, 3) := by decide +kernel
theorem dX10_layOdds_74 : decode cX10_layOdds 74 = .ok (.goto (-53), 3) := by decide +kernel
theorem dX10_layOdds_77 : decode cX10_layOdds 77 = .ok (.return_, 1) := by decide +kernel
