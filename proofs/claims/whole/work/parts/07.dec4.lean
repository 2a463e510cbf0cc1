theorem dX9_isRoutine_0 : decode cX9_isRoutine 0 = .ok (.iload_n 0, 1) := by decide +kernel
theorem dX9_isRoutine_1 : decode cX9_isRoutine 1 = .ok (.i2l, 1) := by decide +kernel
theorem dX9_isRoutine_2 : decode cX9_isRoutine 2 = .ok (.lconst 0, 1) := by decide +kernel
theorem dX9_isRoutine_3 : decode cX9_isRoutine 3 = .ok (.ldc2_w 76, 3) := by decide +kernel
theorem dX9_isRoutine_6 : decode cX9_isRoutine 6 = .ok (.invokestatic 68, 3) := by decide +kernel
theorem dX9_isRoutine_9 : decode cX9_isRoutine 9 = .ok (.ireturn, 1) := by decide +kernel
theorem dX9_isState_0 : decode cX9_isState 0 = .ok (.aload_n 0, 1) := by decide +kernel
theorem dX9_isState_1 : decode cX9_isState 1 = .ok (.getfield 334, 3) := by decide +kernel
theorem dX9_isState_4 : decode cX9_isState 4 = .ok (.ifCond .eq 23, 3) := by decide +kernel
theorem dX9_isState_7 : decode cX9_isState 7 = .ok (.iload_n 1, 1) := by decide +kernel
theorem dX9_isState_8 : decode cX9_isState 8 = .ok (.i2l, 1) := by decide +kernel
theorem dX9_isState_9 : decode cX9_isState 9 = .ok (.lconst 0, 1) := by decide +kernel
theorem dX9_isState_10 : decode cX9_isState 10 = .ok (.aload_n 0, 1) := by decide +kernel
theorem dX9_isState_11 : decode cX9_isState 11 = .ok (.getfield 328, 3) := by decide +kernel
theorem dX9_isState_14 : decode cX9_isState 14 = .ok (.iconst 1, 1) := by decide +kernel
theorem dX9_isState_15 : decode cX9_isState 15 = .ok (.isub, 1) := by decide +kernel
theorem dX9_isState_16 : decode cX9_isState 16 = .ok (.i2l, 1) := by decide +kernel
theorem dX9_isState_17 : decode cX9_isState 17 = .ok (.invokestatic 68, 3) := by decide +kernel
theorem dX9_isState_20 : decode cX9_isState 20 = .ok (.ifCond .eq 7, 3) := by decide +kernel
theorem dX9_isState_23 : decode cX9_isState 23 = .ok (.iconst 1, 1) := by decide +kernel
theorem dX9_isState_24 : decode cX9_isState 24 = .ok (.goto 4, 3) := by decide +kernel
theorem dX9_isState_27 : decode cX9_isState 27 = .ok (.iconst 0, 1) := by decide +kernel
theorem dX9_isState_28 : decode cX9_isState 28 = .ok (.ireturn, 1) := by decide +kernel
theorem dX9_isThere_0 : decode cX9_isThere 0 = .ok (.iload_n 1, 1) := by decide +kernel
theorem dX9_isThere_1 : decode cX9_isThere 1 = .ok (.iconst 2, 1) := by decide +kernel
theorem dX9_isThere_2 : decode cX9_isThere 2 = .ok (.if_icmp .le 26, 3) := by decide +kernel
theorem dX9_isThere_5 : decode cX9_isThere 5 = .ok (.aload_n 0, 1) := by decide +kernel
theorem dX9_isThere_6 : decode cX9_isThere 6 = .ok (.getfield 16, 3) := by decide +kernel
theorem dX9_isThere_9 : decode cX9_isThere 9 = .ok (.iload_n 1, 1) := by decide +kernel
theorem dX9_isThere_10 : decode cX9_isThere 10 = .ok (.iconst 3, 1) := by decide +kernel
theorem dX9_isThere_11 : decode cX9_isThere 11 = .ok (.isub, 1) := by decide +kernel
theorem dX9_isThere_12 : decode cX9_isThere 12 = .ok (.invokestatic 122, 3) := by decide +kernel
theorem dX9_isThere_15 : decode cX9_isThere 15 = .ok (.bipush 7, 2) := by decide +kernel
theorem dX9_isThere_17 : decode cX9_isThere 17 = .ok (.iadd, 1) := by decide +kernel
theorem dX9_isThere_18 : decode cX9_isThere 18 = .ok (.iaload, 1) := by decide +kernel
theorem dX9_isThere_19 : decode cX9_isThere 19 = .ok (.ifCond .le 7, 3) := by decide +kernel
theorem dX9_isThere_22 : decode cX9_isThere 22 = .ok (.iconst 1, 1) := by decide +kernel
theorem dX9_isThere_23 : decode cX9_isThere 23 = .ok (.goto 4, 3) := by decide +kernel
theorem dX9_isThere_26 : decode cX9_isThere 26 = .ok (.iconst 0, 1) := by decide +kernel
theorem dX9_isThere_27 : decode cX9_isThere 27 = .ok (.ireturn, 1) := by decide +kernel
theorem dX9_isThere_28 : decode cX9_isThere 28 = .ok (.iload_n 1, 1) := by decide +kernel
theorem dX9_isThere_29 : decode cX9_isThere 29 = .ok (.invokestatic 122, 3) := by decide +kernel
theorem dX9_isThere_32 : decode cX9_isThere 32 = .ok (.istore_n 2, 1) := by decide +kernel
theorem dX9_isThere_33 : decode cX9_isThere 33 = .ok (.aload_n 0, 1) := by decide +kernel
theorem dX9_isThere_34 : decode cX9_isThere 34 = .ok (.getfield 16, 3) := by decide +kernel
theorem dX9_isThere_37 : decode cX9_isThere 37 = .ok (.iload_n 2, 1) := by decide +kernel
theorem dX9_isThere_38 : decode cX9_isThere 38 = .ok (.iconst 3, 1) := by decide +kernel
theorem dX9_isThere_39 : decode cX9_isThere 39 = .ok (.iadd, 1) := by decide +kernel
theorem dX9_isThere_40 : decode cX9_isThere 40 = .ok (.iaload, 1) := by decide +kernel
theorem dX9_isThere_41 : decode cX9_isThere 41 = .ok (.ifCond .ne 28, 3) := by decide +kernel
theorem dX9_isThere_44 : decode cX9_isThere 44 = .ok (.aload_n 0, 1) := by decide +kernel
theorem dX9_isThere_45 : decode cX9_isThere 45 = .ok (.getfield 16, 3) := by decide +kernel
theorem dX9_isThere_48 : decode cX9_isThere 48 = .ok (.iload_n 2, 1) := by decide +kernel
theorem dX9_isThere_49 : decode cX9_isThere 49 = .ok (.iconst 0, 1) := by decide +kernel
theorem dX9_isThere_50 : decode cX9_isThere 50 = .ok (.iadd, 1) := by decide +kernel
theorem dX9_isThere_51 : decode cX9_isThere 51 = .ok (.iaload, 1) := by decide +kernel
theorem dX9_isThere_52 : decode cX9_isThere 52 = .ok (.aload_n 0, 1) := by decide +kernel
theorem dX9_isThere_53 : decode cX9_isThere 53 = .ok (.getfield 13, 3) := by decide +kernel
theorem dX9_isThere_56 : decode cX9_isThere 56 = .ok (.sipush 912, 3) := by decide +kernel
theorem dX9_isThere_59 : decode cX9_isThere 59 = .ok (.iload_n 1, 1) := by decide +kernel
theorem dX9_isThere_60 : decode cX9_isThere 60 = .ok (.iadd, 1) := by decide +kernel
theorem dX9_isThere_61 : decode cX9_isThere 61 = .ok (.iaload, 1) := by decide +kernel
theorem dX9_isThere_62 : decode cX9_isThere 62 = .ok (.if_icmp .ge 7, 3) := by decide +kernel
theorem dX9_isThere_65 : decode cX9_isThere 65 = .ok (.iconst 1, 1) := by decide +kernel
theorem dX9_isThere_66 : decode cX9_isThere 66 = .ok (.goto 4, 3) := by decide +kernel
theorem dX9_isThere_69 : decode cX9_isThere 69 = .ok (.iconst 0, 1) := by decide +kernel
theorem dX9_isThere_70 : decode cX9_isThere 70 = .ok (.ireturn, 1) := by decide +kernel
theorem dX9_keep_0 : decode cX9_keep 0 = .ok (.aload_n 0, 1) := by decide +kernel
theorem dX9_keep_1 : decode cX9_keep 1 = .ok (.getfield 328, 3) := by decide +kernel
theorem dX9_keep_4 : decode cX9_keep 4 = .ok (.istore 4, 2) := by decide +kernel
theorem dX9_keep_6 : decode cX9_keep 6 = .ok (.iconst 0, 1) := by decide +kernel
theorem dX9_keep_7 : decode cX9_keep 7 = .ok (.istore 5, 2) := by decide +kernel
theorem dX9_keep_9 : decode cX9_keep 9 = .ok (.iload 5, 2) := by decide +kernel
theorem dX9_keep_11 : decode cX9_keep 11 = .ok (.bipush 100, 2) := by decide +kernel
theorem dX9_keep_13 : decode cX9_keep 13 = .ok (.if_icmp .ge 29, 3) := by decide +kernel
theorem dX9_keep_16 : decode cX9_keep 16 = .ok (.aload_n 0, 1) := by decide +kernel
theorem dX9_keep_17 : decode cX9_keep 17 = .ok (.getfield 29, 3) := by decide +kernel
theorem dX9_keep_20 : decode cX9_keep 20 = .ok (.bipush 100, 2) := by decide +kernel
theorem dX9_keep_22 : decode cX9_keep 22 = .ok (.iload 4, 2) := by decide +kernel
theorem dX9_keep_24 : decode cX9_keep 24 = .ok (.imul, 1) := by decide +kernel
theorem dX9_keep_25 : decode cX9_keep 25 = .ok (.iload 5, 2) := by decide +kernel
theorem dX9_keep_27 : decode cX9_keep 27 = .ok (.iadd, 1) := by decide +kernel
theorem dX9_keep_28 : decode cX9_keep 28 = .ok (.aload_n 0, 1) := by decide +kernel
theorem dX9_keep_29 : decode cX9_keep 29 = .ok (.getfield 16, 3) := by decide +kernel
theorem dX9_keep_32 : decode cX9_keep 32 = .ok (.iload 5, 2) := by decide +kernel
theorem dX9_keep_34 : decode cX9_keep 34 = .ok (.iaload, 1) := by decide +kernel
theorem dX9_keep_35 : decode cX9_keep 35 = .ok (.iastore, 1) := by decide +kernel
theorem dX9_keep_36 : decode cX9_keep 36 = .ok (.iinc 5 1, 3) := by decide +kernel
theorem dX9_keep_39 : decode cX9_keep 39 = .ok (.goto (-30), 3) := by decide +kernel
theorem dX9_keep_42 : decode cX9_keep 42 = .ok (.aload_n 0, 1) := by decide +kernel
theorem dX9_keep_43 : decode cX9_keep 43 = .ok (.getfield 32, 3) := by decide +kernel
theorem dX9_keep_46 : decode cX9_keep 46 = .ok (.iload 4, 2) := by decide +kernel
theorem dX9_keep_48 : decode cX9_keep 48 = .ok (.iload_n 1, 1) := by decide +kernel
theorem dX9_keep_49 : decode cX9_keep 49 = .ok (.iastore, 1) := by decide +kernel
theorem dX9_keep_50 : decode cX9_keep 50 = .ok (.aload_n 0, 1) := by decide +kernel
theorem dX9_keep_51 : decode cX9_keep 51 = .ok (.getfield 38, 3) := by decide +kernel
theorem dX9_keep_54 : decode cX9_keep 54 = .ok (.iload 4, 2) := by decide +kernel
theorem dX9_keep_56 : decode cX9_keep 56 = .ok (.aload_n 0, 1) := by decide +kernel
theorem dX9_keep_57 : decode cX9_keep 57 = .ok (.getfield 35, 3) := by decide +kernel
theorem dX9_keep_60 : decode cX9_keep 60 = .ok (.iload_n 1, 1) := by decide +kernel
theorem dX9_keep_61 : decode cX9_keep 61 = .ok (.sipush 2047, 3) := by decide +kernel
theorem dX9_keep_64 : decode cX9_keep 64 = .ok (.iand, 1) := by decide +kernel
theorem dX9_keep_65 : decode cX9_keep 65 = .ok (.iaload, 1) := by decide +kernel
theorem dX9_keep_66 : decode cX9_keep 66 = .ok (.iastore, 1) := by decide +kernel
theorem dX9_keep_67 : decode cX9_keep 67 = .ok (.aload_n 0, 1) := by decide +kernel
theorem dX9_keep_68 : decode cX9_keep 68 = .ok (.getfield 35, 3) := by decide +kernel
theorem dX9_keep_71 : decode cX9_keep 71 = .ok (.iload_n 1, 1) := by decide +kernel
theorem dX9_keep_72 : decode cX9_keep 72 = .ok (.sipush 2047, 3) := by decide +kernel
theorem dX9_keep_75 : decode cX9_keep 75 = .ok (.iand, 1) := by decide +kernel
theorem dX9_keep_76 : decode cX9_keep 76 = .ok (.iload 4, 2) := by decide +kernel
theorem dX9_keep_78 : decode cX9_keep 78 = .ok (.iconst 1, 1) := by decide +kernel
theorem dX9_keep_79 : decode cX9_keep 79 = .ok (.iadd, 1) := by decide +kernel
theorem dX9_keep_80 : decode cX9_keep 80 = .ok (.iastore, 1) := by decide +kernel
theorem dX9_keep_81 : decode cX9_keep 81 = .ok (.aload_n 0, 1) := by decide +kernel
theorem dX9_keep_82 : decode cX9_keep 82 = .ok (.getfield 48, 3) := by decide +kernel
theorem dX9_keep_85 : decode cX9_keep 85 = .ok (.iload 4, 2) := by decide +kernel
theorem dX9_keep_87 : decode cX9_keep 87 = .ok (.iload_n 2, 1) := by decide +kernel
theorem dX9_keep_88 : decode cX9_keep 88 = .ok (.iastore, 1) := by decide +kernel
theorem dX9_keep_89 : decode cX9_keep 89 = .ok (.aload_n 0, 1) := by decide +kernel
theorem dX9_keep_90 : decode cX9_keep 90 = .ok (.getfield 51, 3) := by decide +kernel
theorem dX9_keep_93 : decode cX9_keep 93 = .ok (.iload 4, 2) := by decide +kernel
theorem dX9_keep_95 : decode cX9_keep 95 = .ok (.iload_n 3, 1) := by decide +kernel
theorem dX9_keep_96 : decode cX9_keep 96 = .ok (.iastore, 1) := by decide +kernel
theorem dX9_keep_97 : decode cX9_keep 97 = .ok (.aload_n 0, 1) := by decide +kernel
theorem dX9_keep_98 : decode cX9_keep 98 = .ok (.invokevirtual 319, 3) := by decide +kernel
theorem dX9_keep_101 : decode cX9_keep 101 = .ok (.istore 5, 2) := by decide +kernel
theorem dX9_keep_103 : decode cX9_keep 103 = .ok (.aload_n 0, 1) := by decide +kernel
theorem dX9_keep_104 : decode cX9_keep 104 = .ok (.getfield 54, 3) := by decide +kernel
theorem dX9_keep_107 : decode cX9_keep 107 = .ok (.iload 4, 2) := by decide +kernel
theorem dX9_keep_109 : decode cX9_keep 109 = .ok (.iload 5, 2) := by decide +kernel
theorem dX9_keep_111 : decode cX9_keep 111 = .ok (.ifCond .eq 7, 3) := by decide +kernel
theorem dX9_keep_114 : decode cX9_keep 114 = .ok (.iconst 1, 1) := by decide +kernel
theorem dX9_keep_115 : decode cX9_keep 115 = .ok (.goto 4, 3) := by decide +kernel
theorem dX9_keep_118 : decode cX9_keep 118 = .ok (.iconst 0, 1) := by decide +kernel
theorem dX9_keep_119 : decode cX9_keep 119 = .ok (.iload 5, 2) := by decide +kernel
theorem dX9_keep_121 : decode cX9_keep 121 = .ok (.ifCond .eq 14, 3) := by decide +kernel
theorem dX9_keep_124 : decode cX9_keep 124 = .ok (.aload_n 0, 1) := by decide +kernel
theorem dX9_keep_125 : decode cX9_keep 125 = .ok (.invokevirtual 322, 3) := by decide +kernel
theorem dX9_keep_128 : decode cX9_keep 128 = .ok (.ifCond .eq 7, 3) := by decide +kernel
theorem dX9_keep_131 : decode cX9_keep 131 = .ok (.iconst 2, 1) := by decide +kernel
theorem dX9_keep_132 : decode cX9_keep 132 = .ok (.goto 4, 3) := by decide +kernel
theorem dX9_keep_135 : decode cX9_keep 135 = .ok (.iconst 0, 1) := by decide +kernel
theorem dX9_keep_136 : decode cX9_keep 136 = .ok (.ior, 1) := by decide +kernel
theorem dX9_keep_137 : decode cX9_keep 137 = .ok (.iload 5, 2) := by decide +kernel
theorem dX9_keep_139 : decode cX9_keep 139 = .ok (.ifCond .eq 25, 3) := by decide +kernel
theorem dX9_keep_142 : decode cX9_keep 142 = .ok (.aload_n 0, 1) := by decide +kernel
theorem dX9_keep_143 : decode cX9_keep 143 = .ok (.getfield 13, 3) := by decide +kernel
theorem dX9_keep_146 : decode cX9_keep 146 = .ok (.sipush 950, 3) := by decide +kernel
theorem dX9_keep_149 : decode cX9_keep 149 = .ok (.iaload, 1) := by decide +kernel
theorem dX9_keep_150 : decode cX9_keep 150 = .ok (.ifCond .le 14, 3) := by decide +kernel
theorem dX9_keep_153 : decode cX9_keep 153 = .ok (.aload_n 0, 1) := by decide +kernel
theorem dX9_keep_154 : decode cX9_keep 154 = .ok (.invokevirtual 325, 3) := by decide +kernel
theorem dX9_keep_157 : decode cX9_keep 157 = .ok (.ifCond .eq 7, 3) := by decide +kernel
theorem dX9_keep_160 : decode cX9_keep 160 = .ok (.iconst 4, 1) := by decide +kernel
theorem dX9_keep_161 : decode cX9_keep 161 = .ok (.goto 4, 3) := by decide +kernel
theorem dX9_keep_164 : decode cX9_keep 164 = .ok (.iconst 0, 1) := by decide +kernel
theorem dX9_keep_165 : decode cX9_keep 165 = .ok (.ior, 1) := by decide +kernel
theorem dX9_keep_166 : decode cX9_keep 166 = .ok (.aload_n 0, 1) := by decide +kernel
theorem dX9_keep_167 : decode cX9_keep 167 = .ok (.invokevirtual 268, 3) := by decide +kernel
theorem dX9_keep_170 : decode cX9_keep 170 = .ok (.ifCond .eq 8, 3) := by decide +kernel
theorem dX9_keep_173 : decode cX9_keep 173 = .ok (.bipush 8, 2) := by decide +kernel
theorem dX9_keep_175 : decode cX9_keep 175 = .ok (.goto 4, 3) := by decide +kernel
theorem dX9_keep_178 : decode cX9_keep 178 = .ok (.iconst 0, 1) := by decide +kernel
theorem dX9_keep_179 : decode cX9_keep 179 = .ok (.ior, 1) := by decide +kernel
theorem dX9_keep_180 : decode cX9_keep 180 = .ok (.iastore, 1) := by decide +kernel
theorem dX9_keep_181 : decode cX9_keep 181 = .ok (.iconst 0, 1) := by decide +kernel
theorem dX9_keep_182 : decode cX9_keep 182 = .ok (.istore 6, 2) := by decide +kernel
theorem dX9_keep_184 : decode cX9_keep 184 = .ok (.iconst 0, 1) := by decide +kernel
theorem dX9_keep_185 : decode cX9_keep 185 = .ok (.istore 7, 2) := by decide +kernel
theorem dX9_keep_187 : decode cX9_keep 187 = .ok (.iload 7, 2) := by decide +kernel
theorem dX9_keep_189 : decode cX9_keep 189 = .ok (.bipush 6, 2) := by decide +kernel
theorem dX9_keep_191 : decode cX9_keep 191 = .ok (.if_icmp .ge 33, 3) := by decide +kernel
theorem dX9_keep_194 : decode cX9_keep 194 = .ok (.iload 6, 2) := by decide +kernel
theorem dX9_keep_196 : decode cX9_keep 196 = .ok (.aload_n 0, 1) := by decide +kernel
theorem dX9_keep_197 : decode cX9_keep 197 = .ok (.getfield 16, 3) := by decide +kernel
theorem dX9_keep_200 : decode cX9_keep 200 = .ok (.bipush 20, 2) := by decide +kernel
theorem dX9_keep_202 : decode cX9_keep 202 = .ok (.iload 7, 2) := by decide +kernel
theorem dX9_keep_204 : decode cX9_keep 204 = .ok (.iadd, 1) := by decide +kernel
theorem dX9_keep_205 : decode cX9_keep 205 = .ok (.iaload, 1) := by decide +kernel
theorem dX9_keep_206 : decode cX9_keep 206 = .ok (.iconst 1, 1) := by decide +kernel
theorem dX9_keep_207 : decode cX9_keep 207 = .ok (.if_icmp .le 7, 3) := by decide +kernel
theorem dX9_keep_210 : decode cX9_keep 210 = .ok (.iconst 1, 1) := by decide +kernel
theorem dX9_keep_211 : decode cX9_keep 211 = .ok (.goto 4, 3) := by decide +kernel
theorem dX9_keep_214 : decode cX9_keep 214 = .ok (.iconst 0, 1) := by decide +kernel
theorem dX9_keep_215 : decode cX9_keep 215 = .ok (.iadd, 1) := by decide +kernel
theorem dX9_keep_216 : decode cX9_keep 216 = .ok (.istore 6, 2) := by decide +kernel
theorem dX9_keep_218 : decode cX9_keep 218 = .ok (.iinc 7 1, 3) := by decide +kernel
theorem dX9_keep_221 : decode cX9_keep 221 = .ok (.goto (-34), 3) := by decide +kernel
theorem dX9_keep_224 : decode cX9_keep 224 = .ok (.aload_n 0, 1) := by decide +kernel
theorem dX9_keep_225 : decode cX9_keep 225 = .ok (.getfield 57, 3) := by decide +kernel
theorem dX9_keep_228 : decode cX9_keep 228 = .ok (.iload 4, 2) := by decide +kernel
theorem dX9_keep_230 : decode cX9_keep 230 = .ok (.iload 6, 2) := by decide +kernel
theorem dX9_keep_232 : decode cX9_keep 232 = .ok (.iastore, 1) := by decide +kernel
theorem dX9_keep_233 : decode cX9_keep 233 = .ok (.aload_n 0, 1) := by decide +kernel
theorem dX9_keep_234 : decode cX9_keep 234 = .ok (.dup, 1) := by decide +kernel
theorem dX9_keep_235 : decode cX9_keep 235 = .ok (.getfield 328, 3) := by decide +kernel
theorem dX9_keep_238 : decode cX9_keep 238 = .ok (.iconst 1, 1) := by decide +kernel
theorem dX9_keep_239 : decode cX9_keep 239 = .ok (.iadd, 1) := by decide +kernel
theorem dX9_keep_240 : decode cX9_keep 240 = .ok (.putfield 328, 3) := by decide +kernel
theorem dX9_keep_243 : decode cX9_keep 243 = .ok (.return_, 1) := by decide +kernel
theorem dX9_keepProgram_0 : decode cX9_keepProgram 0 = .ok (.iconst 0, 1) := by decide +kernel
theorem dX9_keepProgram_1 : decode cX9_keepProgram 1 = .ok (.istore_n 2, 1) := by decide +kernel
theorem dX9_keepProgram_2 : decode cX9_keepProgram 2 = .ok (.iload_n 2, 1) := by decide +kernel
theorem dX9_keepProgram_3 : decode cX9_keepProgram 3 = .ok (.sipush 960, 3) := by decide +kernel
theorem dX9_keepProgram_6 : decode cX9_keepProgram 6 = .ok (.if_icmp .ge 27, 3) := by decide +kernel
theorem dX9_keepProgram_9 : decode cX9_keepProgram 9 = .ok (.aload_n 0, 1) := by decide +kernel
theorem dX9_keepProgram_10 : decode cX9_keepProgram 10 = .ok (.getfield 7, 3) := by decide +kernel
theorem dX9_keepProgram_13 : decode cX9_keepProgram 13 = .ok (.sipush 960, 3) := by decide +kernel
theorem dX9_keepProgram_16 : decode cX9_keepProgram 16 = .ok (.iload_n 1, 1) := by decide +kernel
theorem dX9_keepProgram_17 : decode cX9_keepProgram 17 = .ok (.imul, 1) := by decide +kernel
theorem dX9_keepProgram_18 : decode cX9_keepProgram 18 = .ok (.iload_n 2, 1) := by decide +kernel
theorem dX9_keepProgram_19 : decode cX9_keepProgram 19 = .ok (.iadd, 1) := by decide +kernel
theorem dX9_keepProgram_20 : decode cX9_keepProgram 20 = .ok (.aload_n 0, 1) := by decide +kernel
theorem dX9_keepProgram_21 : decode cX9_keepProgram 21 = .ok (.getfield 7, 3) := by decide +kernel
theorem dX9_keepProgram_24 : decode cX9_keepProgram 24 = .ok (.iload_n 2, 1) := by decide +kernel
theorem dX9_keepProgram_25 : decode cX9_keepProgram 25 = .ok (.iaload, 1) := by decide +kernel
theorem dX9_keepProgram_26 : decode cX9_keepProgram 26 = .ok (.iastore, 1) := by decide +kernel
theorem dX9_keepProgram_27 : decode cX9_keepProgram 27 = .ok (.iinc 2 1, 3) := by decide +kernel
theorem dX9_keepProgram_30 : decode cX9_keepProgram 30 = .ok (.goto (-28), 3) := by decide +kernel
theorem dX9_keepProgram_33 : decode cX9_keepProgram 33 = .ok (.return_, 1) := by decide +kernel
theorem dX9_keepRun_0 : decode cX9_keepRun 0 = .ok (.iconst 0, 1) := by decide +kernel
theorem dX9_keepRun_1 : decode cX9_keepRun 1 = .ok (.istore_n 1, 1) := by decide +kernel
theorem dX9_keepRun_2 : decode cX9_keepRun 2 = .ok (.iload_n 1, 1) := by decide +kernel
theorem dX9_keepRun_3 : decode cX9_keepRun 3 = .ok (.bipush 100, 2) := by decide +kernel
theorem dX9_keepRun_5 : decode cX9_keepRun 5 = .ok (.if_icmp .ge 21, 3) := by decide +kernel
theorem dX9_keepRun_8 : decode cX9_keepRun 8 = .ok (.aload_n 0, 1) := by decide +kernel
theorem dX9_keepRun_9 : decode cX9_keepRun 9 = .ok (.getfield 25, 3) := by decide +kernel
theorem dX9_keepRun_12 : decode cX9_keepRun 12 = .ok (.iload_n 1, 1) := by decide +kernel
theorem dX9_keepRun_13 : decode cX9_keepRun 13 = .ok (.aload_n 0, 1) := by decide +kernel
theorem dX9_keepRun_14 : decode cX9_keepRun 14 = .ok (.getfield 16, 3) := by decide +kernel
theorem dX9_keepRun_17 : decode cX9_keepRun 17 = .ok (.iload_n 1, 1) := by decide +kernel
theorem dX9_keepRun_18 : decode cX9_keepRun 18 = .ok (.iaload, 1) := by decide +kernel
theorem dX9_keepRun_19 : decode cX9_keepRun 19 = .ok (.iastore, 1) := by decide +kernel
theorem dX9_keepRun_20 : decode cX9_keepRun 20 = .ok (.iinc 1 1, 3) := by decide +kernel
theorem dX9_keepRun_23 : decode cX9_keepRun 23 = .ok (.goto (-21), 3) := by decide +kernel
theorem dX9_keepRun_26 : decode cX9_keepRun 26 = .ok (.return_, 1) := by decide +kernel
theorem dX9_keeps_0 : decode cX9_keeps 0 = .ok (.aload_n 0, 1) := by decide +kernel
theorem dX9_keeps_1 : decode cX9_keeps 1 = .ok (.getfield 291, 3) := by decide +kernel
theorem dX9_keeps_4 : decode cX9_keeps 4 = .ok (.ifCond .ne 6, 3) := by decide +kernel
theorem dX9_keeps_7 : decode cX9_keeps 7 = .ok (.bipush (-2), 2) := by decide +kernel
theorem dX9_keeps_9 : decode cX9_keeps 9 = .ok (.ireturn, 1) := by decide +kernel
theorem dX9_keeps_10 : decode cX9_keeps 10 = .ok (.aload_n 0, 1) := by decide +kernel
theorem dX9_keeps_11 : decode cX9_keeps 11 = .ok (.invokevirtual 306, 3) := by decide +kernel
theorem dX9_keeps_14 : decode cX9_keeps 14 = .ok (.aload_n 0, 1) := by decide +kernel
theorem dX9_keeps_15 : decode cX9_keeps 15 = .ok (.invokevirtual 319, 3) := by decide +kernel
theorem dX9_keeps_18 : decode cX9_keeps 18 = .ok (.ifCond .eq 14, 3) := by decide +kernel
theorem dX9_keeps_21 : decode cX9_keeps 21 = .ok (.aload_n 0, 1) := by decide +kernel
theorem dX9_keeps_22 : decode cX9_keeps 22 = .ok (.getfield 13, 3) := by decide +kernel
theorem dX9_keeps_25 : decode cX9_keeps 25 = .ok (.sipush 950, 3) := by decide +kernel
theorem dX9_keeps_28 : decode cX9_keeps 28 = .ok (.iaload, 1) := by decide +kernel
theorem dX9_keeps_29 : decode cX9_keeps 29 = .ok (.ifCond .ne 8, 3) := by decide +kernel
theorem dX9_keeps_32 : decode cX9_keeps 32 = .ok (.bipush (-2), 2) := by decide +kernel
theorem dX9_keeps_34 : decode cX9_keeps 34 = .ok (.goto 15, 3) := by decide +kernel
theorem dX9_keeps_37 : decode cX9_keeps 37 = .ok (.aload_n 0, 1) := by decide +kernel
theorem dX9_keeps_38 : decode cX9_keeps 38 = .ok (.invokevirtual 325, 3) := by decide +kernel
theorem dX9_keeps_41 : decode cX9_keeps 41 = .ok (.ifCond .eq 7, 3) := by decide +kernel
theorem dX9_keeps_44 : decode cX9_keeps 44 = .ok (.iconst 1, 1) := by decide +kernel
theorem dX9_keeps_45 : decode cX9_keeps 45 = .ok (.goto 4, 3) := by decide +kernel
theorem dX9_keeps_48 : decode cX9_keeps 48 = .ok (.iconst 0, 1) := by decide +kernel
theorem dX9_keeps_49 : decode cX9_keeps 49 = .ok (.ireturn, 1) := by decide +kernel
theorem dX9_keepsNow_0 : decode cX9_keepsNow 0 = .ok (.iconst 0, 1) := by decide +kernel
theorem dX9_keepsNow_1 : decode cX9_keepsNow 1 = .ok (.istore_n 1, 1) := by decide +kernel
theorem dX9_keepsNow_2 : decode cX9_keepsNow 2 = .ok (.aload_n 0, 1) := by decide +kernel
theorem dX9_keepsNow_3 : decode cX9_keepsNow 3 = .ok (.getfield 16, 3) := by decide +kernel
theorem dX9_keepsNow_6 : decode cX9_keepsNow 6 = .ok (.bipush 99, 2) := by decide +kernel
theorem dX9_keepsNow_8 : decode cX9_keepsNow 8 = .ok (.iaload, 1) := by decide +kernel
theorem dX9_keepsNow_9 : decode cX9_keepsNow 9 = .ok (.istore_n 2, 1) := by decide +kernel
theorem dX9_keepsNow_10 : decode cX9_keepsNow 10 = .ok (.iload_n 2, 1) := by decide +kernel
theorem dX9_keepsNow_11 : decode cX9_keepsNow 11 = .ok (.ifCond .eq 25, 3) := by decide +kernel
theorem dX9_keepsNow_14 : decode cX9_keepsNow 14 = .ok (.aload_n 0, 1) := by decide +kernel
theorem dX9_keepsNow_15 : decode cX9_keepsNow 15 = .ok (.getfield 22, 3) := by decide +kernel
theorem dX9_keepsNow_18 : decode cX9_keepsNow 18 = .ok (.iload_n 1, 1) := by decide +kernel
theorem dX9_keepsNow_19 : decode cX9_keepsNow 19 = .ok (.iload_n 2, 1) := by decide +kernel
theorem dX9_keepsNow_20 : decode cX9_keepsNow 20 = .ok (.bipush 15, 2) := by decide +kernel
theorem dX9_keepsNow_22 : decode cX9_keepsNow 22 = .ok (.iand, 1) := by decide +kernel
theorem dX9_keepsNow_23 : decode cX9_keepsNow 23 = .ok (.iconst 1, 1) := by decide +kernel
theorem dX9_keepsNow_24 : decode cX9_keepsNow 24 = .ok (.isub, 1) := by decide +kernel
theorem dX9_keepsNow_25 : decode cX9_keepsNow 25 = .ok (.iastore, 1) := by decide +kernel
theorem dX9_keepsNow_26 : decode cX9_keepsNow 26 = .ok (.iinc 1 1, 3) := by decide +kernel
theorem dX9_keepsNow_29 : decode cX9_keepsNow 29 = .ok (.iload_n 2, 1) := by decide +kernel
theorem dX9_keepsNow_30 : decode cX9_keepsNow 30 = .ok (.iconst 4, 1) := by decide +kernel
theorem dX9_keepsNow_31 : decode cX9_keepsNow 31 = .ok (.ishr, 1) := by decide +kernel
theorem dX9_keepsNow_32 : decode cX9_keepsNow 32 = .ok (.istore_n 2, 1) := by decide +kernel
theorem dX9_keepsNow_33 : decode cX9_keepsNow 33 = .ok (.goto (-23), 3) := by decide +kernel
theorem dX9_keepsNow_36 : decode cX9_keepsNow 36 = .ok (.iload_n 1, 1) := by decide +kernel
theorem dX9_keepsNow_37 : decode cX9_keepsNow 37 = .ok (.aload_n 0, 1) := by decide +kernel
theorem dX9_keepsNow_38 : decode cX9_keepsNow 38 = .ok (.invokevirtual 271, 3) := by decide +kernel
theorem dX9_keepsNow_41 : decode cX9_keepsNow 41 = .ok (.if_icmp .ne 7, 3) := by decide +kernel
theorem dX9_keepsNow_44 : decode cX9_keepsNow 44 = .ok (.iconst 1, 1) := by decide +kernel
theorem dX9_keepsNow_45 : decode cX9_keepsNow 45 = .ok (.goto 4, 3) := by decide +kernel
theorem dX9_keepsNow_48 : decode cX9_keepsNow 48 = .ok (.iconst 0, 1) := by decide +kernel
theorem dX9_keepsNow_49 : decode cX9_keepsNow 49 = .ok (.istore_n 2, 1) := by decide +kernel
theorem dX9_keepsNow_50 : decode cX9_keepsNow 50 = .ok (.iconst 0, 1) := by decide +kernel
theorem dX9_keepsNow_51 : decode cX9_keepsNow 51 = .ok (.istore_n 3, 1) := by decide +kernel
theorem dX9_keepsNow_52 : decode cX9_keepsNow 52 = .ok (.iload_n 3, 1) := by decide +kernel
theorem dX9_keepsNow_53 : decode cX9_keepsNow 53 = .ok (.bipush 9, 2) := by decide +kernel
theorem dX9_keepsNow_55 : decode cX9_keepsNow 55 = .ok (.if_icmp .ge 43, 3) := by decide +kernel
theorem dX9_keepsNow_58 : decode cX9_keepsNow 58 = .ok (.iload_n 2, 1) := by decide +kernel
theorem dX9_keepsNow_59 : decode cX9_keepsNow 59 = .ok (.ifCond .eq 31, 3) := by decide +kernel
theorem dX9_keepsNow_62 : decode cX9_keepsNow 62 = .ok (.aload_n 0, 1) := by decide +kernel
theorem dX9_keepsNow_63 : decode cX9_keepsNow 63 = .ok (.iload_n 3, 1) := by decide +kernel
theorem dX9_keepsNow_64 : decode cX9_keepsNow 64 = .ok (.invokevirtual 279, 3) := by decide +kernel
theorem dX9_keepsNow_67 : decode cX9_keepsNow 67 = .ok (.ifCond .eq 19, 3) := by decide +kernel
theorem dX9_keepsNow_70 : decode cX9_keepsNow 70 = .ok (.aload_n 0, 1) := by decide +kernel
theorem dX9_keepsNow_71 : decode cX9_keepsNow 71 = .ok (.getfield 16, 3) := by decide +kernel
theorem dX9_keepsNow_74 : decode cX9_keepsNow 74 = .ok (.bipush 81, 2) := by decide +kernel
theorem dX9_keepsNow_76 : decode cX9_keepsNow 76 = .ok (.iconst 2, 1) := by decide +kernel
theorem dX9_keepsNow_77 : decode cX9_keepsNow 77 = .ok (.iload_n 3, 1) := by decide +kernel
theorem dX9_keepsNow_78 : decode cX9_keepsNow 78 = .ok (.imul, 1) := by decide +kernel
theorem dX9_keepsNow_79 : decode cX9_keepsNow 79 = .ok (.iadd, 1) := by decide +kernel
theorem dX9_keepsNow_80 : decode cX9_keepsNow 80 = .ok (.iconst 1, 1) := by decide +kernel
theorem dX9_keepsNow_81 : decode cX9_keepsNow 81 = .ok (.iadd, 1) := by decide +kernel
theorem dX9_keepsNow_82 : decode cX9_keepsNow 82 = .ok (.iaload, 1) := by decide +kernel
theorem dX9_keepsNow_83 : decode cX9_keepsNow 83 = .ok (.ifCond .le 7, 3) := by decide +kernel
theorem dX9_keepsNow_86 : decode cX9_keepsNow 86 = .ok (.iconst 1, 1) := by decide +kernel
theorem dX9_keepsNow_87 : decode cX9_keepsNow 87 = .ok (.goto 4, 3) := by decide +kernel
theorem dX9_keepsNow_90 : decode cX9_keepsNow 90 = .ok (.iconst 0, 1) := by decide +kernel
theorem dX9_keepsNow_91 : decode cX9_keepsNow 91 = .ok (.istore_n 2, 1) := by decide +kernel
theorem dX9_keepsNow_92 : decode cX9_keepsNow 92 = .ok (.iinc 3 1, 3) := by decide +kernel
theorem dX9_keepsNow_95 : decode cX9_keepsNow 95 = .ok (.goto (-43), 3) := by decide +kernel
theorem dX9_keepsNow_98 : decode cX9_keepsNow 98 = .ok (.iload_n 2, 1) := by decide +kernel
theorem dX9_keepsNow_99 : decode cX9_keepsNow 99 = .ok (.ifCond .eq 15, 3) := by decide +kernel
theorem dX9_keepsNow_102 : decode cX9_keepsNow 102 = .ok (.aload_n 0, 1) := by decide +kernel
theorem dX9_keepsNow_103 : decode cX9_keepsNow 103 = .ok (.iload_n 1, 1) := by decide +kernel
theorem dX9_keepsNow_104 : decode cX9_keepsNow 104 = .ok (.invokevirtual 282, 3) := by decide +kernel
theorem dX9_keepsNow_107 : decode cX9_keepsNow 107 = .ok (.ifCond .eq 7, 3) := by decide +kernel
theorem dX9_keepsNow_110 : decode cX9_keepsNow 110 = .ok (.iconst 1, 1) := by decide +kernel
theorem dX9_keepsNow_111 : decode cX9_keepsNow 111 = .ok (.goto 4, 3) := by decide +kernel
theorem dX9_keepsNow_114 : decode cX9_keepsNow 114 = .ok (.iconst 0, 1) := by decide +kernel
theorem dX9_keepsNow_115 : decode cX9_keepsNow 115 = .ok (.ireturn, 1) := by decide +kernel
theorem dX9_late_0 : decode cX9_late 0 = .ok (.aload_n 0, 1) := by decide +kernel
theorem dX9_late_1 : decode cX9_late 1 = .ok (.getfield 7, 3) := by decide +kernel
theorem dX9_late_4 : decode cX9_late 4 = .ok (.sipush 949, 3) := by decide +kernel
theorem dX9_late_7 : decode cX9_late 7 = .ok (.iaload, 1) := by decide +kernel
theorem dX9_late_8 : decode cX9_late 8 = .ok (.istore_n 2, 1) := by decide +kernel
theorem dX9_late_9 : decode cX9_late 9 = .ok (.aload_n 0, 1) := by decide +kernel
theorem dX9_late_10 : decode cX9_late 10 = .ok (.getfield 7, 3) := by decide +kernel
theorem dX9_late_13 : decode cX9_late 13 = .ok (.sipush 949, 3) := by decide +kernel
theorem dX9_late_16 : decode cX9_late 16 = .ok (.iload_n 1, 1) := by decide +kernel
theorem dX9_late_17 : decode cX9_late 17 = .ok (.ifCond .eq 7, 3) := by decide +kernel
theorem dX9_late_20 : decode cX9_late 20 = .ok (.iconst 1, 1) := by decide +kernel
theorem dX9_late_21 : decode cX9_late 21 = .ok (.goto 4, 3) := by decide +kernel
theorem dX9_late_24 : decode cX9_late 24 = .ok (.iconst 0, 1) := by decide +kernel
theorem dX9_late_25 : decode cX9_late 25 = .ok (.iastore, 1) := by decide +kernel
theorem dX9_late_26 : decode cX9_late 26 = .ok (.iload_n 2, 1) := by decide +kernel
theorem dX9_late_27 : decode cX9_late 27 = .ok (.ireturn, 1) := by decide +kernel
theorem dX9_lengthOf_0 : decode cX9_lengthOf 0 = .ok (.iconst 0, 1) := by decide +kernel
theorem dX9_lengthOf_1 : decode cX9_lengthOf 1 = .ok (.istore_n 2, 1) := by decide +kernel
theorem dX9_lengthOf_2 : decode cX9_lengthOf 2 = .ok (.iload_n 1, 1) := by decide +kernel
theorem dX9_lengthOf_3 : decode cX9_lengthOf 3 = .ok (.istore_n 3, 1) := by decide +kernel
theorem dX9_lengthOf_4 : decode cX9_lengthOf 4 = .ok (.iload_n 3, 1) := by decide +kernel
theorem dX9_lengthOf_5 : decode cX9_lengthOf 5 = .ok (.ifCond .le 16, 3) := by decide +kernel
theorem dX9_lengthOf_8 : decode cX9_lengthOf 8 = .ok (.iinc 2 1, 3) := by decide +kernel
theorem dX9_lengthOf_11 : decode cX9_lengthOf 11 = .ok (.aload_n 0, 1) := by decide +kernel
theorem dX9_lengthOf_12 : decode cX9_lengthOf 12 = .ok (.getfield 48, 3) := by decide +kernel
theorem dX9_lengthOf_15 : decode cX9_lengthOf 15 = .ok (.iload_n 3, 1) := by decide +kernel
theorem dX9_lengthOf_16 : decode cX9_lengthOf 16 = .ok (.iaload, 1) := by decide +kernel
theorem dX9_lengthOf_17 : decode cX9_lengthOf 17 = .ok (.istore_n 3, 1) := by decide +kernel
theorem dX9_lengthOf_18 : decode cX9_lengthOf 18 = .ok (.goto (-14), 3) := by decide +kernel
theorem dX9_lengthOf_21 : decode cX9_lengthOf 21 = .ok (.iload_n 2, 1) := by decide +kernel
theorem dX9_lengthOf_22 : decode cX9_lengthOf 22 = .ok (.ireturn, 1) := by decide +kernel
theorem dX9_load_0 : decode cX9_load 0 = .ok (.iconst 0, 1) := by decide +kernel
theorem dX9_load_1 : decode cX9_load 1 = .ok (.istore_n 2, 1) := by decide +kernel
theorem dX9_load_2 : decode cX9_load 2 = .ok (.iload_n 2, 1) := by decide +kernel
theorem dX9_load_3 : decode cX9_load 3 = .ok (.bipush 100, 2) := by decide +kernel
theorem dX9_load_5 : decode cX9_load 5 = .ok (.if_icmp .ge 26, 3) := by decide +kernel
theorem dX9_load_8 : decode cX9_load 8 = .ok (.aload_n 0, 1) := by decide +kernel
theorem dX9_load_9 : decode cX9_load 9 = .ok (.getfield 16, 3) := by decide +kernel
theorem dX9_load_12 : decode cX9_load 12 = .ok (.iload_n 2, 1) := by decide +kernel
theorem dX9_load_13 : decode cX9_load 13 = .ok (.aload_n 0, 1) := by decide +kernel
theorem dX9_load_14 : decode cX9_load 14 = .ok (.getfield 29, 3) := by decide +kernel
theorem dX9_load_17 : decode cX9_load 17 = .ok (.bipush 100, 2) := by decide +kernel
theorem dX9_load_19 : decode cX9_load 19 = .ok (.iload_n 1, 1) := by decide +kernel
theorem dX9_load_20 : decode cX9_load 20 = .ok (.imul, 1) := by decide +kernel
theorem dX9_load_21 : decode cX9_load 21 = .ok (.iload_n 2, 1) := by decide +kernel
theorem dX9_load_22 : decode cX9_load 22 = .ok (.iadd, 1) := by decide +kernel
theorem dX9_load_23 : decode cX9_load 23 = .ok (.iaload, 1) := by decide +kernel
theorem dX9_load_24 : decode cX9_load 24 = .ok (.iastore, 1) := by decide +kernel
theorem dX9_load_25 : decode cX9_load 25 = .ok (.iinc 2 1, 3) := by decide +kernel
theorem dX9_load_28 : decode cX9_load 28 = .ok (.goto (-26), 3) := by decide +kernel
theorem dX9_load_31 : decode cX9_load 31 = .ok (.return_, 1) := by decide +kernel
theorem dX9_local_0 : decode cX9_local 0 = .ok (.iload_n 1, 1) := by decide +kernel
theorem dX9_local_1 : decode cX9_local 1 = .ok (.i2l, 1) := by decide +kernel
theorem dX9_local_2 : decode cX9_local 2 = .ok (.lconst 0, 1) := by decide +kernel
theorem dX9_local_3 : decode cX9_local 3 = .ok (.ldc2_w 108, 3) := by decide +kernel
theorem dX9_local_6 : decode cX9_local 6 = .ok (.invokestatic 68, 3) := by decide +kernel
theorem dX9_local_9 : decode cX9_local 9 = .ok (.ifCond .eq 27, 3) := by decide +kernel
theorem dX9_local_12 : decode cX9_local 12 = .ok (.iload_n 2, 1) := by decide +kernel
theorem dX9_local_13 : decode cX9_local 13 = .ok (.i2l, 1) := by decide +kernel
theorem dX9_local_14 : decode cX9_local 14 = .ok (.lconst 0, 1) := by decide +kernel
theorem dX9_local_15 : decode cX9_local 15 = .ok (.ldc2_w 76, 3) := by decide +kernel
theorem dX9_local_18 : decode cX9_local 18 = .ok (.invokestatic 68, 3) := by decide +kernel
theorem dX9_local_21 : decode cX9_local 21 = .ok (.ifCond .eq 15, 3) := by decide +kernel
theorem dX9_local_24 : decode cX9_local 24 = .ok (.iload_n 3, 1) := by decide +kernel
theorem dX9_local_25 : decode cX9_local 25 = .ok (.i2l, 1) := by decide +kernel
theorem dX9_local_26 : decode cX9_local 26 = .ok (.lconst 0, 1) := by decide +kernel
theorem dX9_local_27 : decode cX9_local 27 = .ok (.ldc2_w 114, 3) := by decide +kernel
theorem dX9_local_30 : decode cX9_local 30 = .ok (.invokestatic 68, 3) := by decide +kernel
theorem dX9_local_33 : decode cX9_local 33 = .ok (.ifCond .ne 7, 3) := by decide +kernel
theorem dX9_local_36 : decode cX9_local 36 = .ok (.sipush (-1000), 3) := by decide +kernel
theorem dX9_local_39 : decode cX9_local 39 = .ok (.ireturn, 1) := by decide +kernel
theorem dX9_local_40 : decode cX9_local 40 = .ok (.aload_n 0, 1) := by decide +kernel
theorem dX9_local_41 : decode cX9_local 41 = .ok (.getfield 291, 3) := by decide +kernel
theorem dX9_local_44 : decode cX9_local 44 = .ok (.ifCond .eq 24, 3) := by decide +kernel
theorem dX9_local_47 : decode cX9_local 47 = .ok (.aload_n 0, 1) := by decide +kernel
theorem dX9_local_48 : decode cX9_local 48 = .ok (.getfield 25, 3) := by decide +kernel
theorem dX9_local_51 : decode cX9_local 51 = .ok (.iload_n 1, 1) := by decide +kernel
theorem dX9_local_52 : decode cX9_local 52 = .ok (.invokestatic 122, 3) := by decide +kernel
theorem dX9_local_55 : decode cX9_local 55 = .ok (.bipush 12, 2) := by decide +kernel
theorem dX9_local_57 : decode cX9_local 57 = .ok (.iadd, 1) := by decide +kernel
theorem dX9_local_58 : decode cX9_local 58 = .ok (.iload_n 2, 1) := by decide +kernel
theorem dX9_local_59 : decode cX9_local 59 = .ok (.iadd, 1) := by decide +kernel
theorem dX9_local_60 : decode cX9_local 60 = .ok (.iaload, 1) := by decide +kernel
theorem dX9_local_61 : decode cX9_local 61 = .ok (.iload_n 3, 1) := by decide +kernel
theorem dX9_local_62 : decode cX9_local 62 = .ok (.invokestatic 316, 3) := by decide +kernel
theorem dX9_local_65 : decode cX9_local 65 = .ok (.goto 6, 3) := by decide +kernel
theorem dX9_local_68 : decode cX9_local 68 = .ok (.sipush (-2000), 3) := by decide +kernel
theorem dX9_local_71 : decode cX9_local 71 = .ok (.ireturn, 1) := by decide +kernel
theorem dX9_localOf_0 : decode cX9_localOf 0 = .ok (.aload_n 0, 1) := by decide +kernel
theorem dX9_localOf_1 : decode cX9_localOf 1 = .ok (.getfield 16, 3) := by decide +kernel
theorem dX9_localOf_4 : decode cX9_localOf 4 = .ok (.iload_n 1, 1) := by decide +kernel
theorem dX9_localOf_5 : decode cX9_localOf 5 = .ok (.invokestatic 122, 3) := by decide +kernel
theorem dX9_localOf_8 : decode cX9_localOf 8 = .ok (.bipush 12, 2) := by decide +kernel
theorem dX9_localOf_10 : decode cX9_localOf 10 = .ok (.iadd, 1) := by decide +kernel
theorem dX9_localOf_11 : decode cX9_localOf 11 = .ok (.iload_n 2, 1) := by decide +kernel
theorem dX9_localOf_12 : decode cX9_localOf 12 = .ok (.iadd, 1) := by decide +kernel
theorem dX9_localOf_13 : decode cX9_localOf 13 = .ok (.iaload, 1) := by decide +kernel
theorem dX9_localOf_14 : decode cX9_localOf 14 = .ok (.ireturn, 1) := by decide +kernel
theorem dX9_looks_0 : decode cX9_looks 0 = .ok (.iconst 0, 1) := by decide +kernel
theorem dX9_looks_1 : decode cX9_looks 1 = .ok (.istore_n 1, 1) := by decide +kernel
theorem dX9_looks_2 : decode cX9_looks 2 = .ok (.iload_n 1, 1) := by decide +kernel
theorem dX9_looks_3 : decode cX9_looks 3 = .ok (.bipush 6, 2) := by decide +kernel
theorem dX9_looks_5 : decode cX9_looks 5 = .ok (.if_icmp .ge 52, 3) := by decide +kernel
theorem dX9_looks_8 : decode cX9_looks 8 = .ok (.aload_n 0, 1) := by decide +kernel
theorem dX9_looks_9 : decode cX9_looks 9 = .ok (.getfield 13, 3) := by decide +kernel
theorem dX9_looks_12 : decode cX9_looks 12 = .ok (.sipush 948, 3) := by decide +kernel
theorem dX9_looks_15 : decode cX9_looks 15 = .ok (.iaload, 1) := by decide +kernel
theorem dX9_looks_16 : decode cX9_looks 16 = .ok (.iconst 3, 1) := by decide +kernel
theorem dX9_looks_17 : decode cX9_looks 17 = .ok (.if_icmp .ne 40, 3) := by decide +kernel
theorem dX9_looks_20 : decode cX9_looks 20 = .ok (.aload_n 0, 1) := by decide +kernel
theorem dX9_looks_21 : decode cX9_looks 21 = .ok (.getfield 16, 3) := by decide +kernel
theorem dX9_looks_24 : decode cX9_looks 24 = .ok (.bipush 20, 2) := by decide +kernel
theorem dX9_looks_26 : decode cX9_looks 26 = .ok (.iload_n 1, 1) := by decide +kernel
theorem dX9_looks_27 : decode cX9_looks 27 = .ok (.iadd, 1) := by decide +kernel
theorem dX9_looks_28 : decode cX9_looks 28 = .ok (.iaload, 1) := by decide +kernel
theorem dX9_looks_29 : decode cX9_looks 29 = .ok (.iconst 1, 1) := by decide +kernel
theorem dX9_looks_30 : decode cX9_looks 30 = .ok (.if_icmp .le 21, 3) := by decide +kernel
theorem dX9_looks_33 : decode cX9_looks 33 = .ok (.aload_n 0, 1) := by decide +kernel
theorem dX9_looks_34 : decode cX9_looks 34 = .ok (.iload_n 1, 1) := by decide +kernel
theorem dX9_looks_35 : decode cX9_looks 35 = .ok (.invokevirtual 141, 3) := by decide +kernel
theorem dX9_looks_38 : decode cX9_looks 38 = .ok (.ifCond .ne 13, 3) := by decide +kernel
theorem dX9_looks_41 : decode cX9_looks 41 = .ok (.aload_n 0, 1) := by decide +kernel
theorem dX9_looks_42 : decode cX9_looks 42 = .ok (.getfield 16, 3) := by decide +kernel
theorem dX9_looks_45 : decode cX9_looks 45 = .ok (.bipush 20, 2) := by decide +kernel
theorem dX9_looks_47 : decode cX9_looks 47 = .ok (.iload_n 1, 1) := by decide +kernel
theorem dX9_looks_48 : decode cX9_looks 48 = .ok (.iadd, 1) := by decide +kernel
theorem dX9_looks_49 : decode cX9_looks 49 = .ok (.iconst 0, 1) := by decide +kernel
theorem dX9_looks_50 : decode cX9_looks 50 = .ok (.iastore, 1) := by decide +kernel
theorem dX9_looks_51 : decode cX9_looks 51 = .ok (.iinc 1 1, 3) := by decide +kernel
theorem dX9_looks_54 : decode cX9_looks 54 = .ok (.goto (-52), 3) := by decide +kernel
theorem dX9_looks_57 : decode cX9_looks 57 = .ok (.return_, 1) := by decide +kernel
theorem dX9_manner_0 : decode cX9_manner 0 = .ok (.iload_n 1, 1) := by decide +kernel
theorem dX9_manner_1 : decode cX9_manner 1 = .ok (.i2l, 1) := by decide +kernel
theorem dX9_manner_2 : decode cX9_manner 2 = .ok (.lconst 0, 1) := by decide +kernel
theorem dX9_manner_3 : decode cX9_manner 3 = .ok (.ldc2_w 116, 3) := by decide +kernel
theorem dX9_manner_6 : decode cX9_manner 6 = .ok (.invokestatic 68, 3) := by decide +kernel
theorem dX9_manner_9 : decode cX9_manner 9 = .ok (.ifCond .ne 5, 3) := by decide +kernel
theorem dX9_manner_12 : decode cX9_manner 12 = .ok (.iconst (-1), 1) := by decide +kernel
theorem dX9_manner_13 : decode cX9_manner 13 = .ok (.ireturn, 1) := by decide +kernel
theorem dX9_manner_14 : decode cX9_manner 14 = .ok (.aload_n 0, 1) := by decide +kernel
theorem dX9_manner_15 : decode cX9_manner 15 = .ok (.getfield 7, 3) := by decide +kernel
theorem dX9_manner_18 : decode cX9_manner 18 = .ok (.sipush 948, 3) := by decide +kernel
theorem dX9_manner_21 : decode cX9_manner 21 = .ok (.iaload, 1) := by decide +kernel
theorem dX9_manner_22 : decode cX9_manner 22 = .ok (.istore_n 2, 1) := by decide +kernel
theorem dX9_manner_23 : decode cX9_manner 23 = .ok (.aload_n 0, 1) := by decide +kernel
theorem dX9_manner_24 : decode cX9_manner 24 = .ok (.getfield 7, 3) := by decide +kernel
theorem dX9_manner_27 : decode cX9_manner 27 = .ok (.sipush 948, 3) := by decide +kernel
theorem dX9_manner_30 : decode cX9_manner 30 = .ok (.iload_n 1, 1) := by decide +kernel
theorem dX9_manner_31 : decode cX9_manner 31 = .ok (.iastore, 1) := by decide +kernel
theorem dX9_manner_32 : decode cX9_manner 32 = .ok (.iload_n 2, 1) := by decide +kernel
theorem dX9_manner_33 : decode cX9_manner 33 = .ok (.ireturn, 1) := by decide +kernel
theorem dX9_marked_0 : decode cX9_marked 0 = .ok (.iconst 0, 1) := by decide +kernel
theorem dX9_marked_1 : decode cX9_marked 1 = .ok (.istore_n 3, 1) := by decide +kernel
theorem dX9_marked_2 : decode cX9_marked 2 = .ok (.iconst 0, 1) := by decide +kernel
theorem dX9_marked_3 : decode cX9_marked 3 = .ok (.istore 4, 2) := by decide +kernel
theorem dX9_marked_5 : decode cX9_marked 5 = .ok (.iload 4, 2) := by decide +kernel
theorem dX9_marked_7 : decode cX9_marked 7 = .ok (.aload_n 0, 1) := by decide +kernel
theorem dX9_marked_8 : decode cX9_marked 8 = .ok (.getfield 328, 3) := by decide +kernel
theorem dX9_marked_11 : decode cX9_marked 11 = .ok (.if_icmp .ge 30, 3) := by decide +kernel
theorem dX9_marked_14 : decode cX9_marked 14 = .ok (.iload_n 3, 1) := by decide +kernel
theorem dX9_marked_15 : decode cX9_marked 15 = .ok (.aload_n 0, 1) := by decide +kernel
theorem dX9_marked_16 : decode cX9_marked 16 = .ok (.getfield 54, 3) := by decide +kernel
theorem dX9_marked_19 : decode cX9_marked 19 = .ok (.iload 4, 2) := by decide +kernel
theorem dX9_marked_21 : decode cX9_marked 21 = .ok (.iaload, 1) := by decide +kernel
theorem dX9_marked_22 : decode cX9_marked 22 = .ok (.iload_n 1, 1) := by decide +kernel
theorem dX9_marked_23 : decode cX9_marked 23 = .ok (.iand, 1) := by decide +kernel
theorem dX9_marked_24 : decode cX9_marked 24 = .ok (.iload_n 2, 1) := by decide +kernel
theorem dX9_marked_25 : decode cX9_marked 25 = .ok (.if_icmp .ne 7, 3) := by decide +kernel
theorem dX9_marked_28 : decode cX9_marked 28 = .ok (.iconst 1, 1) := by decide +kernel
theorem dX9_marked_29 : decode cX9_marked 29 = .ok (.goto 4, 3) := by decide +kernel
theorem dX9_marked_32 : decode cX9_marked 32 = .ok (.iconst 0, 1) := by decide +kernel
theorem dX9_marked_33 : decode cX9_marked 33 = .ok (.iadd, 1) := by decide +kernel
theorem dX9_marked_34 : decode cX9_marked 34 = .ok (.istore_n 3, 1) := by decide +kernel
theorem dX9_marked_35 : decode cX9_marked 35 = .ok (.iinc 4 1, 3) := by decide +kernel
theorem dX9_marked_38 : decode cX9_marked 38 = .ok (.goto (-33), 3) := by decide +kernel
theorem dX9_marked_41 : decode cX9_marked 41 = .ok (.iload_n 3, 1) := by decide +kernel
theorem dX9_marked_42 : decode cX9_marked 42 = .ok (.ireturn, 1) := by decide +kernel
theorem dX9_may_0 : decode cX9_may 0 = .ok (.iload_n 1, 1) := by decide +kernel
theorem dX9_may_1 : decode cX9_may 1 = .ok (.i2l, 1) := by decide +kernel
theorem dX9_may_2 : decode cX9_may 2 = .ok (.lconst 0, 1) := by decide +kernel
theorem dX9_may_3 : decode cX9_may 3 = .ok (.ldc2_w 76, 3) := by decide +kernel
theorem dX9_may_6 : decode cX9_may 6 = .ok (.invokestatic 68, 3) := by decide +kernel
theorem dX9_may_9 : decode cX9_may 9 = .ok (.ifCond .ne 5, 3) := by decide +kernel
theorem dX9_may_12 : decode cX9_may 12 = .ok (.iconst (-1), 1) := by decide +kernel
theorem dX9_may_13 : decode cX9_may 13 = .ok (.ireturn, 1) := by decide +kernel
theorem dX9_may_14 : decode cX9_may 14 = .ok (.aload_n 0, 1) := by decide +kernel
theorem dX9_may_15 : decode cX9_may 15 = .ok (.getfield 291, 3) := by decide +kernel
theorem dX9_may_18 : decode cX9_may 18 = .ok (.ifCond .ne 6, 3) := by decide +kernel
theorem dX9_may_21 : decode cX9_may 21 = .ok (.bipush (-2), 2) := by decide +kernel
theorem dX9_may_23 : decode cX9_may 23 = .ok (.ireturn, 1) := by decide +kernel
theorem dX9_may_24 : decode cX9_may 24 = .ok (.aload_n 0, 1) := by decide +kernel
theorem dX9_may_25 : decode cX9_may 25 = .ok (.invokevirtual 306, 3) := by decide +kernel
theorem dX9_may_28 : decode cX9_may 28 = .ok (.aload_n 0, 1) := by decide +kernel
theorem dX9_may_29 : decode cX9_may 29 = .ok (.iload_n 1, 1) := by decide +kernel
theorem dX9_may_30 : decode cX9_may 30 = .ok (.invokevirtual 265, 3) := by decide +kernel
theorem dX9_may_33 : decode cX9_may 33 = .ok (.ifCond .eq 7, 3) := by decide +kernel
theorem dX9_may_36 : decode cX9_may 36 = .ok (.iconst 1, 1) := by decide +kernel
theorem dX9_may_37 : decode cX9_may 37 = .ok (.goto 4, 3) := by decide +kernel
theorem dX9_may_40 : decode cX9_may 40 = .ok (.iconst 0, 1) := by decide +kernel
theorem dX9_may_41 : decode cX9_may 41 = .ok (.ireturn, 1) := by decide +kernel
theorem dX9_mayStand_0 : decode cX9_mayStand 0 = .ok (.aload_n 0, 1) := by decide +kernel
theorem dX9_mayStand_1 : decode cX9_mayStand 1 = .ok (.iload_n 1, 1) := by decide +kernel
theorem dX9_mayStand_2 : decode cX9_mayStand 2 = .ok (.invokevirtual 279, 3) := by decide +kernel
theorem dX9_mayStand_5 : decode cX9_mayStand 5 = .ok (.ifCond .eq 33, 3) := by decide +kernel
theorem dX9_mayStand_8 : decode cX9_mayStand 8 = .ok (.iload_n 2, 1) := by decide +kernel
theorem dX9_mayStand_9 : decode cX9_mayStand 9 = .ok (.iload_n 1, 1) := by decide +kernel
theorem dX9_mayStand_10 : decode cX9_mayStand 10 = .ok (.ishr, 1) := by decide +kernel
theorem dX9_mayStand_11 : decode cX9_mayStand 11 = .ok (.iconst 1, 1) := by decide +kernel
theorem dX9_mayStand_12 : decode cX9_mayStand 12 = .ok (.iand, 1) := by decide +kernel
theorem dX9_mayStand_13 : decode cX9_mayStand 13 = .ok (.ifCond .ne 25, 3) := by decide +kernel
theorem dX9_mayStand_16 : decode cX9_mayStand 16 = .ok (.aload_n 0, 1) := by decide +kernel
theorem dX9_mayStand_17 : decode cX9_mayStand 17 = .ok (.getfield 16, 3) := by decide +kernel
theorem dX9_mayStand_20 : decode cX9_mayStand 20 = .ok (.bipush 81, 2) := by decide +kernel
theorem dX9_mayStand_22 : decode cX9_mayStand 22 = .ok (.iconst 2, 1) := by decide +kernel
theorem dX9_mayStand_23 : decode cX9_mayStand 23 = .ok (.iload_n 1, 1) := by decide +kernel
theorem dX9_mayStand_24 : decode cX9_mayStand 24 = .ok (.imul, 1) := by decide +kernel
theorem dX9_mayStand_25 : decode cX9_mayStand 25 = .ok (.iadd, 1) := by decide +kernel
theorem dX9_mayStand_26 : decode cX9_mayStand 26 = .ok (.iaload, 1) := by decide +kernel
theorem dX9_mayStand_27 : decode cX9_mayStand 27 = .ok (.iload_n 2, 1) := by decide +kernel
theorem dX9_mayStand_28 : decode cX9_mayStand 28 = .ok (.iconst (-1), 1) := by decide +kernel
theorem dX9_mayStand_29 : decode cX9_mayStand 29 = .ok (.ixor, 1) := by decide +kernel
theorem dX9_mayStand_30 : decode cX9_mayStand 30 = .ok (.iand, 1) := by decide +kernel
theorem dX9_mayStand_31 : decode cX9_mayStand 31 = .ok (.ifCond .ne 7, 3) := by decide +kernel
theorem dX9_mayStand_34 : decode cX9_mayStand 34 = .ok (.iconst 1, 1) := by decide +kernel
theorem dX9_mayStand_35 : decode cX9_mayStand 35 = .ok (.goto 4, 3) := by decide +kernel
theorem dX9_mayStand_38 : decode cX9_mayStand 38 = .ok (.iconst 0, 1) := by decide +kernel
theorem dX9_mayStand_39 : decode cX9_mayStand 39 = .ok (.istore 4, 2) := by decide +kernel
theorem dX9_mayStand_41 : decode cX9_mayStand 41 = .ok (.iload 4, 2) := by decide +kernel
theorem dX9_mayStand_43 : decode cX9_mayStand 43 = .ok (.ifCond .eq 10, 3) := by decide +kernel
theorem dX9_mayStand_46 : decode cX9_mayStand 46 = .ok (.aload_n 0, 1) := by decide +kernel
theorem dX9_mayStand_47 : decode cX9_mayStand 47 = .ok (.getfield 22, 3) := by decide +kernel
theorem dX9_mayStand_50 : decode cX9_mayStand 50 = .ok (.iload_n 3, 1) := by decide +kernel
theorem dX9_mayStand_51 : decode cX9_mayStand 51 = .ok (.iload_n 1, 1) := by decide +kernel
theorem dX9_mayStand_52 : decode cX9_mayStand 52 = .ok (.iastore, 1) := by decide +kernel
theorem dX9_mayStand_53 : decode cX9_mayStand 53 = .ok (.iload 4, 2) := by decide +kernel
theorem dX9_mayStand_55 : decode cX9_mayStand 55 = .ok (.ifCond .eq 17, 3) := by decide +kernel
theorem dX9_mayStand_58 : decode cX9_mayStand 58 = .ok (.aload_n 0, 1) := by decide +kernel
theorem dX9_mayStand_59 : decode cX9_mayStand 59 = .ok (.iload_n 3, 1) := by decide +kernel
theorem dX9_mayStand_60 : decode cX9_mayStand 60 = .ok (.iconst 1, 1) := by decide +kernel
theorem dX9_mayStand_61 : decode cX9_mayStand 61 = .ok (.iadd, 1) := by decide +kernel
theorem dX9_mayStand_62 : decode cX9_mayStand 62 = .ok (.invokevirtual 282, 3) := by decide +kernel
theorem dX9_mayStand_65 : decode cX9_mayStand 65 = .ok (.ifCond .eq 7, 3) := by decide +kernel
theorem dX9_mayStand_68 : decode cX9_mayStand 68 = .ok (.iconst 1, 1) := by decide +kernel
theorem dX9_mayStand_69 : decode cX9_mayStand 69 = .ok (.goto 4, 3) := by decide +kernel
theorem dX9_mayStand_72 : decode cX9_mayStand 72 = .ok (.iconst 0, 1) := by decide +kernel
theorem dX9_mayStand_73 : decode cX9_mayStand 73 = .ok (.ireturn, 1) := by decide +kernel
theorem dX9_means_0 : decode cX9_means 0 = .ok (.iload_n 1, 1) := by decide +kernel
theorem dX9_means_1 : decode cX9_means 1 = .ok (.invokestatic 99, 3) := by decide +kernel
theorem dX9_means_4 : decode cX9_means 4 = .ok (.ifCond .eq 15, 3) := by decide +kernel
theorem dX9_means_7 : decode cX9_means 7 = .ok (.iload_n 2, 1) := by decide +kernel
theorem dX9_means_8 : decode cX9_means 8 = .ok (.i2l, 1) := by decide +kernel
theorem dX9_means_9 : decode cX9_means 9 = .ok (.lconst 0, 1) := by decide +kernel
theorem dX9_means_10 : decode cX9_means 10 = .ok (.ldc2_w 108, 3) := by decide +kernel
theorem dX9_means_13 : decode cX9_means 13 = .ok (.invokestatic 68, 3) := by decide +kernel
theorem dX9_means_16 : decode cX9_means 16 = .ok (.ifCond .ne 5, 3) := by decide +kernel
theorem dX9_means_19 : decode cX9_means 19 = .ok (.iconst (-1), 1) := by decide +kernel
theorem dX9_means_20 : decode cX9_means 20 = .ok (.ireturn, 1) := by decide +kernel
theorem dX9_means_21 : decode cX9_means 21 = .ok (.aload_n 0, 1) := by decide +kernel
theorem dX9_means_22 : decode cX9_means 22 = .ok (.getfield 7, 3) := by decide +kernel
theorem dX9_means_25 : decode cX9_means 25 = .ok (.sipush 726, 3) := by decide +kernel
theorem dX9_means_28 : decode cX9_means 28 = .ok (.iload_n 1, 1) := by decide +kernel
theorem dX9_means_29 : decode cX9_means 29 = .ok (.iadd, 1) := by decide +kernel
theorem dX9_means_30 : decode cX9_means 30 = .ok (.iaload, 1) := by decide +kernel
theorem dX9_means_31 : decode cX9_means 31 = .ok (.istore_n 3, 1) := by decide +kernel
theorem dX9_means_32 : decode cX9_means 32 = .ok (.aload_n 0, 1) := by decide +kernel
theorem dX9_means_33 : decode cX9_means 33 = .ok (.getfield 7, 3) := by decide +kernel
theorem dX9_means_36 : decode cX9_means 36 = .ok (.sipush 726, 3) := by decide +kernel
theorem dX9_means_39 : decode cX9_means 39 = .ok (.iload_n 1, 1) := by decide +kernel
theorem dX9_means_40 : decode cX9_means 40 = .ok (.iadd, 1) := by decide +kernel
theorem dX9_means_41 : decode cX9_means 41 = .ok (.iload_n 2, 1) := by decide +kernel
theorem dX9_means_42 : decode cX9_means 42 = .ok (.iastore, 1) := by decide +kernel
theorem dX9_means_43 : decode cX9_means 43 = .ok (.iload_n 3, 1) := by decide +kernel
theorem dX9_means_44 : decode cX9_means 44 = .ok (.ireturn, 1) := by decide +kernel
theorem dX9_meets_0 : decode cX9_meets 0 = .ok (.iload_n 2, 1) := by decide +kernel
theorem dX9_meets_1 : decode cX9_meets 1 = .ok (.i2l, 1) := by decide +kernel
theorem dX9_meets_2 : decode cX9_meets 2 = .ok (.ldc2_w 116, 3) := by decide +kernel
theorem dX9_meets_5 : decode cX9_meets 5 = .ok (.ldc2_w 78, 3) := by decide +kernel
theorem dX9_meets_8 : decode cX9_meets 8 = .ok (.invokestatic 68, 3) := by decide +kernel
theorem dX9_meets_11 : decode cX9_meets 11 = .ok (.ifCond .ne 15, 3) := by decide +kernel
theorem dX9_meets_14 : decode cX9_meets 14 = .ok (.iload_n 2, 1) := by decide +kernel
theorem dX9_meets_15 : decode cX9_meets 15 = .ok (.bipush 9, 2) := by decide +kernel
theorem dX9_meets_17 : decode cX9_meets 17 = .ok (.if_icmp .eq 9, 3) := by decide +kernel
theorem dX9_meets_20 : decode cX9_meets 20 = .ok (.iload_n 2, 1) := by decide +kernel
theorem dX9_meets_21 : decode cX9_meets 21 = .ok (.bipush 13, 2) := by decide +kernel
theorem dX9_meets_23 : decode cX9_meets 23 = .ok (.if_icmp .ne 8, 3) := by decide +kernel
theorem dX9_meets_26 : decode cX9_meets 26 = .ok (.aload_n 0, 1) := by decide +kernel
theorem dX9_meets_27 : decode cX9_meets 27 = .ok (.iload_n 1, 1) := by decide +kernel
theorem dX9_meets_28 : decode cX9_meets 28 = .ok (.invokevirtual 186, 3) := by decide +kernel
theorem dX9_meets_31 : decode cX9_meets 31 = .ok (.iload_n 2, 1) := by decide +kernel
theorem dX9_meets_32 : decode cX9_meets 32 = .ok (.iconst 1, 1) := by decide +kernel
theorem dX9_meets_33 : decode cX9_meets 33 = .ok (.if_icmp .ne 13, 3) := by decide +kernel
theorem dX9_meets_36 : decode cX9_meets 36 = .ok (.aload_n 0, 1) := by decide +kernel
theorem dX9_meets_37 : decode cX9_meets 37 = .ok (.iload_n 1, 1) := by decide +kernel
theorem dX9_meets_38 : decode cX9_meets 38 = .ok (.iload 4, 2) := by decide +kernel
theorem dX9_meets_40 : decode cX9_meets 40 = .ok (.invokevirtual 189, 3) := by decide +kernel
theorem dX9_meets_43 : decode cX9_meets 43 = .ok (.goto 29, 3) := by decide +kernel
theorem dX9_meets_46 : decode cX9_meets 46 = .ok (.iload_n 2, 1) := by decide +kernel
theorem dX9_meets_47 : decode cX9_meets 47 = .ok (.iconst 3, 1) := by decide +kernel
theorem dX9_meets_48 : decode cX9_meets 48 = .ok (.if_icmp .eq 14, 3) := by decide +kernel
theorem dX9_meets_51 : decode cX9_meets 51 = .ok (.iload_n 2, 1) := by decide +kernel
theorem dX9_meets_52 : decode cX9_meets 52 = .ok (.iconst 5, 1) := by decide +kernel
theorem dX9_meets_53 : decode cX9_meets 53 = .ok (.if_icmp .eq 9, 3) := by decide +kernel
theorem dX9_meets_56 : decode cX9_meets 56 = .ok (.iload_n 2, 1) := by decide +kernel
theorem dX9_meets_57 : decode cX9_meets 57 = .ok (.bipush 9, 2) := by decide +kernel
theorem dX9_meets_59 : decode cX9_meets 59 = .ok (.if_icmp .ne 12, 3) := by decide +kernel
theorem dX9_meets_62 : decode cX9_meets 62 = .ok (.aload_n 0, 1) := by decide +kernel
theorem dX9_meets_63 : decode cX9_meets 63 = .ok (.iload_n 1, 1) := by decide +kernel
theorem dX9_meets_64 : decode cX9_meets 64 = .ok (.iload_n 3, 1) := by decide +kernel
theorem dX9_meets_65 : decode cX9_meets 65 = .ok (.invokevirtual 189, 3) := by decide +kernel
theorem dX9_meets_68 : decode cX9_meets 68 = .ok (.goto 4, 3) := by decide +kernel
theorem dX9_meets_71 : decode cX9_meets 71 = .ok (.iconst 0, 1) := by decide +kernel
theorem dX9_meets_72 : decode cX9_meets 72 = .ok (.istore 5, 2) := by decide +kernel
theorem dX9_meets_74 : decode cX9_meets 74 = .ok (.iload 5, 2) := by decide +kernel
theorem dX9_meets_76 : decode cX9_meets 76 = .ok (.ifCond .le 6, 3) := by decide +kernel
theorem dX9_meets_79 : decode cX9_meets 79 = .ok (.iload 5, 2) := by decide +kernel
theorem dX9_meets_81 : decode cX9_meets 81 = .ok (.ireturn, 1) := by decide +kernel
theorem dX9_meets_82 : decode cX9_meets 82 = .ok (.iload_n 2, 1) := by decide +kernel
theorem dX9_meets_83 : decode cX9_meets 83 = .ok (.bipush 6, 2) := by decide +kernel
theorem dX9_meets_85 : decode cX9_meets 85 = .ok (.if_icmp .ne 17, 3) := by decide +kernel
theorem dX9_meets_88 : decode cX9_meets 88 = .ok (.aload_n 0, 1) := by decide +kernel
theorem dX9_meets_89 : decode cX9_meets 89 = .ok (.getfield 16, 3) := by decide +kernel
theorem dX9_meets_92 : decode cX9_meets 92 = .ok (.iload_n 3, 1) := by decide +kernel
theorem dX9_meets_93 : decode cX9_meets 93 = .ok (.iaload, 1) := by decide +kernel
theorem dX9_meets_94 : decode cX9_meets 94 = .ok (.iconst 3, 1) := by decide +kernel
theorem dX9_meets_95 : decode cX9_meets 95 = .ok (.iand, 1) := by decide +kernel
theorem dX9_meets_96 : decode cX9_meets 96 = .ok (.iconst 2, 1) := by decide +kernel
theorem dX9_meets_97 : decode cX9_meets 97 = .ok (.if_icmp .ne 5, 3) := by decide +kernel
theorem dX9_meets_100 : decode cX9_meets 100 = .ok (.iconst 2, 1) := by decide +kernel
theorem dX9_meets_101 : decode cX9_meets 101 = .ok (.ireturn, 1) := by decide +kernel
theorem dX9_meets_102 : decode cX9_meets 102 = .ok (.iload_n 2, 1) := by decide +kernel
theorem dX9_meets_103 : decode cX9_meets 103 = .ok (.iconst 1, 1) := by decide +kernel
theorem dX9_meets_104 : decode cX9_meets 104 = .ok (.if_icmp .ne 13, 3) := by decide +kernel
theorem dX9_meets_107 : decode cX9_meets 107 = .ok (.aload_n 0, 1) := by decide +kernel
theorem dX9_meets_108 : decode cX9_meets 108 = .ok (.iload_n 1, 1) := by decide +kernel
theorem dX9_meets_109 : decode cX9_meets 109 = .ok (.iload 4, 2) := by decide +kernel
theorem dX9_meets_111 : decode cX9_meets 111 = .ok (.invokevirtual 192, 3) := by decide +kernel
theorem dX9_meets_114 : decode cX9_meets 114 = .ok (.ifCond .ne 22, 3) := by decide +kernel
theorem dX9_meets_117 : decode cX9_meets 117 = .ok (.iload_n 2, 1) := by decide +kernel
theorem dX9_meets_118 : decode cX9_meets 118 = .ok (.iconst 3, 1) := by decide +kernel
theorem dX9_meets_119 : decode cX9_meets 119 = .ok (.if_icmp .eq 8, 3) := by decide +kernel
theorem dX9_meets_122 : decode cX9_meets 122 = .ok (.iload_n 2, 1) := by decide +kernel
theorem dX9_meets_123 : decode cX9_meets 123 = .ok (.iconst 5, 1) := by decide +kernel
theorem dX9_meets_124 : decode cX9_meets 124 = .ok (.if_icmp .ne 14, 3) := by decide +kernel
theorem dX9_meets_127 : decode cX9_meets 127 = .ok (.aload_n 0, 1) := by decide +kernel
theorem dX9_meets_128 : decode cX9_meets 128 = .ok (.iload_n 1, 1) := by decide +kernel
theorem dX9_meets_129 : decode cX9_meets 129 = .ok (.iload_n 3, 1) := by decide +kernel
theorem dX9_meets_130 : decode cX9_meets 130 = .ok (.invokevirtual 192, 3) := by decide +kernel
theorem dX9_meets_133 : decode cX9_meets 133 = .ok (.ifCond .eq 5, 3) := by decide +kernel
theorem dX9_meets_136 : decode cX9_meets 136 = .ok (.iconst 4, 1) := by decide +kernel
theorem dX9_meets_137 : decode cX9_meets 137 = .ok (.ireturn, 1) := by decide +kernel
theorem dX9_meets_138 : decode cX9_meets 138 = .ok (.iload_n 2, 1) := by decide +kernel
theorem dX9_meets_139 : decode cX9_meets 139 = .ok (.bipush 9, 2) := by decide +kernel
theorem dX9_meets_141 : decode cX9_meets 141 = .ok (.if_icmp .ne 28, 3) := by decide +kernel
theorem dX9_meets_144 : decode cX9_meets 144 = .ok (.aload_n 0, 1) := by decide +kernel
theorem dX9_meets_145 : decode cX9_meets 145 = .ok (.getfield 16, 3) := by decide +kernel
theorem dX9_meets_148 : decode cX9_meets 148 = .ok (.bipush 20, 2) := by decide +kernel
theorem dX9_meets_150 : decode cX9_meets 150 = .ok (.aload_n 0, 1) := by decide +kernel
theorem dX9_meets_151 : decode cX9_meets 151 = .ok (.iload_n 1, 1) := by decide +kernel
theorem dX9_meets_152 : decode cX9_meets 152 = .ok (.iload_n 3, 1) := by decide +kernel
theorem dX9_meets_153 : decode cX9_meets 153 = .ok (.invokevirtual 167, 3) := by decide +kernel
theorem dX9_meets_156 : decode cX9_meets 156 = .ok (.invokestatic 183, 3) := by decide +kernel
theorem dX9_meets_159 : decode cX9_meets 159 = .ok (.iadd, 1) := by decide +kernel
theorem dX9_meets_160 : decode cX9_meets 160 = .ok (.iaload, 1) := by decide +kernel
theorem dX9_meets_161 : decode cX9_meets 161 = .ok (.iconst 1, 1) := by decide +kernel
theorem dX9_meets_162 : decode cX9_meets 162 = .ok (.if_icmp .eq 7, 3) := by decide +kernel
theorem dX9_meets_165 : decode cX9_meets 165 = .ok (.iconst 5, 1) := by decide +kernel
theorem dX9_meets_166 : decode cX9_meets 166 = .ok (.goto 4, 3) := by decide +kernel
theorem dX9_meets_169 : decode cX9_meets 169 = .ok (.iconst 0, 1) := by decide +kernel
theorem dX9_meets_170 : decode cX9_meets 170 = .ok (.ireturn, 1) := by decide +kernel
theorem dX9_memory_0 : decode cX9_memory 0 = .ok (.aload_n 0, 1) := by decide +kernel
theorem dX9_memory_1 : decode cX9_memory 1 = .ok (.iload_n 1, 1) := by decide +kernel
theorem dX9_memory_2 : decode cX9_memory 2 = .ok (.invokevirtual 154, 3) := by decide +kernel
theorem dX9_memory_5 : decode cX9_memory 5 = .ok (.istore_n 2, 1) := by decide +kernel
theorem dX9_memory_6 : decode cX9_memory 6 = .ok (.aload_n 0, 1) := by decide +kernel
theorem dX9_memory_7 : decode cX9_memory 7 = .ok (.iload_n 1, 1) := by decide +kernel
theorem dX9_memory_8 : decode cX9_memory 8 = .ok (.iconst 1, 1) := by decide +kernel
theorem dX9_memory_9 : decode cX9_memory 9 = .ok (.invokevirtual 163, 3) := by decide +kernel
theorem dX9_memory_12 : decode cX9_memory 12 = .ok (.istore_n 3, 1) := by decide +kernel
theorem dX9_memory_13 : decode cX9_memory 13 = .ok (.aload_n 0, 1) := by decide +kernel
theorem dX9_memory_14 : decode cX9_memory 14 = .ok (.iload_n 1, 1) := by decide +kernel
theorem dX9_memory_15 : decode cX9_memory 15 = .ok (.iconst 2, 1) := by decide +kernel
theorem dX9_memory_16 : decode cX9_memory 16 = .ok (.invokevirtual 163, 3) := by decide +kernel
theorem dX9_memory_19 : decode cX9_memory 19 = .ok (.istore 4, 2) := by decide +kernel
theorem dX9_memory_21 : decode cX9_memory 21 = .ok (.aload_n 0, 1) := by decide +kernel
theorem dX9_memory_22 : decode cX9_memory 22 = .ok (.iload_n 1, 1) := by decide +kernel
theorem dX9_memory_23 : decode cX9_memory 23 = .ok (.iconst 3, 1) := by decide +kernel
theorem dX9_memory_24 : decode cX9_memory 24 = .ok (.invokevirtual 163, 3) := by decide +kernel
theorem dX9_memory_27 : decode cX9_memory 27 = .ok (.istore 5, 2) := by decide +kernel
theorem dX9_memory_29 : decode cX9_memory 29 = .ok (.aload_n 0, 1) := by decide +kernel
theorem dX9_memory_30 : decode cX9_memory 30 = .ok (.iload_n 1, 1) := by decide +kernel
theorem dX9_memory_31 : decode cX9_memory 31 = .ok (.iload_n 2, 1) := by decide +kernel
theorem dX9_memory_32 : decode cX9_memory 32 = .ok (.iload_n 3, 1) := by decide +kernel
theorem dX9_memory_33 : decode cX9_memory 33 = .ok (.iload 4, 2) := by decide +kernel
theorem dX9_memory_35 : decode cX9_memory 35 = .ok (.invokevirtual 198, 3) := by decide +kernel
theorem dX9_memory_38 : decode cX9_memory 38 = .ok (.istore 6, 2) := by decide +kernel
theorem dX9_memory_40 : decode cX9_memory 40 = .ok (.iload 6, 2) := by decide +kernel
theorem dX9_memory_42 : decode cX9_memory 42 = .ok (.ifCond .le 11, 3) := by decide +kernel
theorem dX9_memory_45 : decode cX9_memory 45 = .ok (.aload_n 0, 1) := by decide +kernel
theorem dX9_memory_46 : decode cX9_memory 46 = .ok (.iload_n 1, 1) := by decide +kernel
theorem dX9_memory_47 : decode cX9_memory 47 = .ok (.iload 6, 2) := by decide +kernel
theorem dX9_memory_49 : decode cX9_memory 49 = .ok (.invokevirtual 174, 3) := by decide +kernel
theorem dX9_memory_52 : decode cX9_memory 52 = .ok (.return_, 1) := by decide +kernel
theorem dX9_memory_53 : decode cX9_memory 53 = .ok (.iload_n 2, 1) := by decide +kernel
theorem dX9_memory_54 : decode cX9_memory 54 = .ok (.tableswitch 208 0 6 #[42, 63, 91, 112, 140, 163, 192], 42) := by decide +kernel
theorem dX9_memory_96 : decode cX9_memory 96 = .ok (.aload_n 0, 1) := by decide +kernel
theorem dX9_memory_97 : decode cX9_memory 97 = .ok (.iload_n 1, 1) := by decide +kernel
theorem dX9_memory_98 : decode cX9_memory 98 = .ok (.iload_n 3, 1) := by decide +kernel
theorem dX9_memory_99 : decode cX9_memory 99 = .ok (.aload_n 0, 1) := by decide +kernel
theorem dX9_memory_100 : decode cX9_memory 100 = .ok (.iload_n 1, 1) := by decide +kernel
theorem dX9_memory_101 : decode cX9_memory 101 = .ok (.iload 4, 2) := by decide +kernel
theorem dX9_memory_103 : decode cX9_memory 103 = .ok (.invokevirtual 202, 3) := by decide +kernel
theorem dX9_memory_106 : decode cX9_memory 106 = .ok (.invokevirtual 147, 3) := by decide +kernel
theorem dX9_memory_109 : decode cX9_memory 109 = .ok (.aload_n 0, 1) := by decide +kernel
theorem dX9_memory_110 : decode cX9_memory 110 = .ok (.iload_n 1, 1) := by decide +kernel
theorem dX9_memory_111 : decode cX9_memory 111 = .ok (.invokevirtual 195, 3) := by decide +kernel
theorem dX9_memory_114 : decode cX9_memory 114 = .ok (.goto 157, 3) := by decide +kernel
theorem dX9_memory_117 : decode cX9_memory 117 = .ok (.aload_n 0, 1) := by decide +kernel
theorem dX9_memory_118 : decode cX9_memory 118 = .ok (.iload_n 1, 1) := by decide +kernel
theorem dX9_memory_119 : decode cX9_memory 119 = .ok (.iload_n 3, 1) := by decide +kernel
theorem dX9_memory_120 : decode cX9_memory 120 = .ok (.aload_n 0, 1) := by decide +kernel
theorem dX9_memory_121 : decode cX9_memory 121 = .ok (.iload_n 1, 1) := by decide +kernel
theorem dX9_memory_122 : decode cX9_memory 122 = .ok (.aload_n 0, 1) := by decide +kernel
theorem dX9_memory_123 : decode cX9_memory 123 = .ok (.iload_n 1, 1) := by decide +kernel
theorem dX9_memory_124 : decode cX9_memory 124 = .ok (.iload 4, 2) := by decide +kernel
theorem dX9_memory_126 : decode cX9_memory 126 = .ok (.iload 5, 2) := by decide +kernel
theorem dX9_memory_128 : decode cX9_memory 128 = .ok (.invokevirtual 205, 3) := by decide +kernel
theorem dX9_memory_131 : decode cX9_memory 131 = .ok (.invokevirtual 202, 3) := by decide +kernel
theorem dX9_memory_134 : decode cX9_memory 134 = .ok (.invokevirtual 147, 3) := by decide +kernel
theorem dX9_memory_137 : decode cX9_memory 137 = .ok (.aload_n 0, 1) := by decide +kernel
theorem dX9_memory_138 : decode cX9_memory 138 = .ok (.iload_n 1, 1) := by decide +kernel
theorem dX9_memory_139 : decode cX9_memory 139 = .ok (.invokevirtual 195, 3) := by decide +kernel
theorem dX9_memory_142 : decode cX9_memory 142 = .ok (.goto 129, 3) := by decide +kernel
theorem dX9_memory_145 : decode cX9_memory 145 = .ok (.aload_n 0, 1) := by decide +kernel
theorem dX9_memory_146 : decode cX9_memory 146 = .ok (.iload_n 1, 1) := by decide +kernel
theorem dX9_memory_147 : decode cX9_memory 147 = .ok (.iload_n 3, 1) := by decide +kernel
theorem dX9_memory_148 : decode cX9_memory 148 = .ok (.aload_n 0, 1) := by decide +kernel
theorem dX9_memory_149 : decode cX9_memory 149 = .ok (.iload_n 1, 1) := by decide +kernel
theorem dX9_memory_150 : decode cX9_memory 150 = .ok (.iload 4, 2) := by decide +kernel
theorem dX9_memory_152 : decode cX9_memory 152 = .ok (.invokevirtual 167, 3) := by decide +kernel
theorem dX9_memory_155 : decode cX9_memory 155 = .ok (.invokevirtual 209, 3) := by decide +kernel
theorem dX9_memory_158 : decode cX9_memory 158 = .ok (.aload_n 0, 1) := by decide +kernel
theorem dX9_memory_159 : decode cX9_memory 159 = .ok (.iload_n 1, 1) := by decide +kernel
theorem dX9_memory_160 : decode cX9_memory 160 = .ok (.invokevirtual 195, 3) := by decide +kernel
theorem dX9_memory_163 : decode cX9_memory 163 = .ok (.goto 108, 3) := by decide +kernel
theorem dX9_memory_166 : decode cX9_memory 166 = .ok (.aload_n 0, 1) := by decide +kernel
theorem dX9_memory_167 : decode cX9_memory 167 = .ok (.iload_n 1, 1) := by decide +kernel
theorem dX9_memory_168 : decode cX9_memory 168 = .ok (.aload_n 0, 1) := by decide +kernel
theorem dX9_memory_169 : decode cX9_memory 169 = .ok (.iload_n 1, 1) := by decide +kernel
theorem dX9_memory_170 : decode cX9_memory 170 = .ok (.iload_n 3, 1) := by decide +kernel
theorem dX9_memory_171 : decode cX9_memory 171 = .ok (.iload 4, 2) := by decide +kernel
theorem dX9_memory_173 : decode cX9_memory 173 = .ok (.invokevirtual 205, 3) := by decide +kernel
theorem dX9_memory_176 : decode cX9_memory 176 = .ok (.aload_n 0, 1) := by decide +kernel
theorem dX9_memory_177 : decode cX9_memory 177 = .ok (.iload_n 1, 1) := by decide +kernel
theorem dX9_memory_178 : decode cX9_memory 178 = .ok (.iload 5, 2) := by decide +kernel
theorem dX9_memory_180 : decode cX9_memory 180 = .ok (.invokevirtual 167, 3) := by decide +kernel
theorem dX9_memory_183 : decode cX9_memory 183 = .ok (.invokevirtual 209, 3) := by decide +kernel
theorem dX9_memory_186 : decode cX9_memory 186 = .ok (.aload_n 0, 1) := by decide +kernel
theorem dX9_memory_187 : decode cX9_memory 187 = .ok (.iload_n 1, 1) := by decide +kernel
theorem dX9_memory_188 : decode cX9_memory 188 = .ok (.invokevirtual 195, 3) := by decide +kernel
theorem dX9_memory_191 : decode cX9_memory 191 = .ok (.goto 80, 3) := by decide +kernel
theorem dX9_memory_194 : decode cX9_memory 194 = .ok (.aload_n 0, 1) := by decide +kernel
theorem dX9_memory_195 : decode cX9_memory 195 = .ok (.iload_n 1, 1) := by decide +kernel
theorem dX9_memory_196 : decode cX9_memory 196 = .ok (.iload_n 3, 1) := by decide +kernel
theorem dX9_memory_197 : decode cX9_memory 197 = .ok (.aload_n 0, 1) := by decide +kernel
theorem dX9_memory_198 : decode cX9_memory 198 = .ok (.iload_n 1, 1) := by decide +kernel
theorem dX9_memory_199 : decode cX9_memory 199 = .ok (.iload 4, 2) := by decide +kernel
theorem dX9_memory_201 : decode cX9_memory 201 = .ok (.invokevirtual 167, 3) := by decide +kernel
theorem dX9_memory_204 : decode cX9_memory 204 = .ok (.aload_n 0, 1) := by decide +kernel
theorem dX9_memory_205 : decode cX9_memory 205 = .ok (.iload_n 1, 1) := by decide +kernel
theorem dX9_memory_206 : decode cX9_memory 206 = .ok (.iload 5, 2) := by decide +kernel
theorem dX9_memory_208 : decode cX9_memory 208 = .ok (.invokevirtual 167, 3) := by decide +kernel
theorem dX9_memory_211 : decode cX9_memory 211 = .ok (.invokevirtual 212, 3) := by decide +kernel
theorem dX9_memory_214 : decode cX9_memory 214 = .ok (.goto 57, 3) := by decide +kernel
theorem dX9_memory_217 : decode cX9_memory 217 = .ok (.aload_n 0, 1) := by decide +kernel
theorem dX9_memory_218 : decode cX9_memory 218 = .ok (.iload_n 1, 1) := by decide +kernel
theorem dX9_memory_219 : decode cX9_memory 219 = .ok (.aload_n 0, 1) := by decide +kernel
theorem dX9_memory_220 : decode cX9_memory 220 = .ok (.iload_n 1, 1) := by decide +kernel
theorem dX9_memory_221 : decode cX9_memory 221 = .ok (.iload_n 3, 1) := by decide +kernel
theorem dX9_memory_222 : decode cX9_memory 222 = .ok (.iconst 0, 1) := by decide +kernel
theorem dX9_memory_223 : decode cX9_memory 223 = .ok (.invokevirtual 205, 3) := by decide +kernel
theorem dX9_memory_226 : decode cX9_memory 226 = .ok (.aload_n 0, 1) := by decide +kernel
theorem dX9_memory_227 : decode cX9_memory 227 = .ok (.iload_n 1, 1) := by decide +kernel
theorem dX9_memory_228 : decode cX9_memory 228 = .ok (.iload 4, 2) := by decide +kernel
theorem dX9_memory_230 : decode cX9_memory 230 = .ok (.invokevirtual 167, 3) := by decide +kernel
theorem dX9_memory_233 : decode cX9_memory 233 = .ok (.aload_n 0, 1) := by decide +kernel
theorem dX9_memory_234 : decode cX9_memory 234 = .ok (.iload_n 1, 1) := by decide +kernel
theorem dX9_memory_235 : decode cX9_memory 235 = .ok (.iload 5, 2) := by decide +kernel
theorem dX9_memory_237 : decode cX9_memory 237 = .ok (.invokevirtual 167, 3) := by decide +kernel
theorem dX9_memory_240 : decode cX9_memory 240 = .ok (.invokevirtual 212, 3) := by decide +kernel
theorem dX9_memory_243 : decode cX9_memory 243 = .ok (.goto 28, 3) := by decide +kernel
theorem dX9_memory_246 : decode cX9_memory 246 = .ok (.aload_n 0, 1) := by decide +kernel
theorem dX9_memory_247 : decode cX9_memory 247 = .ok (.iload_n 1, 1) := by decide +kernel
theorem dX9_memory_248 : decode cX9_memory 248 = .ok (.iload_n 3, 1) := by decide +kernel
theorem dX9_memory_249 : decode cX9_memory 249 = .ok (.iload 4, 2) := by decide +kernel
theorem dX9_memory_251 : decode cX9_memory 251 = .ok (.invokevirtual 216, 3) := by decide +kernel
theorem dX9_memory_254 : decode cX9_memory 254 = .ok (.aload_n 0, 1) := by decide +kernel
theorem dX9_memory_255 : decode cX9_memory 255 = .ok (.iload_n 1, 1) := by decide +kernel
theorem dX9_memory_256 : decode cX9_memory 256 = .ok (.invokevirtual 195, 3) := by decide +kernel
theorem dX9_memory_259 : decode cX9_memory 259 = .ok (.goto 12, 3) := by decide +kernel
theorem dX9_memory_262 : decode cX9_memory 262 = .ok (.aload_n 0, 1) := by decide +kernel
theorem dX9_memory_263 : decode cX9_memory 263 = .ok (.iload_n 1, 1) := by decide +kernel
theorem dX9_memory_264 : decode cX9_memory 264 = .ok (.iload_n 2, 1) := by decide +kernel
theorem dX9_memory_265 : decode cX9_memory 265 = .ok (.iload_n 3, 1) := by decide +kernel
theorem dX9_memory_266 : decode cX9_memory 266 = .ok (.iload 4, 2) := by decide +kernel
theorem dX9_memory_268 : decode cX9_memory 268 = .ok (.invokevirtual 219, 3) := by decide +kernel
theorem dX9_memory_271 : decode cX9_memory 271 = .ok (.iload_n 2, 1) := by decide +kernel
theorem dX9_memory_272 : decode cX9_memory 272 = .ok (.bipush 13, 2) := by decide +kernel
theorem dX9_memory_274 : decode cX9_memory 274 = .ok (.if_icmp .eq 18, 3) := by decide +kernel
theorem dX9_memory_277 : decode cX9_memory 277 = .ok (.aload_n 0, 1) := by decide +kernel
theorem dX9_memory_278 : decode cX9_memory 278 = .ok (.getfield 16, 3) := by decide +kernel
theorem dX9_memory_281 : decode cX9_memory 281 = .ok (.iload_n 1, 1) := by decide +kernel
theorem dX9_memory_282 : decode cX9_memory 282 = .ok (.invokestatic 122, 3) := by decide +kernel
theorem dX9_memory_285 : decode cX9_memory 285 = .ok (.iconst 2, 1) := by decide +kernel
theorem dX9_memory_286 : decode cX9_memory 286 = .ok (.iadd, 1) := by decide +kernel
theorem dX9_memory_287 : decode cX9_memory 287 = .ok (.dup2, 1) := by decide +kernel
theorem dX9_memory_288 : decode cX9_memory 288 = .ok (.iaload, 1) := by decide +kernel
theorem dX9_memory_289 : decode cX9_memory 289 = .ok (.iconst 1, 1) := by decide +kernel
theorem dX9_memory_290 : decode cX9_memory 290 = .ok (.iadd, 1) := by decide +kernel
theorem dX9_memory_291 : decode cX9_memory 291 = .ok (.iastore, 1) := by decide +kernel
theorem dX9_memory_292 : decode cX9_memory 292 = .ok (.return_, 1) := by decide +kernel
theorem dX9_model_0 : decode cX9_model 0 = .ok (.iload_n 1, 1) := by decide +kernel
theorem dX9_model_1 : decode cX9_model 1 = .ok (.i2l, 1) := by decide +kernel
theorem dX9_model_2 : decode cX9_model 2 = .ok (.lconst 0, 1) := by decide +kernel
theorem dX9_model_3 : decode cX9_model 3 = .ok (.ldc2_w 116, 3) := by decide +kernel
theorem dX9_model_6 : decode cX9_model 6 = .ok (.invokestatic 68, 3) := by decide +kernel
theorem dX9_model_9 : decode cX9_model 9 = .ok (.ifCond .ne 5, 3) := by decide +kernel
theorem dX9_model_12 : decode cX9_model 12 = .ok (.iconst (-1), 1) := by decide +kernel
theorem dX9_model_13 : decode cX9_model 13 = .ok (.ireturn, 1) := by decide +kernel
theorem dX9_model_14 : decode cX9_model 14 = .ok (.aload_n 0, 1) := by decide +kernel
theorem dX9_model_15 : decode cX9_model 15 = .ok (.getfield 7, 3) := by decide +kernel
theorem dX9_model_18 : decode cX9_model 18 = .ok (.sipush 950, 3) := by decide +kernel
theorem dX9_model_21 : decode cX9_model 21 = .ok (.iaload, 1) := by decide +kernel
theorem dX9_model_22 : decode cX9_model 22 = .ok (.istore_n 2, 1) := by decide +kernel
theorem dX9_model_23 : decode cX9_model 23 = .ok (.aload_n 0, 1) := by decide +kernel
theorem dX9_model_24 : decode cX9_model 24 = .ok (.getfield 7, 3) := by decide +kernel
theorem dX9_model_27 : decode cX9_model 27 = .ok (.sipush 950, 3) := by decide +kernel
theorem dX9_model_30 : decode cX9_model 30 = .ok (.iload_n 1, 1) := by decide +kernel
theorem dX9_model_31 : decode cX9_model 31 = .ok (.iastore, 1) := by decide +kernel
theorem dX9_model_32 : decode cX9_model 32 = .ok (.iload_n 2, 1) := by decide +kernel
theorem dX9_model_33 : decode cX9_model 33 = .ok (.ireturn, 1) := by decide +kernel
theorem dX9_moment_0 : decode cX9_moment 0 = .ok (.aload_n 0, 1) := by decide +kernel
theorem dX9_moment_1 : decode cX9_moment 1 = .ok (.iload_n 1, 1) := by decide +kernel
theorem dX9_moment_2 : decode cX9_moment 2 = .ok (.iload_n 2, 1) := by decide +kernel
theorem dX9_moment_3 : decode cX9_moment 3 = .ok (.invokevirtual 110, 3) := by decide +kernel
theorem dX9_moment_6 : decode cX9_moment 6 = .ok (.ifCond .eq 24, 3) := by decide +kernel
theorem dX9_moment_9 : decode cX9_moment 9 = .ok (.aload_n 0, 1) := by decide +kernel
theorem dX9_moment_10 : decode cX9_moment 10 = .ok (.getfield 7, 3) := by decide +kernel
theorem dX9_moment_13 : decode cX9_moment 13 = .ok (.bipush 6, 2) := by decide +kernel
theorem dX9_moment_15 : decode cX9_moment 15 = .ok (.bipush 120, 2) := by decide +kernel
theorem dX9_moment_17 : decode cX9_moment 17 = .ok (.iload_n 1, 1) := by decide +kernel
theorem dX9_moment_18 : decode cX9_moment 18 = .ok (.imul, 1) := by decide +kernel
theorem dX9_moment_19 : decode cX9_moment 19 = .ok (.iadd, 1) := by decide +kernel
theorem dX9_moment_20 : decode cX9_moment 20 = .ok (.iconst 4, 1) := by decide +kernel
theorem dX9_moment_21 : decode cX9_moment 21 = .ok (.iload_n 2, 1) := by decide +kernel
theorem dX9_moment_22 : decode cX9_moment 22 = .ok (.imul, 1) := by decide +kernel
theorem dX9_moment_23 : decode cX9_moment 23 = .ok (.iadd, 1) := by decide +kernel
theorem dX9_moment_24 : decode cX9_moment 24 = .ok (.iaload, 1) := by decide +kernel
theorem dX9_moment_25 : decode cX9_moment 25 = .ok (.bipush 6, 2) := by decide +kernel
theorem dX9_moment_27 : decode cX9_moment 27 = .ok (.if_icmp .le 5, 3) := by decide +kernel
theorem dX9_moment_30 : decode cX9_moment 30 = .ok (.iconst (-1), 1) := by decide +kernel
theorem dX9_moment_31 : decode cX9_moment 31 = .ok (.ireturn, 1) := by decide +kernel
theorem dX9_moment_32 : decode cX9_moment 32 = .ok (.sipush 732, 3) := by decide +kernel
theorem dX9_moment_35 : decode cX9_moment 35 = .ok (.bipush 30, 2) := by decide +kernel
theorem dX9_moment_37 : decode cX9_moment 37 = .ok (.iload_n 1, 1) := by decide +kernel
theorem dX9_moment_38 : decode cX9_moment 38 = .ok (.imul, 1) := by decide +kernel
theorem dX9_moment_39 : decode cX9_moment 39 = .ok (.iadd, 1) := by decide +kernel
theorem dX9_moment_40 : decode cX9_moment 40 = .ok (.iload_n 2, 1) := by decide +kernel
theorem dX9_moment_41 : decode cX9_moment 41 = .ok (.iadd, 1) := by decide +kernel
theorem dX9_moment_42 : decode cX9_moment 42 = .ok (.istore 4, 2) := by decide +kernel
theorem dX9_moment_44 : decode cX9_moment 44 = .ok (.aload_n 0, 1) := by decide +kernel
theorem dX9_moment_45 : decode cX9_moment 45 = .ok (.getfield 7, 3) := by decide +kernel
theorem dX9_moment_48 : decode cX9_moment 48 = .ok (.iload 4, 2) := by decide +kernel
theorem dX9_moment_50 : decode cX9_moment 50 = .ok (.iaload, 1) := by decide +kernel
theorem dX9_moment_51 : decode cX9_moment 51 = .ok (.istore 5, 2) := by decide +kernel
theorem dX9_moment_53 : decode cX9_moment 53 = .ok (.aload_n 0, 1) := by decide +kernel
theorem dX9_moment_54 : decode cX9_moment 54 = .ok (.getfield 7, 3) := by decide +kernel
theorem dX9_moment_57 : decode cX9_moment 57 = .ok (.iload 4, 2) := by decide +kernel
theorem dX9_moment_59 : decode cX9_moment 59 = .ok (.iload_n 3, 1) := by decide +kernel
theorem dX9_moment_60 : decode cX9_moment 60 = .ok (.ifCond .eq 7, 3) := by decide +kernel
theorem dX9_moment_63 : decode cX9_moment 63 = .ok (.iconst 1, 1) := by decide +kernel
theorem dX9_moment_64 : decode cX9_moment 64 = .ok (.goto 4, 3) := by decide +kernel
theorem dX9_moment_67 : decode cX9_moment 67 = .ok (.iconst 0, 1) := by decide +kernel
theorem dX9_moment_68 : decode cX9_moment 68 = .ok (.iastore, 1) := by decide +kernel
theorem dX9_moment_69 : decode cX9_moment 69 = .ok (.iload 5, 2) := by decide +kernel
theorem dX9_moment_71 : decode cX9_moment 71 = .ok (.ireturn, 1) := by decide +kernel
theorem dX9_mostWaiting_0 : decode cX9_mostWaiting 0 = .ok (.iconst 0, 1) := by decide +kernel
theorem dX9_mostWaiting_1 : decode cX9_mostWaiting 1 = .ok (.istore_n 1, 1) := by decide +kernel
theorem dX9_mostWaiting_2 : decode cX9_mostWaiting 2 = .ok (.iconst 0, 1) := by decide +kernel
theorem dX9_mostWaiting_3 : decode cX9_mostWaiting 3 = .ok (.istore_n 2, 1) := by decide +kernel
theorem dX9_mostWaiting_4 : decode cX9_mostWaiting 4 = .ok (.iload_n 2, 1) := by decide +kernel
theorem dX9_mostWaiting_5 : decode cX9_mostWaiting 5 = .ok (.aload_n 0, 1) := by decide +kernel
theorem dX9_mostWaiting_6 : decode cX9_mostWaiting 6 = .ok (.getfield 328, 3) := by decide +kernel
theorem dX9_mostWaiting_9 : decode cX9_mostWaiting 9 = .ok (.if_icmp .ge 30, 3) := by decide +kernel
theorem dX9_mostWaiting_12 : decode cX9_mostWaiting 12 = .ok (.aload_n 0, 1) := by decide +kernel
theorem dX9_mostWaiting_13 : decode cX9_mostWaiting 13 = .ok (.getfield 57, 3) := by decide +kernel
theorem dX9_mostWaiting_16 : decode cX9_mostWaiting 16 = .ok (.iload_n 2, 1) := by decide +kernel
theorem dX9_mostWaiting_17 : decode cX9_mostWaiting 17 = .ok (.iaload, 1) := by decide +kernel
theorem dX9_mostWaiting_18 : decode cX9_mostWaiting 18 = .ok (.iload_n 1, 1) := by decide +kernel
theorem dX9_mostWaiting_19 : decode cX9_mostWaiting 19 = .ok (.if_icmp .le 12, 3) := by decide +kernel
theorem dX9_mostWaiting_22 : decode cX9_mostWaiting 22 = .ok (.aload_n 0, 1) := by decide +kernel
theorem dX9_mostWaiting_23 : decode cX9_mostWaiting 23 = .ok (.getfield 57, 3) := by decide +kernel
theorem dX9_mostWaiting_26 : decode cX9_mostWaiting 26 = .ok (.iload_n 2, 1) := by decide +kernel
theorem dX9_mostWaiting_27 : decode cX9_mostWaiting 27 = .ok (.iaload, 1) := by decide +kernel
theorem dX9_mostWaiting_28 : decode cX9_mostWaiting 28 = .ok (.goto 4, 3) := by decide +kernel
theorem dX9_mostWaiting_31 : decode cX9_mostWaiting 31 = .ok (.iload_n 1, 1) := by decide +kernel
theorem dX9_mostWaiting_32 : decode cX9_mostWaiting 32 = .ok (.istore_n 1, 1) := by decide +kernel
theorem dX9_mostWaiting_33 : decode cX9_mostWaiting 33 = .ok (.iinc 2 1, 3) := by decide +kernel
theorem dX9_mostWaiting_36 : decode cX9_mostWaiting 36 = .ok (.goto (-32), 3) := by decide +kernel
theorem dX9_mostWaiting_39 : decode cX9_mostWaiting 39 = .ok (.iload_n 1, 1) := by decide +kernel
theorem dX9_mostWaiting_40 : decode cX9_mostWaiting 40 = .ok (.ireturn, 1) := by decide +kernel
theorem dX9_next_0 : decode cX9_next 0 = .ok (.iload_n 2, 1) := by decide +kernel
theorem dX9_next_1 : decode cX9_next 1 = .ok (.i2l, 1) := by decide +kernel
theorem dX9_next_2 : decode cX9_next 2 = .ok (.lconst 0, 1) := by decide +kernel
theorem dX9_next_3 : decode cX9_next 3 = .ok (.ldc2_w 76, 3) := by decide +kernel
theorem dX9_next_6 : decode cX9_next 6 = .ok (.invokestatic 68, 3) := by decide +kernel
theorem dX9_next_9 : decode cX9_next 9 = .ok (.ifCond .ne 5, 3) := by decide +kernel
theorem dX9_next_12 : decode cX9_next 12 = .ok (.iconst (-1), 1) := by decide +kernel
theorem dX9_next_13 : decode cX9_next 13 = .ok (.ireturn, 1) := by decide +kernel
theorem dX9_next_14 : decode cX9_next 14 = .ok (.aload_n 0, 1) := by decide +kernel
theorem dX9_next_15 : decode cX9_next 15 = .ok (.iload_n 1, 1) := by decide +kernel
theorem dX9_next_16 : decode cX9_next 16 = .ok (.invokevirtual 382, 3) := by decide +kernel
theorem dX9_next_19 : decode cX9_next 19 = .ok (.ifCond .eq 17, 3) := by decide +kernel
theorem dX9_next_22 : decode cX9_next 22 = .ok (.aload_n 0, 1) := by decide +kernel
theorem dX9_next_23 : decode cX9_next 23 = .ok (.getfield 41, 3) := by decide +kernel
theorem dX9_next_26 : decode cX9_next 26 = .ok (.bipush 6, 2) := by decide +kernel
theorem dX9_next_28 : decode cX9_next 28 = .ok (.iload_n 1, 1) := by decide +kernel
theorem dX9_next_29 : decode cX9_next 29 = .ok (.imul, 1) := by decide +kernel
theorem dX9_next_30 : decode cX9_next 30 = .ok (.iload_n 2, 1) := by decide +kernel
theorem dX9_next_31 : decode cX9_next 31 = .ok (.iadd, 1) := by decide +kernel
theorem dX9_next_32 : decode cX9_next 32 = .ok (.iaload, 1) := by decide +kernel
theorem dX9_next_33 : decode cX9_next 33 = .ok (.goto 5, 3) := by decide +kernel
theorem dX9_next_36 : decode cX9_next 36 = .ok (.bipush (-2), 2) := by decide +kernel
theorem dX9_next_38 : decode cX9_next 38 = .ok (.ireturn, 1) := by decide +kernel
theorem dX9_node_0 : decode cX9_node 0 = .ok (.iload_n 1, 1) := by decide +kernel
theorem dX9_node_1 : decode cX9_node 1 = .ok (.i2l, 1) := by decide +kernel
theorem dX9_node_2 : decode cX9_node 2 = .ok (.lconst 0, 1) := by decide +kernel
theorem dX9_node_3 : decode cX9_node 3 = .ok (.ldc2_w 76, 3) := by decide +kernel
theorem dX9_node_6 : decode cX9_node 6 = .ok (.invokestatic 68, 3) := by decide +kernel
theorem dX9_node_9 : decode cX9_node 9 = .ok (.ifCond .ne 5, 3) := by decide +kernel
theorem dX9_node_12 : decode cX9_node 12 = .ok (.iconst (-1), 1) := by decide +kernel
theorem dX9_node_13 : decode cX9_node 13 = .ok (.ireturn, 1) := by decide +kernel
theorem dX9_node_14 : decode cX9_node 14 = .ok (.aload_n 0, 1) := by decide +kernel
theorem dX9_node_15 : decode cX9_node 15 = .ok (.getfield 291, 3) := by decide +kernel
theorem dX9_node_18 : decode cX9_node 18 = .ok (.ifCond .ne 8, 3) := by decide +kernel
theorem dX9_node_21 : decode cX9_node 21 = .ok (.bipush (-2), 2) := by decide +kernel
theorem dX9_node_23 : decode cX9_node 23 = .ok (.goto 29, 3) := by decide +kernel
theorem dX9_node_26 : decode cX9_node 26 = .ok (.aload_n 0, 1) := by decide +kernel
theorem dX9_node_27 : decode cX9_node 27 = .ok (.getfield 25, 3) := by decide +kernel
theorem dX9_node_30 : decode cX9_node 30 = .ok (.bipush 20, 2) := by decide +kernel
theorem dX9_node_32 : decode cX9_node 32 = .ok (.iload_n 1, 1) := by decide +kernel
theorem dX9_node_33 : decode cX9_node 33 = .ok (.iadd, 1) := by decide +kernel
theorem dX9_node_34 : decode cX9_node 34 = .ok (.iaload, 1) := by decide +kernel
theorem dX9_node_35 : decode cX9_node 35 = .ok (.iconst 1, 1) := by decide +kernel
theorem dX9_node_36 : decode cX9_node 36 = .ok (.if_icmp .le 7, 3) := by decide +kernel
theorem dX9_node_39 : decode cX9_node 39 = .ok (.iconst 2, 1) := by decide +kernel
theorem dX9_node_40 : decode cX9_node 40 = .ok (.goto 12, 3) := by decide +kernel
theorem dX9_node_43 : decode cX9_node 43 = .ok (.aload_n 0, 1) := by decide +kernel
theorem dX9_node_44 : decode cX9_node 44 = .ok (.getfield 25, 3) := by decide +kernel
theorem dX9_node_47 : decode cX9_node 47 = .ok (.bipush 20, 2) := by decide +kernel
theorem dX9_node_49 : decode cX9_node 49 = .ok (.iload_n 1, 1) := by decide +kernel
theorem dX9_node_50 : decode cX9_node 50 = .ok (.iadd, 1) := by decide +kernel
theorem dX9_node_51 : decode cX9_node 51 = .ok (.iaload, 1) := by decide +kernel
theorem dX9_node_52 : decode cX9_node 52 = .ok (.ireturn, 1) := by decide +kernel
theorem dX9_nodeOf_0 : decode cX9_nodeOf 0 = .ok (.iload_n 0, 1) := by decide +kernel
theorem dX9_nodeOf_1 : decode cX9_nodeOf 1 = .ok (.iconst 2, 1) := by decide +kernel
theorem dX9_nodeOf_2 : decode cX9_nodeOf 2 = .ok (.ishr, 1) := by decide +kernel
theorem dX9_nodeOf_3 : decode cX9_nodeOf 3 = .ok (.sipush 255, 3) := by decide +kernel
theorem dX9_nodeOf_6 : decode cX9_nodeOf 6 = .ok (.iand, 1) := by decide +kernel
theorem dX9_nodeOf_7 : decode cX9_nodeOf 7 = .ok (.ireturn, 1) := by decide +kernel
theorem dX9_notNode_0 : decode cX9_notNode 0 = .ok (.aload_n 0, 1) := by decide +kernel
theorem dX9_notNode_1 : decode cX9_notNode 1 = .ok (.iload_n 1, 1) := by decide +kernel
theorem dX9_notNode_2 : decode cX9_notNode 2 = .ok (.iload_n 2, 1) := by decide +kernel
theorem dX9_notNode_3 : decode cX9_notNode 3 = .ok (.invokevirtual 167, 3) := by decide +kernel
theorem dX9_notNode_6 : decode cX9_notNode 6 = .ok (.iconst 3, 1) := by decide +kernel
theorem dX9_notNode_7 : decode cX9_notNode 7 = .ok (.iand, 1) := by decide +kernel
theorem dX9_notNode_8 : decode cX9_notNode 8 = .ok (.istore_n 3, 1) := by decide +kernel
theorem dX9_notNode_9 : decode cX9_notNode 9 = .ok (.iload_n 3, 1) := by decide +kernel
theorem dX9_notNode_10 : decode cX9_notNode 10 = .ok (.ifCond .ne 7, 3) := by decide +kernel
theorem dX9_notNode_13 : decode cX9_notNode 13 = .ok (.iconst 1, 1) := by decide +kernel
theorem dX9_notNode_14 : decode cX9_notNode 14 = .ok (.goto 13, 3) := by decide +kernel
theorem dX9_notNode_17 : decode cX9_notNode 17 = .ok (.iload_n 3, 1) := by decide +kernel
theorem dX9_notNode_18 : decode cX9_notNode 18 = .ok (.iconst 1, 1) := by decide +kernel
theorem dX9_notNode_19 : decode cX9_notNode 19 = .ok (.if_icmp .ne 7, 3) := by decide +kernel
theorem dX9_notNode_22 : decode cX9_notNode 22 = .ok (.iconst 2, 1) := by decide +kernel
theorem dX9_notNode_23 : decode cX9_notNode 23 = .ok (.goto 4, 3) := by decide +kernel
theorem dX9_notNode_26 : decode cX9_notNode 26 = .ok (.iconst 0, 1) := by decide +kernel
theorem dX9_notNode_27 : decode cX9_notNode 27 = .ok (.ireturn, 1) := by decide +kernel
theorem dX9_numberOf_0 : decode cX9_numberOf 0 = .ok (.iload_n 0, 1) := by decide +kernel
theorem dX9_numberOf_1 : decode cX9_numberOf 1 = .ok (.iconst 2, 1) := by decide +kernel
theorem dX9_numberOf_2 : decode cX9_numberOf 2 = .ok (.ishr, 1) := by decide +kernel
theorem dX9_numberOf_3 : decode cX9_numberOf 3 = .ok (.sipush 255, 3) := by decide +kernel
theorem dX9_numberOf_6 : decode cX9_numberOf 6 = .ok (.iand, 1) := by decide +kernel
theorem dX9_numberOf_7 : decode cX9_numberOf 7 = .ok (.bipush 99, 2) := by decide +kernel
theorem dX9_numberOf_9 : decode cX9_numberOf 9 = .ok (.isub, 1) := by decide +kernel
theorem dX9_numberOf_10 : decode cX9_numberOf 10 = .ok (.ireturn, 1) := by decide +kernel
theorem dX9_opAt_0 : decode cX9_opAt 0 = .ok (.aload_n 0, 1) := by decide +kernel
theorem dX9_opAt_1 : decode cX9_opAt 1 = .ok (.iload_n 1, 1) := by decide +kernel
theorem dX9_opAt_2 : decode cX9_opAt 2 = .ok (.invokevirtual 144, 3) := by decide +kernel
theorem dX9_opAt_5 : decode cX9_opAt 5 = .ok (.istore_n 2, 1) := by decide +kernel
theorem dX9_opAt_6 : decode cX9_opAt 6 = .ok (.aload_n 0, 1) := by decide +kernel
theorem dX9_opAt_7 : decode cX9_opAt 7 = .ok (.getfield 16, 3) := by decide +kernel
theorem dX9_opAt_10 : decode cX9_opAt 10 = .ok (.iload_n 1, 1) := by decide +kernel
theorem dX9_opAt_11 : decode cX9_opAt 11 = .ok (.invokestatic 122, 3) := by decide +kernel
theorem dX9_opAt_14 : decode cX9_opAt 14 = .ok (.iconst 2, 1) := by decide +kernel
theorem dX9_opAt_15 : decode cX9_opAt 15 = .ok (.iadd, 1) := by decide +kernel
theorem dX9_opAt_16 : decode cX9_opAt 16 = .ok (.iaload, 1) := by decide +kernel
theorem dX9_opAt_17 : decode cX9_opAt 17 = .ok (.istore_n 3, 1) := by decide +kernel
theorem dX9_opAt_18 : decode cX9_opAt 18 = .ok (.iload_n 3, 1) := by decide +kernel
theorem dX9_opAt_19 : decode cX9_opAt 19 = .ok (.aload_n 0, 1) := by decide +kernel
theorem dX9_opAt_20 : decode cX9_opAt 20 = .ok (.getfield 13, 3) := by decide +kernel
theorem dX9_opAt_23 : decode cX9_opAt 23 = .ok (.iconst 0, 1) := by decide +kernel
theorem dX9_opAt_24 : decode cX9_opAt 24 = .ok (.iload_n 2, 1) := by decide +kernel
theorem dX9_opAt_25 : decode cX9_opAt 25 = .ok (.iadd, 1) := by decide +kernel
theorem dX9_opAt_26 : decode cX9_opAt 26 = .ok (.iaload, 1) := by decide +kernel
theorem dX9_opAt_27 : decode cX9_opAt 27 = .ok (.if_icmp .ge 22, 3) := by decide +kernel
theorem dX9_opAt_30 : decode cX9_opAt 30 = .ok (.aload_n 0, 1) := by decide +kernel
theorem dX9_opAt_31 : decode cX9_opAt 31 = .ok (.getfield 13, 3) := by decide +kernel
theorem dX9_opAt_34 : decode cX9_opAt 34 = .ok (.bipush 6, 2) := by decide +kernel
theorem dX9_opAt_36 : decode cX9_opAt 36 = .ok (.bipush 120, 2) := by decide +kernel
theorem dX9_opAt_38 : decode cX9_opAt 38 = .ok (.iload_n 2, 1) := by decide +kernel
theorem dX9_opAt_39 : decode cX9_opAt 39 = .ok (.imul, 1) := by decide +kernel
theorem dX9_opAt_40 : decode cX9_opAt 40 = .ok (.iadd, 1) := by decide +kernel
theorem dX9_opAt_41 : decode cX9_opAt 41 = .ok (.iconst 4, 1) := by decide +kernel
theorem dX9_opAt_42 : decode cX9_opAt 42 = .ok (.iload_n 3, 1) := by decide +kernel
theorem dX9_opAt_43 : decode cX9_opAt 43 = .ok (.imul, 1) := by decide +kernel
theorem dX9_opAt_44 : decode cX9_opAt 44 = .ok (.iadd, 1) := by decide +kernel
theorem dX9_opAt_45 : decode cX9_opAt 45 = .ok (.iaload, 1) := by decide +kernel
theorem dX9_opAt_46 : decode cX9_opAt 46 = .ok (.goto 4, 3) := by decide +kernel
theorem dX9_opAt_49 : decode cX9_opAt 49 = .ok (.iconst (-1), 1) := by decide +kernel
theorem dX9_opAt_50 : decode cX9_opAt 50 = .ok (.ireturn, 1) := by decide +kernel
theorem dX9_other_0 : decode cX9_other 0 = .ok (.iload_n 1, 1) := by decide +kernel
theorem dX9_other_1 : decode cX9_other 1 = .ok (.invokestatic 122, 3) := by decide +kernel
theorem dX9_other_4 : decode cX9_other 4 = .ok (.istore 5, 2) := by decide +kernel
theorem dX9_other_6 : decode cX9_other 6 = .ok (.iload_n 2, 1) := by decide +kernel
theorem dX9_other_7 : decode cX9_other 7 = .ok (.tableswitch 313 8 13 #[37, 145, 210, 257, 282, 299], 37) := by decide +kernel
theorem dX9_other_44 : decode cX9_other 44 = .ok (.iconst 0, 1) := by decide +kernel
theorem dX9_other_45 : decode cX9_other 45 = .ok (.istore 6, 2) := by decide +kernel
theorem dX9_other_47 : decode cX9_other 47 = .ok (.iload 6, 2) := by decide +kernel
theorem dX9_other_49 : decode cX9_other 49 = .ok (.bipush 6, 2) := by decide +kernel
theorem dX9_other_51 : decode cX9_other 51 = .ok (.if_icmp .ge 22, 3) := by decide +kernel
theorem dX9_other_54 : decode cX9_other 54 = .ok (.aload_n 0, 1) := by decide +kernel
theorem dX9_other_55 : decode cX9_other 55 = .ok (.getfield 16, 3) := by decide +kernel
theorem dX9_other_58 : decode cX9_other 58 = .ok (.bipush 20, 2) := by decide +kernel
theorem dX9_other_60 : decode cX9_other 60 = .ok (.iload 6, 2) := by decide +kernel
theorem dX9_other_62 : decode cX9_other 62 = .ok (.iadd, 1) := by decide +kernel
theorem dX9_other_63 : decode cX9_other 63 = .ok (.iaload, 1) := by decide +kernel
theorem dX9_other_64 : decode cX9_other 64 = .ok (.ifCond .eq 9, 3) := by decide +kernel
theorem dX9_other_67 : decode cX9_other 67 = .ok (.iinc 6 1, 3) := by decide +kernel
theorem dX9_other_70 : decode cX9_other 70 = .ok (.goto (-23), 3) := by decide +kernel
theorem dX9_other_73 : decode cX9_other 73 = .ok (.aload_n 0, 1) := by decide +kernel
theorem dX9_other_74 : decode cX9_other 74 = .ok (.iload_n 1, 1) := by decide +kernel
theorem dX9_other_75 : decode cX9_other 75 = .ok (.iload_n 3, 1) := by decide +kernel
theorem dX9_other_76 : decode cX9_other 76 = .ok (.iload 6, 2) := by decide +kernel
theorem dX9_other_78 : decode cX9_other 78 = .ok (.bipush 6, 2) := by decide +kernel
theorem dX9_other_80 : decode cX9_other 80 = .ok (.if_icmp .ge 11, 3) := by decide +kernel
theorem dX9_other_83 : decode cX9_other 83 = .ok (.iload 6, 2) := by decide +kernel
theorem dX9_other_85 : decode cX9_other 85 = .ok (.invokestatic 222, 3) := by decide +kernel
theorem dX9_other_88 : decode cX9_other 88 = .ok (.goto 4, 3) := by decide +kernel
theorem dX9_other_91 : decode cX9_other 91 = .ok (.iconst 0, 1) := by decide +kernel
theorem dX9_other_92 : decode cX9_other 92 = .ok (.invokevirtual 147, 3) := by decide +kernel
theorem dX9_other_95 : decode cX9_other 95 = .ok (.iload 6, 2) := by decide +kernel
theorem dX9_other_97 : decode cX9_other 97 = .ok (.bipush 6, 2) := by decide +kernel
theorem dX9_other_99 : decode cX9_other 99 = .ok (.if_icmp .ge 221, 3) := by decide +kernel
theorem dX9_other_102 : decode cX9_other 102 = .ok (.aload_n 0, 1) := by decide +kernel
theorem dX9_other_103 : decode cX9_other 103 = .ok (.getfield 16, 3) := by decide +kernel
theorem dX9_other_106 : decode cX9_other 106 = .ok (.bipush 20, 2) := by decide +kernel
theorem dX9_other_108 : decode cX9_other 108 = .ok (.iload 6, 2) := by decide +kernel
theorem dX9_other_110 : decode cX9_other 110 = .ok (.iadd, 1) := by decide +kernel
theorem dX9_other_111 : decode cX9_other 111 = .ok (.iconst 1, 1) := by decide +kernel
theorem dX9_other_112 : decode cX9_other 112 = .ok (.iastore, 1) := by decide +kernel
theorem dX9_other_113 : decode cX9_other 113 = .ok (.aload_n 0, 1) := by decide +kernel
theorem dX9_other_114 : decode cX9_other 114 = .ok (.getfield 16, 3) := by decide +kernel
theorem dX9_other_117 : decode cX9_other 117 = .ok (.bipush 8, 2) := by decide +kernel
theorem dX9_other_119 : decode cX9_other 119 = .ok (.iconst 2, 1) := by decide +kernel
theorem dX9_other_120 : decode cX9_other 120 = .ok (.iload 6, 2) := by decide +kernel
theorem dX9_other_122 : decode cX9_other 122 = .ok (.imul, 1) := by decide +kernel
theorem dX9_other_123 : decode cX9_other 123 = .ok (.iadd, 1) := by decide +kernel
theorem dX9_other_124 : decode cX9_other 124 = .ok (.dup2, 1) := by decide +kernel
theorem dX9_other_125 : decode cX9_other 125 = .ok (.iaload, 1) := by decide +kernel
theorem dX9_other_126 : decode cX9_other 126 = .ok (.sipush (-2048), 3) := by decide +kernel
theorem dX9_other_129 : decode cX9_other 129 = .ok (.iand, 1) := by decide +kernel
theorem dX9_other_130 : decode cX9_other 130 = .ok (.iastore, 1) := by decide +kernel
theorem dX9_other_131 : decode cX9_other 131 = .ok (.aload_n 0, 1) := by decide +kernel
theorem dX9_other_132 : decode cX9_other 132 = .ok (.getfield 16, 3) := by decide +kernel
theorem dX9_other_135 : decode cX9_other 135 = .ok (.bipush 9, 2) := by decide +kernel
theorem dX9_other_137 : decode cX9_other 137 = .ok (.iconst 2, 1) := by decide +kernel
theorem dX9_other_138 : decode cX9_other 138 = .ok (.iload 6, 2) := by decide +kernel
theorem dX9_other_140 : decode cX9_other 140 = .ok (.imul, 1) := by decide +kernel
theorem dX9_other_141 : decode cX9_other 141 = .ok (.iadd, 1) := by decide +kernel
theorem dX9_other_142 : decode cX9_other 142 = .ok (.dup2, 1) := by decide +kernel
theorem dX9_other_143 : decode cX9_other 143 = .ok (.iaload, 1) := by decide +kernel
theorem dX9_other_144 : decode cX9_other 144 = .ok (.sipush (-2048), 3) := by decide +kernel
theorem dX9_other_147 : decode cX9_other 147 = .ok (.iand, 1) := by decide +kernel
theorem dX9_other_148 : decode cX9_other 148 = .ok (.iastore, 1) := by decide +kernel
theorem dX9_other_149 : decode cX9_other 149 = .ok (.goto 171, 3) := by decide +kernel
theorem dX9_other_152 : decode cX9_other 152 = .ok (.aload_n 0, 1) := by decide +kernel
theorem dX9_other_153 : decode cX9_other 153 = .ok (.getfield 16, 3) := by decide +kernel
theorem dX9_other_156 : decode cX9_other 156 = .ok (.bipush 20, 2) := by decide +kernel
theorem dX9_other_158 : decode cX9_other 158 = .ok (.aload_n 0, 1) := by decide +kernel
theorem dX9_other_159 : decode cX9_other 159 = .ok (.iload_n 1, 1) := by decide +kernel
theorem dX9_other_160 : decode cX9_other 160 = .ok (.iload_n 3, 1) := by decide +kernel
theorem dX9_other_161 : decode cX9_other 161 = .ok (.invokevirtual 167, 3) := by decide +kernel
theorem dX9_other_164 : decode cX9_other 164 = .ok (.invokestatic 183, 3) := by decide +kernel
theorem dX9_other_167 : decode cX9_other 167 = .ok (.iadd, 1) := by decide +kernel
theorem dX9_other_168 : decode cX9_other 168 = .ok (.aload_n 0, 1) := by decide +kernel
theorem dX9_other_169 : decode cX9_other 169 = .ok (.getfield 13, 3) := by decide +kernel
theorem dX9_other_172 : decode cX9_other 172 = .ok (.sipush 948, 3) := by decide +kernel
theorem dX9_other_175 : decode cX9_other 175 = .ok (.iaload, 1) := by decide +kernel
theorem dX9_other_176 : decode cX9_other 176 = .ok (.iconst 1, 1) := by decide +kernel
theorem dX9_other_177 : decode cX9_other 177 = .ok (.if_icmp .eq 15, 3) := by decide +kernel
theorem dX9_other_180 : decode cX9_other 180 = .ok (.aload_n 0, 1) := by decide +kernel
theorem dX9_other_181 : decode cX9_other 181 = .ok (.getfield 13, 3) := by decide +kernel
theorem dX9_other_184 : decode cX9_other 184 = .ok (.sipush 948, 3) := by decide +kernel
theorem dX9_other_187 : decode cX9_other 187 = .ok (.iaload, 1) := by decide +kernel
theorem dX9_other_188 : decode cX9_other 188 = .ok (.iconst 2, 1) := by decide +kernel
theorem dX9_other_189 : decode cX9_other 189 = .ok (.if_icmp .ne 7, 3) := by decide +kernel
theorem dX9_other_192 : decode cX9_other 192 = .ok (.iconst 0, 1) := by decide +kernel
theorem dX9_other_193 : decode cX9_other 193 = .ok (.goto 12, 3) := by decide +kernel
theorem dX9_other_196 : decode cX9_other 196 = .ok (.iconst 2, 1) := by decide +kernel
theorem dX9_other_197 : decode cX9_other 197 = .ok (.aload_n 0, 1) := by decide +kernel
theorem dX9_other_198 : decode cX9_other 198 = .ok (.getfield 16, 3) := by decide +kernel
theorem dX9_other_201 : decode cX9_other 201 = .ok (.bipush 26, 2) := by decide +kernel
theorem dX9_other_203 : decode cX9_other 203 = .ok (.iaload, 1) := by decide +kernel
theorem dX9_other_204 : decode cX9_other 204 = .ok (.iadd, 1) := by decide +kernel
theorem dX9_other_205 : decode cX9_other 205 = .ok (.iastore, 1) := by decide +kernel
theorem dX9_other_206 : decode cX9_other 206 = .ok (.aload_n 0, 1) := by decide +kernel
theorem dX9_other_207 : decode cX9_other 207 = .ok (.invokevirtual 225, 3) := by decide +kernel
theorem dX9_other_210 : decode cX9_other 210 = .ok (.aload_n 0, 1) := by decide +kernel
theorem dX9_other_211 : decode cX9_other 211 = .ok (.invokevirtual 228, 3) := by decide +kernel
theorem dX9_other_214 : decode cX9_other 214 = .ok (.goto 106, 3) := by decide +kernel
theorem dX9_other_217 : decode cX9_other 217 = .ok (.aload_n 0, 1) := by decide +kernel
theorem dX9_other_218 : decode cX9_other 218 = .ok (.getfield 16, 3) := by decide +kernel
theorem dX9_other_221 : decode cX9_other 221 = .ok (.iload 5, 2) := by decide +kernel
theorem dX9_other_223 : decode cX9_other 223 = .ok (.iconst 5, 1) := by decide +kernel
theorem dX9_other_224 : decode cX9_other 224 = .ok (.iadd, 1) := by decide +kernel
theorem dX9_other_225 : decode cX9_other 225 = .ok (.iload_n 3, 1) := by decide +kernel
theorem dX9_other_226 : decode cX9_other 226 = .ok (.iadd, 1) := by decide +kernel
theorem dX9_other_227 : decode cX9_other 227 = .ok (.aload_n 0, 1) := by decide +kernel
theorem dX9_other_228 : decode cX9_other 228 = .ok (.iload_n 1, 1) := by decide +kernel
theorem dX9_other_229 : decode cX9_other 229 = .ok (.iload 4, 2) := by decide +kernel
theorem dX9_other_231 : decode cX9_other 231 = .ok (.invokevirtual 167, 3) := by decide +kernel
theorem dX9_other_234 : decode cX9_other 234 = .ok (.iconst 3, 1) := by decide +kernel
theorem dX9_other_235 : decode cX9_other 235 = .ok (.iand, 1) := by decide +kernel
theorem dX9_other_236 : decode cX9_other 236 = .ok (.iconst 2, 1) := by decide +kernel
theorem dX9_other_237 : decode cX9_other 237 = .ok (.if_icmp .ne 18, 3) := by decide +kernel
theorem dX9_other_240 : decode cX9_other 240 = .ok (.aload_n 0, 1) := by decide +kernel
theorem dX9_other_241 : decode cX9_other 241 = .ok (.iload_n 1, 1) := by decide +kernel
theorem dX9_other_242 : decode cX9_other 242 = .ok (.iload 4, 2) := by decide +kernel
theorem dX9_other_244 : decode cX9_other 244 = .ok (.invokevirtual 167, 3) := by decide +kernel
theorem dX9_other_247 : decode cX9_other 247 = .ok (.invokestatic 183, 3) := by decide +kernel
theorem dX9_other_250 : decode cX9_other 250 = .ok (.iconst 1, 1) := by decide +kernel
theorem dX9_other_251 : decode cX9_other 251 = .ok (.iadd, 1) := by decide +kernel
theorem dX9_other_252 : decode cX9_other 252 = .ok (.goto 4, 3) := by decide +kernel
theorem dX9_other_255 : decode cX9_other 255 = .ok (.iconst 0, 1) := by decide +kernel
theorem dX9_other_256 : decode cX9_other 256 = .ok (.iastore, 1) := by decide +kernel
theorem dX9_other_257 : decode cX9_other 257 = .ok (.aload_n 0, 1) := by decide +kernel
theorem dX9_other_258 : decode cX9_other 258 = .ok (.invokevirtual 225, 3) := by decide +kernel
theorem dX9_other_261 : decode cX9_other 261 = .ok (.goto 59, 3) := by decide +kernel
theorem dX9_other_264 : decode cX9_other 264 = .ok (.aload_n 0, 1) := by decide +kernel
theorem dX9_other_265 : decode cX9_other 265 = .ok (.getfield 16, 3) := by decide +kernel
theorem dX9_other_268 : decode cX9_other 268 = .ok (.iload 5, 2) := by decide +kernel
theorem dX9_other_270 : decode cX9_other 270 = .ok (.iconst 4, 1) := by decide +kernel
theorem dX9_other_271 : decode cX9_other 271 = .ok (.iadd, 1) := by decide +kernel
theorem dX9_other_272 : decode cX9_other 272 = .ok (.aload_n 0, 1) := by decide +kernel
theorem dX9_other_273 : decode cX9_other 273 = .ok (.getfield 16, 3) := by decide +kernel
theorem dX9_other_276 : decode cX9_other 276 = .ok (.bipush 26, 2) := by decide +kernel
theorem dX9_other_278 : decode cX9_other 278 = .ok (.iaload, 1) := by decide +kernel
theorem dX9_other_279 : decode cX9_other 279 = .ok (.iconst 1, 1) := by decide +kernel
theorem dX9_other_280 : decode cX9_other 280 = .ok (.iadd, 1) := by decide +kernel
theorem dX9_other_281 : decode cX9_other 281 = .ok (.iastore, 1) := by decide +kernel
theorem dX9_other_282 : decode cX9_other 282 = .ok (.aload_n 0, 1) := by decide +kernel
theorem dX9_other_283 : decode cX9_other 283 = .ok (.invokevirtual 228, 3) := by decide +kernel
theorem dX9_other_286 : decode cX9_other 286 = .ok (.goto 34, 3) := by decide +kernel
theorem dX9_other_289 : decode cX9_other 289 = .ok (.aload_n 0, 1) := by decide +kernel
theorem dX9_other_290 : decode cX9_other 290 = .ok (.getfield 16, 3) := by decide +kernel
theorem dX9_other_293 : decode cX9_other 293 = .ok (.iload 5, 2) := by decide +kernel
theorem dX9_other_295 : decode cX9_other 295 = .ok (.iconst 4, 1) := by decide +kernel
theorem dX9_other_296 : decode cX9_other 296 = .ok (.iadd, 1) := by decide +kernel
theorem dX9_other_297 : decode cX9_other 297 = .ok (.iconst 0, 1) := by decide +kernel
theorem dX9_other_298 : decode cX9_other 298 = .ok (.iastore, 1) := by decide +kernel
theorem dX9_other_299 : decode cX9_other 299 = .ok (.aload_n 0, 1) := by decide +kernel
theorem dX9_other_300 : decode cX9_other 300 = .ok (.invokevirtual 228, 3) := by decide +kernel
theorem dX9_other_303 : decode cX9_other 303 = .ok (.goto 17, 3) := by decide +kernel
theorem dX9_other_306 : decode cX9_other 306 = .ok (.aload_n 0, 1) := by decide +kernel
theorem dX9_other_307 : decode cX9_other 307 = .ok (.iload_n 1, 1) := by decide +kernel
theorem dX9_other_308 : decode cX9_other 308 = .ok (.aload_n 0, 1) := by decide +kernel
theorem dX9_other_309 : decode cX9_other 309 = .ok (.iload_n 1, 1) := by decide +kernel
theorem dX9_other_310 : decode cX9_other 310 = .ok (.iload_n 3, 1) := by decide +kernel
theorem dX9_other_311 : decode cX9_other 311 = .ok (.invokevirtual 167, 3) := by decide +kernel
theorem dX9_other_314 : decode cX9_other 314 = .ok (.invokevirtual 231, 3) := by decide +kernel
theorem dX9_other_317 : decode cX9_other 317 = .ok (.goto 3, 3) := by decide +kernel
theorem dX9_other_320 : decode cX9_other 320 = .ok (.return_, 1) := by decide +kernel
theorem dX9_own_0 : decode cX9_own 0 = .ok (.iload_n 1, 1) := by decide +kernel
theorem dX9_own_1 : decode cX9_own 1 = .ok (.invokestatic 122, 3) := by decide +kernel
theorem dX9_own_4 : decode cX9_own 4 = .ok (.istore_n 2, 1) := by decide +kernel
theorem dX9_own_5 : decode cX9_own 5 = .ok (.aload_n 0, 1) := by decide +kernel
theorem dX9_own_6 : decode cX9_own 6 = .ok (.iload_n 1, 1) := by decide +kernel
theorem dX9_own_7 : decode cX9_own 7 = .ok (.invokevirtual 154, 3) := by decide +kernel
theorem dX9_own_10 : decode cX9_own 10 = .ok (.istore_n 3, 1) := by decide +kernel
theorem dX9_own_11 : decode cX9_own 11 = .ok (.aload_n 0, 1) := by decide +kernel
theorem dX9_own_12 : decode cX9_own 12 = .ok (.iload_n 1, 1) := by decide +kernel
theorem dX9_own_13 : decode cX9_own 13 = .ok (.iconst 1, 1) := by decide +kernel
theorem dX9_own_14 : decode cX9_own 14 = .ok (.invokevirtual 163, 3) := by decide +kernel
theorem dX9_own_17 : decode cX9_own 17 = .ok (.istore 4, 2) := by decide +kernel
theorem dX9_own_19 : decode cX9_own 19 = .ok (.aload_n 0, 1) := by decide +kernel
theorem dX9_own_20 : decode cX9_own 20 = .ok (.iload_n 1, 1) := by decide +kernel
theorem dX9_own_21 : decode cX9_own 21 = .ok (.iconst 2, 1) := by decide +kernel
theorem dX9_own_22 : decode cX9_own 22 = .ok (.invokevirtual 163, 3) := by decide +kernel
theorem dX9_own_25 : decode cX9_own 25 = .ok (.istore 5, 2) := by decide +kernel
theorem dX9_own_27 : decode cX9_own 27 = .ok (.iload_n 3, 1) := by decide +kernel
theorem dX9_own_28 : decode cX9_own 28 = .ok (.bipush 26, 2) := by decide +kernel
theorem dX9_own_30 : decode cX9_own 30 = .ok (.if_icmp .ne 15, 3) := by decide +kernel
theorem dX9_own_33 : decode cX9_own 33 = .ok (.aload_n 0, 1) := by decide +kernel
theorem dX9_own_34 : decode cX9_own 34 = .ok (.iload_n 1, 1) := by decide +kernel
theorem dX9_own_35 : decode cX9_own 35 = .ok (.iload 4, 2) := by decide +kernel
theorem dX9_own_37 : decode cX9_own 37 = .ok (.invokevirtual 167, 3) := by decide +kernel
theorem dX9_own_40 : decode cX9_own 40 = .ok (.iconst 3, 1) := by decide +kernel
theorem dX9_own_41 : decode cX9_own 41 = .ok (.iand, 1) := by decide +kernel
theorem dX9_own_42 : decode cX9_own 42 = .ok (.goto 4, 3) := by decide +kernel
theorem dX9_own_45 : decode cX9_own 45 = .ok (.iconst 1, 1) := by decide +kernel
theorem dX9_own_46 : decode cX9_own 46 = .ok (.istore 6, 2) := by decide +kernel
theorem dX9_own_48 : decode cX9_own 48 = .ok (.iload 6, 2) := by decide +kernel
theorem dX9_own_50 : decode cX9_own 50 = .ok (.iconst 1, 1) := by decide +kernel
theorem dX9_own_51 : decode cX9_own 51 = .ok (.if_icmp .ne 12, 3) := by decide +kernel
theorem dX9_own_54 : decode cX9_own 54 = .ok (.aload_n 0, 1) := by decide +kernel
theorem dX9_own_55 : decode cX9_own 55 = .ok (.getfield 170, 3) := by decide +kernel
theorem dX9_own_58 : decode cX9_own 58 = .ok (.bipush 30, 2) := by decide +kernel
theorem dX9_own_60 : decode cX9_own 60 = .ok (.if_icmp .ne 30, 3) := by decide +kernel
theorem dX9_own_63 : decode cX9_own 63 = .ok (.aload_n 0, 1) := by decide +kernel
theorem dX9_own_64 : decode cX9_own 64 = .ok (.iload_n 1, 1) := by decide +kernel
theorem dX9_own_65 : decode cX9_own 65 = .ok (.iload 6, 2) := by decide +kernel
theorem dX9_own_67 : decode cX9_own 67 = .ok (.ifCond .ne 7, 3) := by decide +kernel
theorem dX9_own_70 : decode cX9_own 70 = .ok (.iconst 1, 1) := by decide +kernel
theorem dX9_own_71 : decode cX9_own 71 = .ok (.goto 15, 3) := by decide +kernel
theorem dX9_own_74 : decode cX9_own 74 = .ok (.iload 6, 2) := by decide +kernel
theorem dX9_own_76 : decode cX9_own 76 = .ok (.iconst 2, 1) := by decide +kernel
theorem dX9_own_77 : decode cX9_own 77 = .ok (.if_icmp .ne 7, 3) := by decide +kernel
theorem dX9_own_80 : decode cX9_own 80 = .ok (.iconst 2, 1) := by decide +kernel
theorem dX9_own_81 : decode cX9_own 81 = .ok (.goto 5, 3) := by decide +kernel
theorem dX9_own_84 : decode cX9_own 84 = .ok (.bipush 6, 2) := by decide +kernel
theorem dX9_own_86 : decode cX9_own 86 = .ok (.invokevirtual 174, 3) := by decide +kernel
theorem dX9_own_89 : decode cX9_own 89 = .ok (.return_, 1) := by decide +kernel
theorem dX9_own_90 : decode cX9_own 90 = .ok (.aload_n 0, 1) := by decide +kernel
theorem dX9_own_91 : decode cX9_own 91 = .ok (.dup, 1) := by decide +kernel
theorem dX9_own_92 : decode cX9_own 92 = .ok (.getfield 170, 3) := by decide +kernel
theorem dX9_own_95 : decode cX9_own 95 = .ok (.iconst 1, 1) := by decide +kernel
theorem dX9_own_96 : decode cX9_own 96 = .ok (.iadd, 1) := by decide +kernel
theorem dX9_own_97 : decode cX9_own 97 = .ok (.putfield 170, 3) := by decide +kernel
theorem dX9_own_100 : decode cX9_own 100 = .ok (.aload_n 0, 1) := by decide +kernel
theorem dX9_own_101 : decode cX9_own 101 = .ok (.getfield 16, 3) := by decide +kernel
theorem dX9_own_104 : decode cX9_own 104 = .ok (.iload_n 2, 1) := by decide +kernel
theorem dX9_own_105 : decode cX9_own 105 = .ok (.iconst 2, 1) := by decide +kernel
theorem dX9_own_106 : decode cX9_own 106 = .ok (.iadd, 1) := by decide +kernel
theorem dX9_own_107 : decode cX9_own 107 = .ok (.iaload, 1) := by decide +kernel
theorem dX9_own_108 : decode cX9_own 108 = .ok (.iconst 1, 1) := by decide +kernel
theorem dX9_own_109 : decode cX9_own 109 = .ok (.iadd, 1) := by decide +kernel
theorem dX9_own_110 : decode cX9_own 110 = .ok (.istore 7, 2) := by decide +kernel
theorem dX9_own_112 : decode cX9_own 112 = .ok (.iload_n 3, 1) := by decide +kernel
theorem dX9_own_113 : decode cX9_own 113 = .ok (.tableswitch 164 20 25 #[39, 54, 65, 82, 121, 128], 39) := by decide +kernel
theorem dX9_own_152 : decode cX9_own 152 = .ok (.aload_n 0, 1) := by decide +kernel
theorem dX9_own_153 : decode cX9_own 153 = .ok (.iload_n 1, 1) := by decide +kernel
theorem dX9_own_154 : decode cX9_own 154 = .ok (.iload 4, 2) := by decide +kernel
theorem dX9_own_156 : decode cX9_own 156 = .ok (.iload 5, 2) := by decide +kernel
theorem dX9_own_158 : decode cX9_own 158 = .ok (.invokestatic 151, 3) := by decide +kernel
theorem dX9_own_161 : decode cX9_own 161 = .ok (.invokevirtual 147, 3) := by decide +kernel
theorem dX9_own_164 : decode cX9_own 164 = .ok (.goto 136, 3) := by decide +kernel
theorem dX9_own_167 : decode cX9_own 167 = .ok (.aload_n 0, 1) := by decide +kernel
theorem dX9_own_168 : decode cX9_own 168 = .ok (.iload_n 1, 1) := by decide +kernel
theorem dX9_own_169 : decode cX9_own 169 = .ok (.iload 4, 2) := by decide +kernel
theorem dX9_own_171 : decode cX9_own 171 = .ok (.iconst 0, 1) := by decide +kernel
theorem dX9_own_172 : decode cX9_own 172 = .ok (.invokevirtual 147, 3) := by decide +kernel
theorem dX9_own_175 : decode cX9_own 175 = .ok (.goto 125, 3) := by decide +kernel
theorem dX9_own_178 : decode cX9_own 178 = .ok (.aload_n 0, 1) := by decide +kernel
theorem dX9_own_179 : decode cX9_own 179 = .ok (.iload_n 1, 1) := by decide +kernel
theorem dX9_own_180 : decode cX9_own 180 = .ok (.iload 4, 2) := by decide +kernel
theorem dX9_own_182 : decode cX9_own 182 = .ok (.aload_n 0, 1) := by decide +kernel
theorem dX9_own_183 : decode cX9_own 183 = .ok (.iload_n 1, 1) := by decide +kernel
theorem dX9_own_184 : decode cX9_own 184 = .ok (.iload 5, 2) := by decide +kernel
theorem dX9_own_186 : decode cX9_own 186 = .ok (.invokevirtual 167, 3) := by decide +kernel
theorem dX9_own_189 : decode cX9_own 189 = .ok (.invokevirtual 147, 3) := by decide +kernel
theorem dX9_own_192 : decode cX9_own 192 = .ok (.goto 108, 3) := by decide +kernel
theorem dX9_own_195 : decode cX9_own 195 = .ok (.aload_n 0, 1) := by decide +kernel
theorem dX9_own_196 : decode cX9_own 196 = .ok (.iload_n 1, 1) := by decide +kernel
theorem dX9_own_197 : decode cX9_own 197 = .ok (.iload 4, 2) := by decide +kernel
theorem dX9_own_199 : decode cX9_own 199 = .ok (.invokevirtual 167, 3) := by decide +kernel
theorem dX9_own_202 : decode cX9_own 202 = .ok (.iconst 3, 1) := by decide +kernel
theorem dX9_own_203 : decode cX9_own 203 = .ok (.iand, 1) := by decide +kernel
theorem dX9_own_204 : decode cX9_own 204 = .ok (.ifCond .eq 96, 3) := by decide +kernel
theorem dX9_own_207 : decode cX9_own 207 = .ok (.aload_n 0, 1) := by decide +kernel
theorem dX9_own_208 : decode cX9_own 208 = .ok (.iload_n 1, 1) := by decide +kernel
theorem dX9_own_209 : decode cX9_own 209 = .ok (.iload 4, 2) := by decide +kernel
theorem dX9_own_211 : decode cX9_own 211 = .ok (.aload_n 0, 1) := by decide +kernel
theorem dX9_own_212 : decode cX9_own 212 = .ok (.iload_n 1, 1) := by decide +kernel
theorem dX9_own_213 : decode cX9_own 213 = .ok (.iload 4, 2) := by decide +kernel
theorem dX9_own_215 : decode cX9_own 215 = .ok (.invokevirtual 167, 3) := by decide +kernel
theorem dX9_own_218 : decode cX9_own 218 = .ok (.sipush (-1025), 3) := by decide +kernel
theorem dX9_own_221 : decode cX9_own 221 = .ok (.iand, 1) := by decide +kernel
theorem dX9_own_222 : decode cX9_own 222 = .ok (.iload 5, 2) := by decide +kernel
theorem dX9_own_224 : decode cX9_own 224 = .ok (.bipush 10, 2) := by decide +kernel
theorem dX9_own_226 : decode cX9_own 226 = .ok (.ishl, 1) := by decide +kernel
theorem dX9_own_227 : decode cX9_own 227 = .ok (.ior, 1) := by decide +kernel
theorem dX9_own_228 : decode cX9_own 228 = .ok (.invokevirtual 147, 3) := by decide +kernel
theorem dX9_own_231 : decode cX9_own 231 = .ok (.goto 69, 3) := by decide +kernel
theorem dX9_own_234 : decode cX9_own 234 = .ok (.iload 4, 2) := by decide +kernel
theorem dX9_own_236 : decode cX9_own 236 = .ok (.istore 7, 2) := by decide +kernel
theorem dX9_own_238 : decode cX9_own 238 = .ok (.goto 62, 3) := by decide +kernel
theorem dX9_own_241 : decode cX9_own 241 = .ok (.aload_n 0, 1) := by decide +kernel
theorem dX9_own_242 : decode cX9_own 242 = .ok (.iload_n 1, 1) := by decide +kernel
theorem dX9_own_243 : decode cX9_own 243 = .ok (.iload 4, 2) := by decide +kernel
theorem dX9_own_245 : decode cX9_own 245 = .ok (.invokevirtual 167, 3) := by decide +kernel
theorem dX9_own_248 : decode cX9_own 248 = .ok (.aload_n 0, 1) := by decide +kernel
theorem dX9_own_249 : decode cX9_own 249 = .ok (.iload_n 1, 1) := by decide +kernel
theorem dX9_own_250 : decode cX9_own 250 = .ok (.iload 5, 2) := by decide +kernel
theorem dX9_own_252 : decode cX9_own 252 = .ok (.invokevirtual 167, 3) := by decide +kernel
theorem dX9_own_255 : decode cX9_own 255 = .ok (.invokestatic 177, 3) := by decide +kernel
theorem dX9_own_258 : decode cX9_own 258 = .ok (.ifCond .eq 12, 3) := by decide +kernel
theorem dX9_own_261 : decode cX9_own 261 = .ok (.aload_n 0, 1) := by decide +kernel
theorem dX9_own_262 : decode cX9_own 262 = .ok (.iload_n 1, 1) := by decide +kernel
theorem dX9_own_263 : decode cX9_own 263 = .ok (.iconst 3, 1) := by decide +kernel
theorem dX9_own_264 : decode cX9_own 264 = .ok (.invokevirtual 163, 3) := by decide +kernel
theorem dX9_own_267 : decode cX9_own 267 = .ok (.goto 5, 3) := by decide +kernel
theorem dX9_own_270 : decode cX9_own 270 = .ok (.iload 7, 2) := by decide +kernel
theorem dX9_own_272 : decode cX9_own 272 = .ok (.istore 7, 2) := by decide +kernel
theorem dX9_own_274 : decode cX9_own 274 = .ok (.goto 26, 3) := by decide +kernel
theorem dX9_own_277 : decode cX9_own 277 = .ok (.aload_n 0, 1) := by decide +kernel
theorem dX9_own_278 : decode cX9_own 278 = .ok (.iload_n 1, 1) := by decide +kernel
theorem dX9_own_279 : decode cX9_own 279 = .ok (.iload 4, 2) := by decide +kernel
theorem dX9_own_281 : decode cX9_own 281 = .ok (.aload_n 0, 1) := by decide +kernel
theorem dX9_own_282 : decode cX9_own 282 = .ok (.iload_n 1, 1) := by decide +kernel
theorem dX9_own_283 : decode cX9_own 283 = .ok (.iload 4, 2) := by decide +kernel
theorem dX9_own_285 : decode cX9_own 285 = .ok (.invokevirtual 167, 3) := by decide +kernel
theorem dX9_own_288 : decode cX9_own 288 = .ok (.invokestatic 180, 3) := by decide +kernel
theorem dX9_own_291 : decode cX9_own 291 = .ok (.iload 5, 2) := by decide +kernel
theorem dX9_own_293 : decode cX9_own 293 = .ok (.iadd, 1) := by decide +kernel
theorem dX9_own_294 : decode cX9_own 294 = .ok (.invokestatic 151, 3) := by decide +kernel
theorem dX9_own_297 : decode cX9_own 297 = .ok (.invokevirtual 147, 3) := by decide +kernel
theorem dX9_own_300 : decode cX9_own 300 = .ok (.aload_n 0, 1) := by decide +kernel
theorem dX9_own_301 : decode cX9_own 301 = .ok (.getfield 16, 3) := by decide +kernel
theorem dX9_own_304 : decode cX9_own 304 = .ok (.iload_n 2, 1) := by decide +kernel
theorem dX9_own_305 : decode cX9_own 305 = .ok (.iconst 2, 1) := by decide +kernel
theorem dX9_own_306 : decode cX9_own 306 = .ok (.iadd, 1) := by decide +kernel
theorem dX9_own_307 : decode cX9_own 307 = .ok (.iload 7, 2) := by decide +kernel
theorem dX9_own_309 : decode cX9_own 309 = .ok (.iastore, 1) := by decide +kernel
theorem dX9_own_310 : decode cX9_own 310 = .ok (.return_, 1) := by decide +kernel
theorem dX9_owns_0 : decode cX9_owns 0 = .ok (.aload_n 0, 1) := by decide +kernel
theorem dX9_owns_1 : decode cX9_owns 1 = .ok (.getfield 16, 3) := by decide +kernel
theorem dX9_owns_4 : decode cX9_owns 4 = .ok (.iload_n 1, 1) := by decide +kernel
theorem dX9_owns_5 : decode cX9_owns 5 = .ok (.invokestatic 122, 3) := by decide +kernel
theorem dX9_owns_8 : decode cX9_owns 8 = .ok (.iconst 3, 1) := by decide +kernel
theorem dX9_owns_9 : decode cX9_owns 9 = .ok (.iadd, 1) := by decide +kernel
theorem dX9_owns_10 : decode cX9_owns 10 = .ok (.iaload, 1) := by decide +kernel
theorem dX9_owns_11 : decode cX9_owns 11 = .ok (.ifCond .ne 22, 3) := by decide +kernel
theorem dX9_owns_14 : decode cX9_owns 14 = .ok (.aload_n 0, 1) := by decide +kernel
theorem dX9_owns_15 : decode cX9_owns 15 = .ok (.iload_n 1, 1) := by decide +kernel
theorem dX9_owns_16 : decode cX9_owns 16 = .ok (.invokevirtual 154, 3) := by decide +kernel
theorem dX9_owns_19 : decode cX9_owns 19 = .ok (.invokestatic 157, 3) := by decide +kernel
theorem dX9_owns_22 : decode cX9_owns 22 = .ok (.ifCond .eq 11, 3) := by decide +kernel
theorem dX9_owns_25 : decode cX9_owns 25 = .ok (.aload_n 0, 1) := by decide +kernel
theorem dX9_owns_26 : decode cX9_owns 26 = .ok (.iload_n 1, 1) := by decide +kernel
theorem dX9_owns_27 : decode cX9_owns 27 = .ok (.invokevirtual 160, 3) := by decide +kernel
theorem dX9_owns_30 : decode cX9_owns 30 = .ok (.goto (-30), 3) := by decide +kernel
theorem dX9_owns_33 : decode cX9_owns 33 = .ok (.return_, 1) := by decide +kernel
theorem dX9_prepared_0 : decode cX9_prepared 0 = .ok (.iconst 0, 1) := by decide +kernel
theorem dX9_prepared_1 : decode cX9_prepared 1 = .ok (.istore_n 1, 1) := by decide +kernel
theorem dX9_prepared_2 : decode cX9_prepared 2 = .ok (.iload_n 1, 1) := by decide +kernel
theorem dX9_prepared_3 : decode cX9_prepared 3 = .ok (.bipush 100, 2) := by decide +kernel
theorem dX9_prepared_5 : decode cX9_prepared 5 = .ok (.if_icmp .ge 16, 3) := by decide +kernel
theorem dX9_prepared_8 : decode cX9_prepared 8 = .ok (.aload_n 0, 1) := by decide +kernel
theorem dX9_prepared_9 : decode cX9_prepared 9 = .ok (.getfield 16, 3) := by decide +kernel
theorem dX9_prepared_12 : decode cX9_prepared 12 = .ok (.iload_n 1, 1) := by decide +kernel
theorem dX9_prepared_13 : decode cX9_prepared 13 = .ok (.iconst 0, 1) := by decide +kernel
theorem dX9_prepared_14 : decode cX9_prepared 14 = .ok (.iastore, 1) := by decide +kernel
theorem dX9_prepared_15 : decode cX9_prepared 15 = .ok (.iinc 1 1, 3) := by decide +kernel
theorem dX9_prepared_18 : decode cX9_prepared 18 = .ok (.goto (-16), 3) := by decide +kernel
theorem dX9_prepared_21 : decode cX9_prepared 21 = .ok (.aload_n 0, 1) := by decide +kernel
theorem dX9_prepared_22 : decode cX9_prepared 22 = .ok (.iconst 1, 1) := by decide +kernel
theorem dX9_prepared_23 : decode cX9_prepared 23 = .ok (.putfield 133, 3) := by decide +kernel
theorem dX9_prepared_26 : decode cX9_prepared 26 = .ok (.iconst 0, 1) := by decide +kernel
theorem dX9_prepared_27 : decode cX9_prepared 27 = .ok (.istore_n 1, 1) := by decide +kernel
theorem dX9_prepared_28 : decode cX9_prepared 28 = .ok (.iconst 0, 1) := by decide +kernel
theorem dX9_prepared_29 : decode cX9_prepared 29 = .ok (.istore_n 2, 1) := by decide +kernel
theorem dX9_prepared_30 : decode cX9_prepared 30 = .ok (.aload_n 0, 1) := by decide +kernel
theorem dX9_prepared_31 : decode cX9_prepared 31 = .ok (.getfield 16, 3) := by decide +kernel
theorem dX9_prepared_34 : decode cX9_prepared 34 = .ok (.bipush 27, 2) := by decide +kernel
theorem dX9_prepared_36 : decode cX9_prepared 36 = .ok (.iaload, 1) := by decide +kernel
theorem dX9_prepared_37 : decode cX9_prepared 37 = .ok (.aload_n 0, 1) := by decide +kernel
theorem dX9_prepared_38 : decode cX9_prepared 38 = .ok (.getfield 13, 3) := by decide +kernel
theorem dX9_prepared_41 : decode cX9_prepared 41 = .ok (.sipush 915, 3) := by decide +kernel
theorem dX9_prepared_44 : decode cX9_prepared 44 = .ok (.iaload, 1) := by decide +kernel
theorem dX9_prepared_45 : decode cX9_prepared 45 = .ok (.if_icmp .ge 71, 3) := by decide +kernel
theorem dX9_prepared_48 : decode cX9_prepared 48 = .ok (.iload_n 1, 1) := by decide +kernel
theorem dX9_prepared_49 : decode cX9_prepared 49 = .ok (.ifCond .ne 67, 3) := by decide +kernel
theorem dX9_prepared_52 : decode cX9_prepared 52 = .ok (.aload_n 0, 1) := by decide +kernel
theorem dX9_prepared_53 : decode cX9_prepared 53 = .ok (.iconst 0, 1) := by decide +kernel
theorem dX9_prepared_54 : decode cX9_prepared 54 = .ok (.invokevirtual 246, 3) := by decide +kernel
theorem dX9_prepared_57 : decode cX9_prepared 57 = .ok (.iinc 2 1, 3) := by decide +kernel
theorem dX9_prepared_60 : decode cX9_prepared 60 = .ok (.aload_n 0, 1) := by decide +kernel
theorem dX9_prepared_61 : decode cX9_prepared 61 = .ok (.getfield 16, 3) := by decide +kernel
theorem dX9_prepared_64 : decode cX9_prepared 64 = .ok (.bipush 30, 2) := by decide +kernel
theorem dX9_prepared_66 : decode cX9_prepared 66 = .ok (.iaload, 1) := by decide +kernel
theorem dX9_prepared_67 : decode cX9_prepared 67 = .ok (.ifCond .le 13, 3) := by decide +kernel
theorem dX9_prepared_70 : decode cX9_prepared 70 = .ok (.aload_n 0, 1) := by decide +kernel
theorem dX9_prepared_71 : decode cX9_prepared 71 = .ok (.getfield 16, 3) := by decide +kernel
theorem dX9_prepared_74 : decode cX9_prepared 74 = .ok (.bipush 30, 2) := by decide +kernel
theorem dX9_prepared_76 : decode cX9_prepared 76 = .ok (.iaload, 1) := by decide +kernel
theorem dX9_prepared_77 : decode cX9_prepared 77 = .ok (.goto 22, 3) := by decide +kernel
theorem dX9_prepared_80 : decode cX9_prepared 80 = .ok (.aload_n 0, 1) := by decide +kernel
theorem dX9_prepared_81 : decode cX9_prepared 81 = .ok (.getfield 234, 3) := by decide +kernel
theorem dX9_prepared_84 : decode cX9_prepared 84 = .ok (.ifCond .ne 14, 3) := by decide +kernel
theorem dX9_prepared_87 : decode cX9_prepared 87 = .ok (.iload_n 2, 1) := by decide +kernel
theorem dX9_prepared_88 : decode cX9_prepared 88 = .ok (.bipush 60, 2) := by decide +kernel
theorem dX9_prepared_90 : decode cX9_prepared 90 = .ok (.if_icmp .ne 8, 3) := by decide +kernel
theorem dX9_prepared_93 : decode cX9_prepared 93 = .ok (.bipush 6, 2) := by decide +kernel
theorem dX9_prepared_95 : decode cX9_prepared 95 = .ok (.goto 4, 3) := by decide +kernel
theorem dX9_prepared_98 : decode cX9_prepared 98 = .ok (.iconst 0, 1) := by decide +kernel
theorem dX9_prepared_99 : decode cX9_prepared 99 = .ok (.istore_n 1, 1) := by decide +kernel
theorem dX9_prepared_100 : decode cX9_prepared 100 = .ok (.aload_n 0, 1) := by decide +kernel
theorem dX9_prepared_101 : decode cX9_prepared 101 = .ok (.getfield 234, 3) := by decide +kernel
theorem dX9_prepared_104 : decode cX9_prepared 104 = .ok (.ifCond .eq 7, 3) := by decide +kernel
theorem dX9_prepared_107 : decode cX9_prepared 107 = .ok (.iconst 0, 1) := by decide +kernel
theorem dX9_prepared_108 : decode cX9_prepared 108 = .ok (.goto 4, 3) := by decide +kernel
theorem dX9_prepared_111 : decode cX9_prepared 111 = .ok (.iload_n 2, 1) := by decide +kernel
theorem dX9_prepared_112 : decode cX9_prepared 112 = .ok (.istore_n 2, 1) := by decide +kernel
theorem dX9_prepared_113 : decode cX9_prepared 113 = .ok (.goto (-83), 3) := by decide +kernel
theorem dX9_prepared_116 : decode cX9_prepared 116 = .ok (.aload_n 0, 1) := by decide +kernel
theorem dX9_prepared_117 : decode cX9_prepared 117 = .ok (.iconst 0, 1) := by decide +kernel
theorem dX9_prepared_118 : decode cX9_prepared 118 = .ok (.putfield 133, 3) := by decide +kernel
theorem dX9_prepared_121 : decode cX9_prepared 121 = .ok (.iconst 0, 1) := by decide +kernel
theorem dX9_prepared_122 : decode cX9_prepared 122 = .ok (.istore_n 3, 1) := by decide +kernel
theorem dX9_prepared_123 : decode cX9_prepared 123 = .ok (.iload_n 3, 1) := by decide +kernel
theorem dX9_prepared_124 : decode cX9_prepared 124 = .ok (.bipush 18, 2) := by decide +kernel
theorem dX9_prepared_126 : decode cX9_prepared 126 = .ok (.if_icmp .ge 19, 3) := by decide +kernel
theorem dX9_prepared_129 : decode cX9_prepared 129 = .ok (.aload_n 0, 1) := by decide +kernel
theorem dX9_prepared_130 : decode cX9_prepared 130 = .ok (.getfield 16, 3) := by decide +kernel
theorem dX9_prepared_133 : decode cX9_prepared 133 = .ok (.bipush 27, 2) := by decide +kernel
theorem dX9_prepared_135 : decode cX9_prepared 135 = .ok (.iload_n 3, 1) := by decide +kernel
theorem dX9_prepared_136 : decode cX9_prepared 136 = .ok (.iadd, 1) := by decide +kernel
theorem dX9_prepared_137 : decode cX9_prepared 137 = .ok (.iconst 0, 1) := by decide +kernel
theorem dX9_prepared_138 : decode cX9_prepared 138 = .ok (.iastore, 1) := by decide +kernel
theorem dX9_prepared_139 : decode cX9_prepared 139 = .ok (.iinc 3 1, 3) := by decide +kernel
theorem dX9_prepared_142 : decode cX9_prepared 142 = .ok (.goto (-19), 3) := by decide +kernel
theorem dX9_prepared_145 : decode cX9_prepared 145 = .ok (.iload_n 1, 1) := by decide +kernel
theorem dX9_prepared_146 : decode cX9_prepared 146 = .ok (.ireturn, 1) := by decide +kernel
theorem dX9_returns_0 : decode cX9_returns 0 = .ok (.iload_n 1, 1) := by decide +kernel
theorem dX9_returns_1 : decode cX9_returns 1 = .ok (.invokestatic 122, 3) := by decide +kernel
theorem dX9_returns_4 : decode cX9_returns 4 = .ok (.istore_n 3, 1) := by decide +kernel
theorem dX9_returns_5 : decode cX9_returns 5 = .ok (.iload_n 2, 1) := by decide +kernel
theorem dX9_returns_6 : decode cX9_returns 6 = .ok (.iconst 3, 1) := by decide +kernel
theorem dX9_returns_7 : decode cX9_returns 7 = .ok (.iand, 1) := by decide +kernel
theorem dX9_returns_8 : decode cX9_returns 8 = .ok (.ifCond .ne 8, 3) := by decide +kernel
theorem dX9_returns_11 : decode cX9_returns 11 = .ok (.bipush (-100), 2) := by decide +kernel
theorem dX9_returns_13 : decode cX9_returns 13 = .ok (.goto 19, 3) := by decide +kernel
theorem dX9_returns_16 : decode cX9_returns 16 = .ok (.iload_n 2, 1) := by decide +kernel
theorem dX9_returns_17 : decode cX9_returns 17 = .ok (.iconst 3, 1) := by decide +kernel
theorem dX9_returns_18 : decode cX9_returns 18 = .ok (.iand, 1) := by decide +kernel
theorem dX9_returns_19 : decode cX9_returns 19 = .ok (.iconst 2, 1) := by decide +kernel
theorem dX9_returns_20 : decode cX9_returns 20 = .ok (.if_icmp .ne 8, 3) := by decide +kernel
theorem dX9_returns_23 : decode cX9_returns 23 = .ok (.bipush 100, 2) := by decide +kernel
theorem dX9_returns_25 : decode cX9_returns 25 = .ok (.goto 7, 3) := by decide +kernel
theorem dX9_returns_28 : decode cX9_returns 28 = .ok (.iload_n 2, 1) := by decide +kernel
theorem dX9_returns_29 : decode cX9_returns 29 = .ok (.invokestatic 180, 3) := by decide +kernel
theorem dX9_returns_32 : decode cX9_returns 32 = .ok (.istore 4, 2) := by decide +kernel
theorem dX9_returns_34 : decode cX9_returns 34 = .ok (.aload_n 0, 1) := by decide +kernel
theorem dX9_returns_35 : decode cX9_returns 35 = .ok (.getfield 133, 3) := by decide +kernel
theorem dX9_returns_38 : decode cX9_returns 38 = .ok (.ifCond .ne 33, 3) := by decide +kernel
theorem dX9_returns_41 : decode cX9_returns 41 = .ok (.aload_n 0, 1) := by decide +kernel
theorem dX9_returns_42 : decode cX9_returns 42 = .ok (.getfield 16, 3) := by decide +kernel
theorem dX9_returns_45 : decode cX9_returns 45 = .ok (.bipush 81, 2) := by decide +kernel
theorem dX9_returns_47 : decode cX9_returns 47 = .ok (.iconst 2, 1) := by decide +kernel
theorem dX9_returns_48 : decode cX9_returns 48 = .ok (.iconst 3, 1) := by decide +kernel
theorem dX9_returns_49 : decode cX9_returns 49 = .ok (.iload_n 1, 1) := by decide +kernel
theorem dX9_returns_50 : decode cX9_returns 50 = .ok (.imul, 1) := by decide +kernel
theorem dX9_returns_51 : decode cX9_returns 51 = .ok (.aload_n 0, 1) := by decide +kernel
theorem dX9_returns_52 : decode cX9_returns 52 = .ok (.getfield 16, 3) := by decide +kernel
theorem dX9_returns_55 : decode cX9_returns 55 = .ok (.iload_n 3, 1) := by decide +kernel
theorem dX9_returns_56 : decode cX9_returns 56 = .ok (.iconst 0, 1) := by decide +kernel
theorem dX9_returns_57 : decode cX9_returns 57 = .ok (.iadd, 1) := by decide +kernel
theorem dX9_returns_58 : decode cX9_returns 58 = .ok (.iaload, 1) := by decide +kernel
theorem dX9_returns_59 : decode cX9_returns 59 = .ok (.iadd, 1) := by decide +kernel
theorem dX9_returns_60 : decode cX9_returns 60 = .ok (.imul, 1) := by decide +kernel
theorem dX9_returns_61 : decode cX9_returns 61 = .ok (.iadd, 1) := by decide +kernel
theorem dX9_returns_62 : decode cX9_returns 62 = .ok (.iconst 1, 1) := by decide +kernel
theorem dX9_returns_63 : decode cX9_returns 63 = .ok (.iadd, 1) := by decide +kernel
theorem dX9_returns_64 : decode cX9_returns 64 = .ok (.iload 4, 2) := by decide +kernel
theorem dX9_returns_66 : decode cX9_returns 66 = .ok (.sipush 1000, 3) := by decide +kernel
theorem dX9_returns_69 : decode cX9_returns 69 = .ok (.iadd, 1) := by decide +kernel
theorem dX9_returns_70 : decode cX9_returns 70 = .ok (.iastore, 1) := by decide +kernel
theorem dX9_returns_71 : decode cX9_returns 71 = .ok (.aload_n 0, 1) := by decide +kernel
theorem dX9_returns_72 : decode cX9_returns 72 = .ok (.getfield 16, 3) := by decide +kernel
theorem dX9_returns_75 : decode cX9_returns 75 = .ok (.iload_n 3, 1) := by decide +kernel
theorem dX9_returns_76 : decode cX9_returns 76 = .ok (.iconst 0, 1) := by decide +kernel
theorem dX9_returns_77 : decode cX9_returns 77 = .ok (.iadd, 1) := by decide +kernel
theorem dX9_returns_78 : decode cX9_returns 78 = .ok (.dup2, 1) := by decide +kernel
theorem dX9_returns_79 : decode cX9_returns 79 = .ok (.iaload, 1) := by decide +kernel
theorem dX9_returns_80 : decode cX9_returns 80 = .ok (.iconst 1, 1) := by decide +kernel
theorem dX9_returns_81 : decode cX9_returns 81 = .ok (.iadd, 1) := by decide +kernel
theorem dX9_returns_82 : decode cX9_returns 82 = .ok (.iastore, 1) := by decide +kernel
theorem dX9_returns_83 : decode cX9_returns 83 = .ok (.aload_n 0, 1) := by decide +kernel
theorem dX9_returns_84 : decode cX9_returns 84 = .ok (.getfield 16, 3) := by decide +kernel
theorem dX9_returns_87 : decode cX9_returns 87 = .ok (.iload_n 3, 1) := by decide +kernel
theorem dX9_returns_88 : decode cX9_returns 88 = .ok (.iconst 1, 1) := by decide +kernel
theorem dX9_returns_89 : decode cX9_returns 89 = .ok (.iadd, 1) := by decide +kernel
theorem dX9_returns_90 : decode cX9_returns 90 = .ok (.iconst 0, 1) := by decide +kernel
theorem dX9_returns_91 : decode cX9_returns 91 = .ok (.iastore, 1) := by decide +kernel
theorem dX9_returns_92 : decode cX9_returns 92 = .ok (.aload_n 0, 1) := by decide +kernel
theorem dX9_returns_93 : decode cX9_returns 93 = .ok (.getfield 16, 3) := by decide +kernel
theorem dX9_returns_96 : decode cX9_returns 96 = .ok (.iload_n 3, 1) := by decide +kernel
theorem dX9_returns_97 : decode cX9_returns 97 = .ok (.iconst 2, 1) := by decide +kernel
theorem dX9_returns_98 : decode cX9_returns 98 = .ok (.iadd, 1) := by decide +kernel
theorem dX9_returns_99 : decode cX9_returns 99 = .ok (.iconst 0, 1) := by decide +kernel
theorem dX9_returns_100 : decode cX9_returns 100 = .ok (.iastore, 1) := by decide +kernel
theorem dX9_returns_101 : decode cX9_returns 101 = .ok (.aload_n 0, 1) := by decide +kernel
theorem dX9_returns_102 : decode cX9_returns 102 = .ok (.getfield 16, 3) := by decide +kernel
theorem dX9_returns_105 : decode cX9_returns 105 = .ok (.iload_n 3, 1) := by decide +kernel
theorem dX9_returns_106 : decode cX9_returns 106 = .ok (.iconst 4, 1) := by decide +kernel
theorem dX9_returns_107 : decode cX9_returns 107 = .ok (.iadd, 1) := by decide +kernel
theorem dX9_returns_108 : decode cX9_returns 108 = .ok (.iconst 0, 1) := by decide +kernel
theorem dX9_returns_109 : decode cX9_returns 109 = .ok (.iastore, 1) := by decide +kernel
theorem dX9_returns_110 : decode cX9_returns 110 = .ok (.aload_n 0, 1) := by decide +kernel
theorem dX9_returns_111 : decode cX9_returns 111 = .ok (.getfield 16, 3) := by decide +kernel
theorem dX9_returns_114 : decode cX9_returns 114 = .ok (.iload_n 3, 1) := by decide +kernel
theorem dX9_returns_115 : decode cX9_returns 115 = .ok (.iconst 5, 1) := by decide +kernel
theorem dX9_returns_116 : decode cX9_returns 116 = .ok (.iadd, 1) := by decide +kernel
theorem dX9_returns_117 : decode cX9_returns 117 = .ok (.iconst 0, 1) := by decide +kernel
theorem dX9_returns_118 : decode cX9_returns 118 = .ok (.iastore, 1) := by decide +kernel
theorem dX9_returns_119 : decode cX9_returns 119 = .ok (.aload_n 0, 1) := by decide +kernel
theorem dX9_returns_120 : decode cX9_returns 120 = .ok (.getfield 16, 3) := by decide +kernel
theorem dX9_returns_123 : decode cX9_returns 123 = .ok (.iload_n 3, 1) := by decide +kernel
theorem dX9_returns_124 : decode cX9_returns 124 = .ok (.iconst 5, 1) := by decide +kernel
theorem dX9_returns_125 : decode cX9_returns 125 = .ok (.iadd, 1) := by decide +kernel
theorem dX9_returns_126 : decode cX9_returns 126 = .ok (.iconst 1, 1) := by decide +kernel
theorem dX9_returns_127 : decode cX9_returns 127 = .ok (.iadd, 1) := by decide +kernel
theorem dX9_returns_128 : decode cX9_returns 128 = .ok (.iconst 0, 1) := by decide +kernel
theorem dX9_returns_129 : decode cX9_returns 129 = .ok (.iastore, 1) := by decide +kernel
theorem dX9_returns_130 : decode cX9_returns 130 = .ok (.iconst 0, 1) := by decide +kernel
theorem dX9_returns_131 : decode cX9_returns 131 = .ok (.istore 5, 2) := by decide +kernel
theorem dX9_returns_133 : decode cX9_returns 133 = .ok (.iload 5, 2) := by decide +kernel
theorem dX9_returns_135 : decode cX9_returns 135 = .ok (.bipush 6, 2) := by decide +kernel
theorem dX9_returns_137 : decode cX9_returns 137 = .ok (.if_icmp .ge 17, 3) := by decide +kernel
theorem dX9_returns_140 : decode cX9_returns 140 = .ok (.aload_n 0, 1) := by decide +kernel
theorem dX9_returns_141 : decode cX9_returns 141 = .ok (.iload_n 1, 1) := by decide +kernel
theorem dX9_returns_142 : decode cX9_returns 142 = .ok (.iload 5, 2) := by decide +kernel
theorem dX9_returns_144 : decode cX9_returns 144 = .ok (.iconst 0, 1) := by decide +kernel
theorem dX9_returns_145 : decode cX9_returns 145 = .ok (.invokevirtual 147, 3) := by decide +kernel
theorem dX9_returns_148 : decode cX9_returns 148 = .ok (.iinc 5 1, 3) := by decide +kernel
theorem dX9_returns_151 : decode cX9_returns 151 = .ok (.goto (-18), 3) := by decide +kernel
theorem dX9_returns_154 : decode cX9_returns 154 = .ok (.aload_n 0, 1) := by decide +kernel
theorem dX9_returns_155 : decode cX9_returns 155 = .ok (.iconst 1, 1) := by decide +kernel
theorem dX9_returns_156 : decode cX9_returns 156 = .ok (.putfield 234, 3) := by decide +kernel
theorem dX9_returns_159 : decode cX9_returns 159 = .ok (.aload_n 0, 1) := by decide +kernel
theorem dX9_returns_160 : decode cX9_returns 160 = .ok (.invokevirtual 225, 3) := by decide +kernel
theorem dX9_returns_163 : decode cX9_returns 163 = .ok (.aload_n 0, 1) := by decide +kernel
theorem dX9_returns_164 : decode cX9_returns 164 = .ok (.invokevirtual 228, 3) := by decide +kernel
theorem dX9_returns_167 : decode cX9_returns 167 = .ok (.return_, 1) := by decide +kernel
theorem dX9_routineOf_0 : decode cX9_routineOf 0 = .ok (.aload_n 0, 1) := by decide +kernel
theorem dX9_routineOf_1 : decode cX9_routineOf 1 = .ok (.getfield 13, 3) := by decide +kernel
theorem dX9_routineOf_4 : decode cX9_routineOf 4 = .ok (.sipush 916, 3) := by decide +kernel
theorem dX9_routineOf_7 : decode cX9_routineOf 7 = .ok (.iconst 4, 1) := by decide +kernel
theorem dX9_routineOf_8 : decode cX9_routineOf 8 = .ok (.aload_n 0, 1) := by decide +kernel
theorem dX9_routineOf_9 : decode cX9_routineOf 9 = .ok (.getfield 133, 3) := by decide +kernel
theorem dX9_routineOf_12 : decode cX9_routineOf 12 = .ok (.ifCond .eq 7, 3) := by decide +kernel
theorem dX9_routineOf_15 : decode cX9_routineOf 15 = .ok (.iconst 3, 1) := by decide +kernel
theorem dX9_routineOf_16 : decode cX9_routineOf 16 = .ok (.goto 4, 3) := by decide +kernel
theorem dX9_routineOf_19 : decode cX9_routineOf 19 = .ok (.iload_n 1, 1) := by decide +kernel
theorem dX9_routineOf_20 : decode cX9_routineOf 20 = .ok (.imul, 1) := by decide +kernel
theorem dX9_routineOf_21 : decode cX9_routineOf 21 = .ok (.iadd, 1) := by decide +kernel
theorem dX9_routineOf_22 : decode cX9_routineOf 22 = .ok (.aload_n 0, 1) := by decide +kernel
theorem dX9_routineOf_23 : decode cX9_routineOf 23 = .ok (.getfield 16, 3) := by decide +kernel
theorem dX9_routineOf_26 : decode cX9_routineOf 26 = .ok (.iload_n 1, 1) := by decide +kernel
theorem dX9_routineOf_27 : decode cX9_routineOf 27 = .ok (.invokestatic 122, 3) := by decide +kernel
theorem dX9_routineOf_30 : decode cX9_routineOf 30 = .ok (.iconst 0, 1) := by decide +kernel
theorem dX9_routineOf_31 : decode cX9_routineOf 31 = .ok (.iadd, 1) := by decide +kernel
theorem dX9_routineOf_32 : decode cX9_routineOf 32 = .ok (.iaload, 1) := by decide +kernel
theorem dX9_routineOf_33 : decode cX9_routineOf 33 = .ok (.iadd, 1) := by decide +kernel
theorem dX9_routineOf_34 : decode cX9_routineOf 34 = .ok (.iaload, 1) := by decide +kernel
theorem dX9_routineOf_35 : decode cX9_routineOf 35 = .ok (.ireturn, 1) := by decide +kernel
theorem dX9_run_0 : decode cX9_run 0 = .ok (.iload_n 1, 1) := by decide +kernel
theorem dX9_run_1 : decode cX9_run 1 = .ok (.i2l, 1) := by decide +kernel
theorem dX9_run_2 : decode cX9_run 2 = .ok (.lconst 1, 1) := by decide +kernel
theorem dX9_run_3 : decode cX9_run 3 = .ok (.ldc2_w 312, 3) := by decide +kernel
theorem dX9_run_6 : decode cX9_run 6 = .ok (.invokestatic 68, 3) := by decide +kernel
theorem dX9_run_9 : decode cX9_run 9 = .ok (.ifCond .ne 5, 3) := by decide +kernel
theorem dX9_run_12 : decode cX9_run 12 = .ok (.iconst (-1), 1) := by decide +kernel
theorem dX9_run_13 : decode cX9_run 13 = .ok (.ireturn, 1) := by decide +kernel
theorem dX9_run_14 : decode cX9_run 14 = .ok (.aload_n 0, 1) := by decide +kernel
theorem dX9_run_15 : decode cX9_run 15 = .ok (.getfield 291, 3) := by decide +kernel
theorem dX9_run_18 : decode cX9_run 18 = .ok (.ifCond .ne 6, 3) := by decide +kernel
theorem dX9_run_21 : decode cX9_run 21 = .ok (.bipush (-2), 2) := by decide +kernel
theorem dX9_run_23 : decode cX9_run 23 = .ok (.ireturn, 1) := by decide +kernel
theorem dX9_run_24 : decode cX9_run 24 = .ok (.aload_n 0, 1) := by decide +kernel
theorem dX9_run_25 : decode cX9_run 25 = .ok (.invokevirtual 306, 3) := by decide +kernel
theorem dX9_run_28 : decode cX9_run 28 = .ok (.iconst 0, 1) := by decide +kernel
theorem dX9_run_29 : decode cX9_run 29 = .ok (.istore_n 2, 1) := by decide +kernel
theorem dX9_run_30 : decode cX9_run 30 = .ok (.iconst 1, 1) := by decide +kernel
theorem dX9_run_31 : decode cX9_run 31 = .ok (.istore_n 3, 1) := by decide +kernel
theorem dX9_run_32 : decode cX9_run 32 = .ok (.iload_n 3, 1) := by decide +kernel
theorem dX9_run_33 : decode cX9_run 33 = .ok (.ifCond .eq 93, 3) := by decide +kernel
theorem dX9_run_36 : decode cX9_run 36 = .ok (.iload_n 2, 1) := by decide +kernel
theorem dX9_run_37 : decode cX9_run 37 = .ok (.iload_n 1, 1) := by decide +kernel
theorem dX9_run_38 : decode cX9_run 38 = .ok (.if_icmp .ge 88, 3) := by decide +kernel
theorem dX9_run_41 : decode cX9_run 41 = .ok (.aload_n 0, 1) := by decide +kernel
theorem dX9_run_42 : decode cX9_run 42 = .ok (.getfield 300, 3) := by decide +kernel
theorem dX9_run_45 : decode cX9_run 45 = .ok (.bipush 100, 2) := by decide +kernel
theorem dX9_run_47 : decode cX9_run 47 = .ok (.if_icmp .ge 79, 3) := by decide +kernel
theorem dX9_run_50 : decode cX9_run 50 = .ok (.iconst 0, 1) := by decide +kernel
theorem dX9_run_51 : decode cX9_run 51 = .ok (.istore_n 3, 1) := by decide +kernel
theorem dX9_run_52 : decode cX9_run 52 = .ok (.iconst 1, 1) := by decide +kernel
theorem dX9_run_53 : decode cX9_run 53 = .ok (.istore 4, 2) := by decide +kernel
theorem dX9_run_55 : decode cX9_run 55 = .ok (.iload 4, 2) := by decide +kernel
theorem dX9_run_57 : decode cX9_run 57 = .ok (.bipush 7, 2) := by decide +kernel
theorem dX9_run_59 : decode cX9_run 59 = .ok (.if_icmp .ge 64, 3) := by decide +kernel
theorem dX9_run_62 : decode cX9_run 62 = .ok (.iload_n 3, 1) := by decide +kernel
theorem dX9_run_63 : decode cX9_run 63 = .ok (.ifCond .ne 60, 3) := by decide +kernel
theorem dX9_run_66 : decode cX9_run 66 = .ok (.aload_n 0, 1) := by decide +kernel
theorem dX9_run_67 : decode cX9_run 67 = .ok (.getfield 303, 3) := by decide +kernel
theorem dX9_run_70 : decode cX9_run 70 = .ok (.iload 4, 2) := by decide +kernel
theorem dX9_run_72 : decode cX9_run 72 = .ok (.iadd, 1) := by decide +kernel
theorem dX9_run_73 : decode cX9_run 73 = .ok (.bipush 6, 2) := by decide +kernel
theorem dX9_run_75 : decode cX9_run 75 = .ok (.iadd, 1) := by decide +kernel
theorem dX9_run_76 : decode cX9_run 76 = .ok (.bipush 6, 2) := by decide +kernel
theorem dX9_run_78 : decode cX9_run 78 = .ok (.irem, 1) := by decide +kernel
theorem dX9_run_79 : decode cX9_run 79 = .ok (.istore 5, 2) := by decide +kernel
theorem dX9_run_81 : decode cX9_run 81 = .ok (.aload_n 0, 1) := by decide +kernel
theorem dX9_run_82 : decode cX9_run 82 = .ok (.iload 5, 2) := by decide +kernel
theorem dX9_run_84 : decode cX9_run 84 = .ok (.invokevirtual 265, 3) := by decide +kernel
theorem dX9_run_87 : decode cX9_run 87 = .ok (.ifCond .eq 30, 3) := by decide +kernel
theorem dX9_run_90 : decode cX9_run 90 = .ok (.iconst 1, 1) := by decide +kernel
theorem dX9_run_91 : decode cX9_run 91 = .ok (.istore_n 3, 1) := by decide +kernel
theorem dX9_run_92 : decode cX9_run 92 = .ok (.aload_n 0, 1) := by decide +kernel
theorem dX9_run_93 : decode cX9_run 93 = .ok (.iload 5, 2) := by decide +kernel
theorem dX9_run_95 : decode cX9_run 95 = .ok (.invokevirtual 309, 3) := by decide +kernel
theorem dX9_run_98 : decode cX9_run 98 = .ok (.aload_n 0, 1) := by decide +kernel
theorem dX9_run_99 : decode cX9_run 99 = .ok (.iload 5, 2) := by decide +kernel
theorem dX9_run_101 : decode cX9_run 101 = .ok (.putfield 303, 3) := by decide +kernel
theorem dX9_run_104 : decode cX9_run 104 = .ok (.aload_n 0, 1) := by decide +kernel
theorem dX9_run_105 : decode cX9_run 105 = .ok (.dup, 1) := by decide +kernel
theorem dX9_run_106 : decode cX9_run 106 = .ok (.getfield 300, 3) := by decide +kernel
theorem dX9_run_109 : decode cX9_run 109 = .ok (.iconst 1, 1) := by decide +kernel
theorem dX9_run_110 : decode cX9_run 110 = .ok (.iadd, 1) := by decide +kernel
theorem dX9_run_111 : decode cX9_run 111 = .ok (.putfield 300, 3) := by decide +kernel
theorem dX9_run_114 : decode cX9_run 114 = .ok (.iinc 2 1, 3) := by decide +kernel
theorem dX9_run_117 : decode cX9_run 117 = .ok (.iinc 4 1, 3) := by decide +kernel
theorem dX9_run_120 : decode cX9_run 120 = .ok (.goto (-65), 3) := by decide +kernel
theorem dX9_run_123 : decode cX9_run 123 = .ok (.goto (-91), 3) := by decide +kernel
theorem dX9_run_126 : decode cX9_run 126 = .ok (.aload_n 0, 1) := by decide +kernel
theorem dX9_run_127 : decode cX9_run 127 = .ok (.invokevirtual 297, 3) := by decide +kernel
theorem dX9_run_130 : decode cX9_run 130 = .ok (.iload_n 2, 1) := by decide +kernel
theorem dX9_run_131 : decode cX9_run 131 = .ok (.ireturn, 1) := by decide +kernel
theorem dX9_says_0 : decode cX9_says 0 = .ok (.aload_n 0, 1) := by decide +kernel
theorem dX9_says_1 : decode cX9_says 1 = .ok (.getfield 13, 3) := by decide +kernel
theorem dX9_says_4 : decode cX9_says 4 = .ok (.sipush 726, 3) := by decide +kernel
theorem dX9_says_7 : decode cX9_says 7 = .ok (.iload_n 1, 1) := by decide +kernel
theorem dX9_says_8 : decode cX9_says 8 = .ok (.iadd, 1) := by decide +kernel
theorem dX9_says_9 : decode cX9_says 9 = .ok (.iaload, 1) := by decide +kernel
theorem dX9_says_10 : decode cX9_says 10 = .ok (.istore 5, 2) := by decide +kernel
theorem dX9_says_12 : decode cX9_says 12 = .ok (.aload_n 0, 1) := by decide +kernel
theorem dX9_says_13 : decode cX9_says 13 = .ok (.getfield 13, 3) := by decide +kernel
theorem dX9_says_16 : decode cX9_says 16 = .ok (.sipush 950, 3) := by decide +kernel
theorem dX9_says_19 : decode cX9_says 19 = .ok (.iaload, 1) := by decide +kernel
theorem dX9_says_20 : decode cX9_says 20 = .ok (.istore 6, 2) := by decide +kernel
theorem dX9_says_22 : decode cX9_says 22 = .ok (.iconst 0, 1) := by decide +kernel
theorem dX9_says_23 : decode cX9_says 23 = .ok (.istore 7, 2) := by decide +kernel
theorem dX9_says_25 : decode cX9_says 25 = .ok (.iconst 0, 1) := by decide +kernel
theorem dX9_says_26 : decode cX9_says 26 = .ok (.istore 8, 2) := by decide +kernel
theorem dX9_says_28 : decode cX9_says 28 = .ok (.iload 5, 2) := by decide +kernel
theorem dX9_says_30 : decode cX9_says 30 = .ok (.iconst 1, 1) := by decide +kernel
theorem dX9_says_31 : decode cX9_says 31 = .ok (.if_icmp .ne 74, 3) := by decide +kernel
theorem dX9_says_34 : decode cX9_says 34 = .ok (.iload 6, 2) := by decide +kernel
theorem dX9_says_36 : decode cX9_says 36 = .ok (.iconst 3, 1) := by decide +kernel
theorem dX9_says_37 : decode cX9_says 37 = .ok (.if_icmp .ge 26, 3) := by decide +kernel
theorem dX9_says_40 : decode cX9_says 40 = .ok (.aload_n 0, 1) := by decide +kernel
theorem dX9_says_41 : decode cX9_says 41 = .ok (.getfield 19, 3) := by decide +kernel
theorem dX9_says_44 : decode cX9_says 44 = .ok (.aload_n 0, 1) := by decide +kernel
theorem dX9_says_45 : decode cX9_says 45 = .ok (.getfield 249, 3) := by decide +kernel
theorem dX9_says_48 : decode cX9_says 48 = .ok (.iload_n 2, 1) := by decide +kernel
theorem dX9_says_49 : decode cX9_says 49 = .ok (.iastore, 1) := by decide +kernel
theorem dX9_says_50 : decode cX9_says 50 = .ok (.aload_n 0, 1) := by decide +kernel
theorem dX9_says_51 : decode cX9_says 51 = .ok (.dup, 1) := by decide +kernel
theorem dX9_says_52 : decode cX9_says 52 = .ok (.getfield 249, 3) := by decide +kernel
theorem dX9_says_55 : decode cX9_says 55 = .ok (.iconst 1, 1) := by decide +kernel
theorem dX9_says_56 : decode cX9_says 56 = .ok (.iadd, 1) := by decide +kernel
theorem dX9_says_57 : decode cX9_says 57 = .ok (.putfield 249, 3) := by decide +kernel
theorem dX9_says_60 : decode cX9_says 60 = .ok (.goto 75, 3) := by decide +kernel
theorem dX9_says_63 : decode cX9_says 63 = .ok (.aload_n 0, 1) := by decide +kernel
theorem dX9_says_64 : decode cX9_says 64 = .ok (.iload 6, 2) := by decide +kernel
theorem dX9_says_66 : decode cX9_says 66 = .ok (.iconst 3, 1) := by decide +kernel
theorem dX9_says_67 : decode cX9_says 67 = .ok (.if_icmp .ne 12, 3) := by decide +kernel
theorem dX9_says_70 : decode cX9_says 70 = .ok (.aload_n 0, 1) := by decide +kernel
theorem dX9_says_71 : decode cX9_says 71 = .ok (.getfield 252, 3) := by decide +kernel
theorem dX9_says_74 : decode cX9_says 74 = .ok (.iload_n 2, 1) := by decide +kernel
theorem dX9_says_75 : decode cX9_says 75 = .ok (.iadd, 1) := by decide +kernel
theorem dX9_says_76 : decode cX9_says 76 = .ok (.goto 4, 3) := by decide +kernel
theorem dX9_says_79 : decode cX9_says 79 = .ok (.iload_n 2, 1) := by decide +kernel
theorem dX9_says_80 : decode cX9_says 80 = .ok (.putfield 252, 3) := by decide +kernel
theorem dX9_says_83 : decode cX9_says 83 = .ok (.iload 6, 2) := by decide +kernel
theorem dX9_says_85 : decode cX9_says 85 = .ok (.iconst 3, 1) := by decide +kernel
theorem dX9_says_86 : decode cX9_says 86 = .ok (.if_icmp .ne 7, 3) := by decide +kernel
theorem dX9_says_89 : decode cX9_says 89 = .ok (.iconst 1, 1) := by decide +kernel
theorem dX9_says_90 : decode cX9_says 90 = .ok (.goto 4, 3) := by decide +kernel
theorem dX9_says_93 : decode cX9_says 93 = .ok (.iconst 0, 1) := by decide +kernel
theorem dX9_says_94 : decode cX9_says 94 = .ok (.istore 8, 2) := by decide +kernel
theorem dX9_says_96 : decode cX9_says 96 = .ok (.aload_n 0, 1) := by decide +kernel
theorem dX9_says_97 : decode cX9_says 97 = .ok (.getfield 252, 3) := by decide +kernel
theorem dX9_says_100 : decode cX9_says 100 = .ok (.istore 7, 2) := by decide +kernel
theorem dX9_says_102 : decode cX9_says 102 = .ok (.goto 33, 3) := by decide +kernel
theorem dX9_says_105 : decode cX9_says 105 = .ok (.iload 5, 2) := by decide +kernel
theorem dX9_says_107 : decode cX9_says 107 = .ok (.iconst 2, 1) := by decide +kernel
theorem dX9_says_108 : decode cX9_says 108 = .ok (.if_icmp .ne 27, 3) := by decide +kernel
theorem dX9_says_111 : decode cX9_says 111 = .ok (.iconst 1, 1) := by decide +kernel
theorem dX9_says_112 : decode cX9_says 112 = .ok (.istore 8, 2) := by decide +kernel
theorem dX9_says_114 : decode cX9_says 114 = .ok (.iload 6, 2) := by decide +kernel
theorem dX9_says_116 : decode cX9_says 116 = .ok (.iconst 3, 1) := by decide +kernel
theorem dX9_says_117 : decode cX9_says 117 = .ok (.if_icmp .ge 12, 3) := by decide +kernel
theorem dX9_says_120 : decode cX9_says 120 = .ok (.aload_n 0, 1) := by decide +kernel
theorem dX9_says_121 : decode cX9_says 121 = .ok (.iload 6, 2) := by decide +kernel
theorem dX9_says_123 : decode cX9_says 123 = .ok (.invokevirtual 255, 3) := by decide +kernel
theorem dX9_says_126 : decode cX9_says 126 = .ok (.goto 7, 3) := by decide +kernel
theorem dX9_says_129 : decode cX9_says 129 = .ok (.aload_n 0, 1) := by decide +kernel
theorem dX9_says_130 : decode cX9_says 130 = .ok (.getfield 252, 3) := by decide +kernel
theorem dX9_says_133 : decode cX9_says 133 = .ok (.istore 7, 2) := by decide +kernel
theorem dX9_says_135 : decode cX9_says 135 = .ok (.iload 4, 2) := by decide +kernel
theorem dX9_says_137 : decode cX9_says 137 = .ok (.ifCond .eq 14, 3) := by decide +kernel
theorem dX9_says_140 : decode cX9_says 140 = .ok (.iload 8, 2) := by decide +kernel
theorem dX9_says_142 : decode cX9_says 142 = .ok (.ifCond .eq 9, 3) := by decide +kernel
theorem dX9_says_145 : decode cX9_says 145 = .ok (.iload_n 3, 1) := by decide +kernel
theorem dX9_says_146 : decode cX9_says 146 = .ok (.iload 7, 2) := by decide +kernel
theorem dX9_says_148 : decode cX9_says 148 = .ok (.if_icmp .ne 7, 3) := by decide +kernel
theorem dX9_says_151 : decode cX9_says 151 = .ok (.iconst 1, 1) := by decide +kernel
theorem dX9_says_152 : decode cX9_says 152 = .ok (.goto 4, 3) := by decide +kernel
theorem dX9_says_155 : decode cX9_says 155 = .ok (.iconst 0, 1) := by decide +kernel
theorem dX9_says_156 : decode cX9_says 156 = .ok (.ireturn, 1) := by decide +kernel
theorem dX9_sees_0 : decode cX9_sees 0 = .ok (.iload_n 1, 1) := by decide +kernel
theorem dX9_sees_1 : decode cX9_sees 1 = .ok (.invokestatic 122, 3) := by decide +kernel
theorem dX9_sees_4 : decode cX9_sees 4 = .ok (.istore_n 3, 1) := by decide +kernel
theorem dX9_sees_5 : decode cX9_sees 5 = .ok (.aload_n 0, 1) := by decide +kernel
theorem dX9_sees_6 : decode cX9_sees 6 = .ok (.getfield 16, 3) := by decide +kernel
theorem dX9_sees_9 : decode cX9_sees 9 = .ok (.iload_n 2, 1) := by decide +kernel
theorem dX9_sees_10 : decode cX9_sees 10 = .ok (.iaload, 1) := by decide +kernel
theorem dX9_sees_11 : decode cX9_sees 11 = .ok (.sipush 2047, 3) := by decide +kernel
theorem dX9_sees_14 : decode cX9_sees 14 = .ok (.iand, 1) := by decide +kernel
theorem dX9_sees_15 : decode cX9_sees 15 = .ok (.istore 4, 2) := by decide +kernel
theorem dX9_sees_17 : decode cX9_sees 17 = .ok (.iconst 0, 1) := by decide +kernel
theorem dX9_sees_18 : decode cX9_sees 18 = .ok (.istore 5, 2) := by decide +kernel
theorem dX9_sees_20 : decode cX9_sees 20 = .ok (.iload 5, 2) := by decide +kernel
theorem dX9_sees_22 : decode cX9_sees 22 = .ok (.aload_n 0, 1) := by decide +kernel
theorem dX9_sees_23 : decode cX9_sees 23 = .ok (.getfield 16, 3) := by decide +kernel
theorem dX9_sees_26 : decode cX9_sees 26 = .ok (.iload_n 3, 1) := by decide +kernel
theorem dX9_sees_27 : decode cX9_sees 27 = .ok (.bipush 7, 2) := by decide +kernel
theorem dX9_sees_29 : decode cX9_sees 29 = .ok (.iadd, 1) := by decide +kernel
theorem dX9_sees_30 : decode cX9_sees 30 = .ok (.iaload, 1) := by decide +kernel
theorem dX9_sees_31 : decode cX9_sees 31 = .ok (.if_icmp .ge 51, 3) := by decide +kernel
theorem dX9_sees_34 : decode cX9_sees 34 = .ok (.aload_n 0, 1) := by decide +kernel
theorem dX9_sees_35 : decode cX9_sees 35 = .ok (.getfield 16, 3) := by decide +kernel
theorem dX9_sees_38 : decode cX9_sees 38 = .ok (.iload_n 3, 1) := by decide +kernel
theorem dX9_sees_39 : decode cX9_sees 39 = .ok (.bipush 8, 2) := by decide +kernel
theorem dX9_sees_41 : decode cX9_sees 41 = .ok (.iadd, 1) := by decide +kernel
theorem dX9_sees_42 : decode cX9_sees 42 = .ok (.iload 5, 2) := by decide +kernel
theorem dX9_sees_44 : decode cX9_sees 44 = .ok (.iadd, 1) := by decide +kernel
theorem dX9_sees_45 : decode cX9_sees 45 = .ok (.iaload, 1) := by decide +kernel
theorem dX9_sees_46 : decode cX9_sees 46 = .ok (.bipush 16, 2) := by decide +kernel
theorem dX9_sees_48 : decode cX9_sees 48 = .ok (.ishr, 1) := by decide +kernel
theorem dX9_sees_49 : decode cX9_sees 49 = .ok (.iload_n 2, 1) := by decide +kernel
theorem dX9_sees_50 : decode cX9_sees 50 = .ok (.if_icmp .ne 22, 3) := by decide +kernel
theorem dX9_sees_53 : decode cX9_sees 53 = .ok (.aload_n 0, 1) := by decide +kernel
theorem dX9_sees_54 : decode cX9_sees 54 = .ok (.getfield 16, 3) := by decide +kernel
theorem dX9_sees_57 : decode cX9_sees 57 = .ok (.iload_n 3, 1) := by decide +kernel
theorem dX9_sees_58 : decode cX9_sees 58 = .ok (.bipush 8, 2) := by decide +kernel
theorem dX9_sees_60 : decode cX9_sees 60 = .ok (.iadd, 1) := by decide +kernel
theorem dX9_sees_61 : decode cX9_sees 61 = .ok (.iload 5, 2) := by decide +kernel
theorem dX9_sees_63 : decode cX9_sees 63 = .ok (.iadd, 1) := by decide +kernel
theorem dX9_sees_64 : decode cX9_sees 64 = .ok (.iaload, 1) := by decide +kernel
theorem dX9_sees_65 : decode cX9_sees 65 = .ok (.sipush 2047, 3) := by decide +kernel
theorem dX9_sees_68 : decode cX9_sees 68 = .ok (.iand, 1) := by decide +kernel
theorem dX9_sees_69 : decode cX9_sees 69 = .ok (.goto 5, 3) := by decide +kernel
theorem dX9_sees_72 : decode cX9_sees 72 = .ok (.iload 4, 2) := by decide +kernel
theorem dX9_sees_74 : decode cX9_sees 74 = .ok (.istore 4, 2) := by decide +kernel
theorem dX9_sees_76 : decode cX9_sees 76 = .ok (.iinc 5 1, 3) := by decide +kernel
theorem dX9_sees_79 : decode cX9_sees 79 = .ok (.goto (-59), 3) := by decide +kernel
theorem dX9_sees_82 : decode cX9_sees 82 = .ok (.iload 4, 2) := by decide +kernel
theorem dX9_sees_84 : decode cX9_sees 84 = .ok (.aload_n 0, 1) := by decide +kernel
theorem dX9_sees_85 : decode cX9_sees 85 = .ok (.getfield 16, 3) := by decide +kernel
theorem dX9_sees_88 : decode cX9_sees 88 = .ok (.iload_n 2, 1) := by decide +kernel
theorem dX9_sees_89 : decode cX9_sees 89 = .ok (.iaload, 1) := by decide +kernel
theorem dX9_sees_90 : decode cX9_sees 90 = .ok (.invokestatic 118, 3) := by decide +kernel
theorem dX9_sees_93 : decode cX9_sees 93 = .ok (.bipush 11, 2) := by decide +kernel
theorem dX9_sees_95 : decode cX9_sees 95 = .ok (.ishl, 1) := by decide +kernel
theorem dX9_sees_96 : decode cX9_sees 96 = .ok (.ior, 1) := by decide +kernel
theorem dX9_sees_97 : decode cX9_sees 97 = .ok (.ireturn, 1) := by decide +kernel
theorem dX9_setLocal_0 : decode cX9_setLocal 0 = .ok (.aload_n 0, 1) := by decide +kernel
theorem dX9_setLocal_1 : decode cX9_setLocal 1 = .ok (.getfield 16, 3) := by decide +kernel
theorem dX9_setLocal_4 : decode cX9_setLocal 4 = .ok (.iload_n 1, 1) := by decide +kernel
theorem dX9_setLocal_5 : decode cX9_setLocal 5 = .ok (.invokestatic 122, 3) := by decide +kernel
theorem dX9_setLocal_8 : decode cX9_setLocal 8 = .ok (.bipush 12, 2) := by decide +kernel
theorem dX9_setLocal_10 : decode cX9_setLocal 10 = .ok (.iadd, 1) := by decide +kernel
theorem dX9_setLocal_11 : decode cX9_setLocal 11 = .ok (.iload_n 2, 1) := by decide +kernel
theorem dX9_setLocal_12 : decode cX9_setLocal 12 = .ok (.iadd, 1) := by decide +kernel
theorem dX9_setLocal_13 : decode cX9_setLocal 13 = .ok (.iload_n 3, 1) := by decide +kernel
theorem dX9_setLocal_14 : decode cX9_setLocal 14 = .ok (.iastore, 1) := by decide +kernel
theorem dX9_setLocal_15 : decode cX9_setLocal 15 = .ok (.return_, 1) := by decide +kernel
theorem dX9_step_0 : decode cX9_step 0 = .ok (.iload_n 1, 1) := by decide +kernel
theorem dX9_step_1 : decode cX9_step 1 = .ok (.i2l, 1) := by decide +kernel
theorem dX9_step_2 : decode cX9_step 2 = .ok (.lconst 0, 1) := by decide +kernel
theorem dX9_step_3 : decode cX9_step 3 = .ok (.ldc2_w 76, 3) := by decide +kernel
theorem dX9_step_6 : decode cX9_step 6 = .ok (.invokestatic 68, 3) := by decide +kernel
theorem dX9_step_9 : decode cX9_step 9 = .ok (.ifCond .ne 5, 3) := by decide +kernel
theorem dX9_step_12 : decode cX9_step 12 = .ok (.iconst (-1), 1) := by decide +kernel
theorem dX9_step_13 : decode cX9_step 13 = .ok (.ireturn, 1) := by decide +kernel
theorem dX9_step_14 : decode cX9_step 14 = .ok (.aload_n 0, 1) := by decide +kernel
theorem dX9_step_15 : decode cX9_step 15 = .ok (.getfield 291, 3) := by decide +kernel
theorem dX9_step_18 : decode cX9_step 18 = .ok (.ifCond .ne 6, 3) := by decide +kernel
theorem dX9_step_21 : decode cX9_step 21 = .ok (.bipush (-2), 2) := by decide +kernel
theorem dX9_step_23 : decode cX9_step 23 = .ok (.ireturn, 1) := by decide +kernel
theorem dX9_step_24 : decode cX9_step 24 = .ok (.aload_n 0, 1) := by decide +kernel
theorem dX9_step_25 : decode cX9_step 25 = .ok (.invokevirtual 306, 3) := by decide +kernel
theorem dX9_step_28 : decode cX9_step 28 = .ok (.aload_n 0, 1) := by decide +kernel
theorem dX9_step_29 : decode cX9_step 29 = .ok (.iload_n 1, 1) := by decide +kernel
theorem dX9_step_30 : decode cX9_step 30 = .ok (.invokevirtual 265, 3) := by decide +kernel
theorem dX9_step_33 : decode cX9_step 33 = .ok (.ifCond .ne 6, 3) := by decide +kernel
theorem dX9_step_36 : decode cX9_step 36 = .ok (.bipush (-2), 2) := by decide +kernel
theorem dX9_step_38 : decode cX9_step 38 = .ok (.ireturn, 1) := by decide +kernel
theorem dX9_step_39 : decode cX9_step 39 = .ok (.aload_n 0, 1) := by decide +kernel
theorem dX9_step_40 : decode cX9_step 40 = .ok (.getfield 300, 3) := by decide +kernel
theorem dX9_step_43 : decode cX9_step 43 = .ok (.bipush 100, 2) := by decide +kernel
theorem dX9_step_45 : decode cX9_step 45 = .ok (.if_icmp .ne 6, 3) := by decide +kernel
theorem dX9_step_48 : decode cX9_step 48 = .ok (.bipush (-3), 2) := by decide +kernel
theorem dX9_step_50 : decode cX9_step 50 = .ok (.ireturn, 1) := by decide +kernel
theorem dX9_step_51 : decode cX9_step 51 = .ok (.aload_n 0, 1) := by decide +kernel
theorem dX9_step_52 : decode cX9_step 52 = .ok (.iload_n 1, 1) := by decide +kernel
theorem dX9_step_53 : decode cX9_step 53 = .ok (.invokevirtual 309, 3) := by decide +kernel
theorem dX9_step_56 : decode cX9_step 56 = .ok (.aload_n 0, 1) := by decide +kernel
theorem dX9_step_57 : decode cX9_step 57 = .ok (.invokevirtual 297, 3) := by decide +kernel
theorem dX9_step_60 : decode cX9_step 60 = .ok (.aload_n 0, 1) := by decide +kernel
theorem dX9_step_61 : decode cX9_step 61 = .ok (.dup, 1) := by decide +kernel
theorem dX9_step_62 : decode cX9_step 62 = .ok (.getfield 300, 3) := by decide +kernel
theorem dX9_step_65 : decode cX9_step 65 = .ok (.iconst 1, 1) := by decide +kernel
theorem dX9_step_66 : decode cX9_step 66 = .ok (.iadd, 1) := by decide +kernel
theorem dX9_step_67 : decode cX9_step 67 = .ok (.putfield 300, 3) := by decide +kernel
theorem dX9_step_70 : decode cX9_step 70 = .ok (.aload_n 0, 1) := by decide +kernel
theorem dX9_step_71 : decode cX9_step 71 = .ok (.iload_n 1, 1) := by decide +kernel
theorem dX9_step_72 : decode cX9_step 72 = .ok (.putfield 303, 3) := by decide +kernel
theorem dX9_step_75 : decode cX9_step 75 = .ok (.aload_n 0, 1) := by decide +kernel
theorem dX9_step_76 : decode cX9_step 76 = .ok (.getfield 300, 3) := by decide +kernel
theorem dX9_step_79 : decode cX9_step 79 = .ok (.ireturn, 1) := by decide +kernel
theorem dX9_steps_0 : decode cX9_steps 0 = .ok (.iload_n 1, 1) := by decide +kernel
theorem dX9_steps_1 : decode cX9_steps 1 = .ok (.invokestatic 122, 3) := by decide +kernel
theorem dX9_steps_4 : decode cX9_steps 4 = .ok (.istore_n 2, 1) := by decide +kernel
theorem dX9_steps_5 : decode cX9_steps 5 = .ok (.aload_n 0, 1) := by decide +kernel
theorem dX9_steps_6 : decode cX9_steps 6 = .ok (.iconst 0, 1) := by decide +kernel
theorem dX9_steps_7 : decode cX9_steps 7 = .ok (.putfield 234, 3) := by decide +kernel
theorem dX9_steps_10 : decode cX9_steps 10 = .ok (.aload_n 0, 1) := by decide +kernel
theorem dX9_steps_11 : decode cX9_steps 11 = .ok (.iconst 0, 1) := by decide +kernel
theorem dX9_steps_12 : decode cX9_steps 12 = .ok (.putfield 170, 3) := by decide +kernel
theorem dX9_steps_15 : decode cX9_steps 15 = .ok (.aload_n 0, 1) := by decide +kernel
theorem dX9_steps_16 : decode cX9_steps 16 = .ok (.getfield 16, 3) := by decide +kernel
theorem dX9_steps_19 : decode cX9_steps 19 = .ok (.iload_n 2, 1) := by decide +kernel
theorem dX9_steps_20 : decode cX9_steps 20 = .ok (.iconst 1, 1) := by decide +kernel
theorem dX9_steps_21 : decode cX9_steps 21 = .ok (.iadd, 1) := by decide +kernel
theorem dX9_steps_22 : decode cX9_steps 22 = .ok (.iaload, 1) := by decide +kernel
theorem dX9_steps_23 : decode cX9_steps 23 = .ok (.ifCond .ne 47, 3) := by decide +kernel
theorem dX9_steps_26 : decode cX9_steps 26 = .ok (.aload_n 0, 1) := by decide +kernel
theorem dX9_steps_27 : decode cX9_steps 27 = .ok (.iload_n 1, 1) := by decide +kernel
theorem dX9_steps_28 : decode cX9_steps 28 = .ok (.invokevirtual 237, 3) := by decide +kernel
theorem dX9_steps_31 : decode cX9_steps 31 = .ok (.aload_n 0, 1) := by decide +kernel
theorem dX9_steps_32 : decode cX9_steps 32 = .ok (.getfield 13, 3) := by decide +kernel
theorem dX9_steps_35 : decode cX9_steps 35 = .ok (.iconst 0, 1) := by decide +kernel
theorem dX9_steps_36 : decode cX9_steps 36 = .ok (.aload_n 0, 1) := by decide +kernel
theorem dX9_steps_37 : decode cX9_steps 37 = .ok (.iload_n 1, 1) := by decide +kernel
theorem dX9_steps_38 : decode cX9_steps 38 = .ok (.invokevirtual 144, 3) := by decide +kernel
theorem dX9_steps_41 : decode cX9_steps 41 = .ok (.iadd, 1) := by decide +kernel
theorem dX9_steps_42 : decode cX9_steps 42 = .ok (.iaload, 1) := by decide +kernel
theorem dX9_steps_43 : decode cX9_steps 43 = .ok (.ifCond .ge 10, 3) := by decide +kernel
theorem dX9_steps_46 : decode cX9_steps 46 = .ok (.aload_n 0, 1) := by decide +kernel
theorem dX9_steps_47 : decode cX9_steps 47 = .ok (.iload_n 1, 1) := by decide +kernel
theorem dX9_steps_48 : decode cX9_steps 48 = .ok (.iconst 1, 1) := by decide +kernel
theorem dX9_steps_49 : decode cX9_steps 49 = .ok (.invokevirtual 174, 3) := by decide +kernel
theorem dX9_steps_52 : decode cX9_steps 52 = .ok (.return_, 1) := by decide +kernel
theorem dX9_steps_53 : decode cX9_steps 53 = .ok (.aload_n 0, 1) := by decide +kernel
theorem dX9_steps_54 : decode cX9_steps 54 = .ok (.iload_n 1, 1) := by decide +kernel
theorem dX9_steps_55 : decode cX9_steps 55 = .ok (.invokevirtual 240, 3) := by decide +kernel
theorem dX9_steps_58 : decode cX9_steps 58 = .ok (.aload_n 0, 1) := by decide +kernel
theorem dX9_steps_59 : decode cX9_steps 59 = .ok (.getfield 16, 3) := by decide +kernel
theorem dX9_steps_62 : decode cX9_steps 62 = .ok (.iload_n 2, 1) := by decide +kernel
theorem dX9_steps_63 : decode cX9_steps 63 = .ok (.iconst 3, 1) := by decide +kernel
theorem dX9_steps_64 : decode cX9_steps 64 = .ok (.iadd, 1) := by decide +kernel
theorem dX9_steps_65 : decode cX9_steps 65 = .ok (.iaload, 1) := by decide +kernel
theorem dX9_steps_66 : decode cX9_steps 66 = .ok (.ifCond .le 4, 3) := by decide +kernel
theorem dX9_steps_69 : decode cX9_steps 69 = .ok (.return_, 1) := by decide +kernel
theorem dX9_steps_70 : decode cX9_steps 70 = .ok (.aload_n 0, 1) := by decide +kernel
theorem dX9_steps_71 : decode cX9_steps 71 = .ok (.iload_n 1, 1) := by decide +kernel
theorem dX9_steps_72 : decode cX9_steps 72 = .ok (.invokevirtual 154, 3) := by decide +kernel
theorem dX9_steps_75 : decode cX9_steps 75 = .ok (.ifCond .ge 10, 3) := by decide +kernel
theorem dX9_steps_78 : decode cX9_steps 78 = .ok (.aload_n 0, 1) := by decide +kernel
theorem dX9_steps_79 : decode cX9_steps 79 = .ok (.iload_n 1, 1) := by decide +kernel
theorem dX9_steps_80 : decode cX9_steps 80 = .ok (.iconst 3, 1) := by decide +kernel
theorem dX9_steps_81 : decode cX9_steps 81 = .ok (.invokevirtual 174, 3) := by decide +kernel
theorem dX9_steps_84 : decode cX9_steps 84 = .ok (.return_, 1) := by decide +kernel
theorem dX9_steps_85 : decode cX9_steps 85 = .ok (.aload_n 0, 1) := by decide +kernel
theorem dX9_steps_86 : decode cX9_steps 86 = .ok (.iload_n 1, 1) := by decide +kernel
theorem dX9_steps_87 : decode cX9_steps 87 = .ok (.invokevirtual 243, 3) := by decide +kernel
theorem dX9_steps_90 : decode cX9_steps 90 = .ok (.aload_n 0, 1) := by decide +kernel
theorem dX9_steps_91 : decode cX9_steps 91 = .ok (.getfield 16, 3) := by decide +kernel
theorem dX9_steps_94 : decode cX9_steps 94 = .ok (.iload_n 2, 1) := by decide +kernel
theorem dX9_steps_95 : decode cX9_steps 95 = .ok (.iconst 3, 1) := by decide +kernel
theorem dX9_steps_96 : decode cX9_steps 96 = .ok (.iadd, 1) := by decide +kernel
theorem dX9_steps_97 : decode cX9_steps 97 = .ok (.iaload, 1) := by decide +kernel
theorem dX9_steps_98 : decode cX9_steps 98 = .ok (.ifCond .ne 20, 3) := by decide +kernel
theorem dX9_steps_101 : decode cX9_steps 101 = .ok (.aload_n 0, 1) := by decide +kernel
theorem dX9_steps_102 : decode cX9_steps 102 = .ok (.getfield 16, 3) := by decide +kernel
theorem dX9_steps_105 : decode cX9_steps 105 = .ok (.iload_n 2, 1) := by decide +kernel
theorem dX9_steps_106 : decode cX9_steps 106 = .ok (.iconst 1, 1) := by decide +kernel
theorem dX9_steps_107 : decode cX9_steps 107 = .ok (.iadd, 1) := by decide +kernel
theorem dX9_steps_108 : decode cX9_steps 108 = .ok (.iaload, 1) := by decide +kernel
theorem dX9_steps_109 : decode cX9_steps 109 = .ok (.iconst 1, 1) := by decide +kernel
theorem dX9_steps_110 : decode cX9_steps 110 = .ok (.if_icmp .ne 8, 3) := by decide +kernel
theorem dX9_steps_113 : decode cX9_steps 113 = .ok (.aload_n 0, 1) := by decide +kernel
theorem dX9_steps_114 : decode cX9_steps 114 = .ok (.iload_n 1, 1) := by decide +kernel
theorem dX9_steps_115 : decode cX9_steps 115 = .ok (.invokevirtual 240, 3) := by decide +kernel
theorem dX9_steps_118 : decode cX9_steps 118 = .ok (.return_, 1) := by decide +kernel
theorem dX9_sumNow_0 : decode cX9_sumNow 0 = .ok (.bipush 17, 2) := by decide +kernel
theorem dX9_sumNow_2 : decode cX9_sumNow 2 = .ok (.istore_n 1, 1) := by decide +kernel
theorem dX9_sumNow_3 : decode cX9_sumNow 3 = .ok (.iconst 0, 1) := by decide +kernel
theorem dX9_sumNow_4 : decode cX9_sumNow 4 = .ok (.istore_n 2, 1) := by decide +kernel
theorem dX9_sumNow_5 : decode cX9_sumNow 5 = .ok (.iload_n 2, 1) := by decide +kernel
theorem dX9_sumNow_6 : decode cX9_sumNow 6 = .ok (.bipush 100, 2) := by decide +kernel
theorem dX9_sumNow_8 : decode cX9_sumNow 8 = .ok (.if_icmp .ge 21, 3) := by decide +kernel
theorem dX9_sumNow_11 : decode cX9_sumNow 11 = .ok (.bipush 31, 2) := by decide +kernel
theorem dX9_sumNow_13 : decode cX9_sumNow 13 = .ok (.iload_n 1, 1) := by decide +kernel
theorem dX9_sumNow_14 : decode cX9_sumNow 14 = .ok (.imul, 1) := by decide +kernel
theorem dX9_sumNow_15 : decode cX9_sumNow 15 = .ok (.aload_n 0, 1) := by decide +kernel
theorem dX9_sumNow_16 : decode cX9_sumNow 16 = .ok (.getfield 16, 3) := by decide +kernel
theorem dX9_sumNow_19 : decode cX9_sumNow 19 = .ok (.iload_n 2, 1) := by decide +kernel
theorem dX9_sumNow_20 : decode cX9_sumNow 20 = .ok (.iaload, 1) := by decide +kernel
theorem dX9_sumNow_21 : decode cX9_sumNow 21 = .ok (.iadd, 1) := by decide +kernel
theorem dX9_sumNow_22 : decode cX9_sumNow 22 = .ok (.istore_n 1, 1) := by decide +kernel
theorem dX9_sumNow_23 : decode cX9_sumNow 23 = .ok (.iinc 2 1, 3) := by decide +kernel
theorem dX9_sumNow_26 : decode cX9_sumNow 26 = .ok (.goto (-21), 3) := by decide +kernel
theorem dX9_sumNow_29 : decode cX9_sumNow 29 = .ok (.iload_n 1, 1) := by decide +kernel
theorem dX9_sumNow_30 : decode cX9_sumNow 30 = .ok (.ireturn, 1) := by decide +kernel
theorem dX9_swaps_0 : decode cX9_swaps 0 = .ok (.aload_n 0, 1) := by decide +kernel
theorem dX9_swaps_1 : decode cX9_swaps 1 = .ok (.getfield 16, 3) := by decide +kernel
theorem dX9_swaps_4 : decode cX9_swaps 4 = .ok (.iload_n 2, 1) := by decide +kernel
theorem dX9_swaps_5 : decode cX9_swaps 5 = .ok (.iaload, 1) := by decide +kernel
theorem dX9_swaps_6 : decode cX9_swaps 6 = .ok (.iload_n 3, 1) := by decide +kernel
theorem dX9_swaps_7 : decode cX9_swaps 7 = .ok (.invokestatic 177, 3) := by decide +kernel
theorem dX9_swaps_10 : decode cX9_swaps 10 = .ok (.ifCond .eq 35, 3) := by decide +kernel
theorem dX9_swaps_13 : decode cX9_swaps 13 = .ok (.aload_n 0, 1) := by decide +kernel
theorem dX9_swaps_14 : decode cX9_swaps 14 = .ok (.getfield 13, 3) := by decide +kernel
theorem dX9_swaps_17 : decode cX9_swaps 17 = .ok (.sipush 948, 3) := by decide +kernel
theorem dX9_swaps_20 : decode cX9_swaps 20 = .ok (.iaload, 1) := by decide +kernel
theorem dX9_swaps_21 : decode cX9_swaps 21 = .ok (.iconst 2, 1) := by decide +kernel
theorem dX9_swaps_22 : decode cX9_swaps 22 = .ok (.if_icmp .ne 19, 3) := by decide +kernel
theorem dX9_swaps_25 : decode cX9_swaps 25 = .ok (.aload_n 0, 1) := by decide +kernel
theorem dX9_swaps_26 : decode cX9_swaps 26 = .ok (.getfield 16, 3) := by decide +kernel
theorem dX9_swaps_29 : decode cX9_swaps 29 = .ok (.iload_n 2, 1) := by decide +kernel
theorem dX9_swaps_30 : decode cX9_swaps 30 = .ok (.iaload, 1) := by decide +kernel
theorem dX9_swaps_31 : decode cX9_swaps 31 = .ok (.invokestatic 118, 3) := by decide +kernel
theorem dX9_swaps_34 : decode cX9_swaps 34 = .ok (.iload_n 3, 1) := by decide +kernel
theorem dX9_swaps_35 : decode cX9_swaps 35 = .ok (.invokestatic 118, 3) := by decide +kernel
theorem dX9_swaps_38 : decode cX9_swaps 38 = .ok (.if_icmp .ne 7, 3) := by decide +kernel
theorem dX9_swaps_41 : decode cX9_swaps 41 = .ok (.iconst 1, 1) := by decide +kernel
theorem dX9_swaps_42 : decode cX9_swaps 42 = .ok (.goto 4, 3) := by decide +kernel
theorem dX9_swaps_45 : decode cX9_swaps 45 = .ok (.iconst 0, 1) := by decide +kernel
theorem dX9_swaps_46 : decode cX9_swaps 46 = .ok (.istore 5, 2) := by decide +kernel
theorem dX9_swaps_48 : decode cX9_swaps 48 = .ok (.iload 5, 2) := by decide +kernel
theorem dX9_swaps_50 : decode cX9_swaps 50 = .ok (.ifCond .eq 10, 3) := by decide +kernel
theorem dX9_swaps_53 : decode cX9_swaps 53 = .ok (.aload_n 0, 1) := by decide +kernel
theorem dX9_swaps_54 : decode cX9_swaps 54 = .ok (.iload_n 2, 1) := by decide +kernel
theorem dX9_swaps_55 : decode cX9_swaps 55 = .ok (.iload 4, 2) := by decide +kernel
theorem dX9_swaps_57 : decode cX9_swaps 57 = .ok (.invokevirtual 125, 3) := by decide +kernel
theorem dX9_swaps_60 : decode cX9_swaps 60 = .ok (.aload_n 0, 1) := by decide +kernel
theorem dX9_swaps_61 : decode cX9_swaps 61 = .ok (.iload_n 1, 1) := by decide +kernel
theorem dX9_swaps_62 : decode cX9_swaps 62 = .ok (.iconst 5, 1) := by decide +kernel
theorem dX9_swaps_63 : decode cX9_swaps 63 = .ok (.iload 5, 2) := by decide +kernel
theorem dX9_swaps_65 : decode cX9_swaps 65 = .ok (.ifCond .eq 7, 3) := by decide +kernel
theorem dX9_swaps_68 : decode cX9_swaps 68 = .ok (.iconst 1, 1) := by decide +kernel
theorem dX9_swaps_69 : decode cX9_swaps 69 = .ok (.goto 4, 3) := by decide +kernel
theorem dX9_swaps_72 : decode cX9_swaps 72 = .ok (.iconst 0, 1) := by decide +kernel
theorem dX9_swaps_73 : decode cX9_swaps 73 = .ok (.invokestatic 151, 3) := by decide +kernel
theorem dX9_swaps_76 : decode cX9_swaps 76 = .ok (.invokevirtual 147, 3) := by decide +kernel
theorem dX9_swaps_79 : decode cX9_swaps 79 = .ok (.iload 5, 2) := by decide +kernel
theorem dX9_swaps_81 : decode cX9_swaps 81 = .ok (.ifCond .eq 8, 3) := by decide +kernel
theorem dX9_swaps_84 : decode cX9_swaps 84 = .ok (.aload_n 0, 1) := by decide +kernel
theorem dX9_swaps_85 : decode cX9_swaps 85 = .ok (.iload_n 1, 1) := by decide +kernel
theorem dX9_swaps_86 : decode cX9_swaps 86 = .ok (.invokevirtual 195, 3) := by decide +kernel
theorem dX9_swaps_89 : decode cX9_swaps 89 = .ok (.return_, 1) := by decide +kernel
theorem dX9_takeRun_0 : decode cX9_takeRun 0 = .ok (.aload_n 0, 1) := by decide +kernel
theorem dX9_takeRun_1 : decode cX9_takeRun 1 = .ok (.iconst 1, 1) := by decide +kernel
theorem dX9_takeRun_2 : decode cX9_takeRun 2 = .ok (.invokevirtual 285, 3) := by decide +kernel
theorem dX9_takeRun_5 : decode cX9_takeRun 5 = .ok (.iconst 0, 1) := by decide +kernel
theorem dX9_takeRun_6 : decode cX9_takeRun 6 = .ok (.istore_n 1, 1) := by decide +kernel
theorem dX9_takeRun_7 : decode cX9_takeRun 7 = .ok (.iload_n 1, 1) := by decide +kernel
theorem dX9_takeRun_8 : decode cX9_takeRun 8 = .ok (.bipush 100, 2) := by decide +kernel
theorem dX9_takeRun_10 : decode cX9_takeRun 10 = .ok (.if_icmp .ge 21, 3) := by decide +kernel
theorem dX9_takeRun_13 : decode cX9_takeRun 13 = .ok (.aload_n 0, 1) := by decide +kernel
theorem dX9_takeRun_14 : decode cX9_takeRun 14 = .ok (.getfield 16, 3) := by decide +kernel
theorem dX9_takeRun_17 : decode cX9_takeRun 17 = .ok (.iload_n 1, 1) := by decide +kernel
theorem dX9_takeRun_18 : decode cX9_takeRun 18 = .ok (.aload_n 0, 1) := by decide +kernel
theorem dX9_takeRun_19 : decode cX9_takeRun 19 = .ok (.getfield 25, 3) := by decide +kernel
theorem dX9_takeRun_22 : decode cX9_takeRun 22 = .ok (.iload_n 1, 1) := by decide +kernel
theorem dX9_takeRun_23 : decode cX9_takeRun 23 = .ok (.iaload, 1) := by decide +kernel
theorem dX9_takeRun_24 : decode cX9_takeRun 24 = .ok (.iastore, 1) := by decide +kernel
theorem dX9_takeRun_25 : decode cX9_takeRun 25 = .ok (.iinc 1 1, 3) := by decide +kernel
theorem dX9_takeRun_28 : decode cX9_takeRun 28 = .ok (.goto (-21), 3) := by decide +kernel
theorem dX9_takeRun_31 : decode cX9_takeRun 31 = .ok (.return_, 1) := by decide +kernel
theorem dX9_takes_0 : decode cX9_takes 0 = .ok (.aload_n 0, 1) := by decide +kernel
theorem dX9_takes_1 : decode cX9_takes 1 = .ok (.getfield 249, 3) := by decide +kernel
theorem dX9_takes_4 : decode cX9_takes 4 = .ok (.aload_n 0, 1) := by decide +kernel
theorem dX9_takes_5 : decode cX9_takes 5 = .ok (.getfield 258, 3) := by decide +kernel
theorem dX9_takes_8 : decode cX9_takes 8 = .ok (.if_icmp .ne 6, 3) := by decide +kernel
theorem dX9_takes_11 : decode cX9_takes 11 = .ok (.bipush (-100), 2) := by decide +kernel
theorem dX9_takes_13 : decode cX9_takes 13 = .ok (.ireturn, 1) := by decide +kernel
theorem dX9_takes_14 : decode cX9_takes 14 = .ok (.iload_n 1, 1) := by decide +kernel
theorem dX9_takes_15 : decode cX9_takes 15 = .ok (.iconst 1, 1) := by decide +kernel
theorem dX9_takes_16 : decode cX9_takes 16 = .ok (.if_icmp .ne 23, 3) := by decide +kernel
theorem dX9_takes_19 : decode cX9_takes 19 = .ok (.aload_n 0, 1) := by decide +kernel
theorem dX9_takes_20 : decode cX9_takes 20 = .ok (.dup, 1) := by decide +kernel
theorem dX9_takes_21 : decode cX9_takes 21 = .ok (.getfield 249, 3) := by decide +kernel
theorem dX9_takes_24 : decode cX9_takes 24 = .ok (.iconst 1, 1) := by decide +kernel
theorem dX9_takes_25 : decode cX9_takes 25 = .ok (.isub, 1) := by decide +kernel
theorem dX9_takes_26 : decode cX9_takes 26 = .ok (.putfield 249, 3) := by decide +kernel
theorem dX9_takes_29 : decode cX9_takes 29 = .ok (.aload_n 0, 1) := by decide +kernel
theorem dX9_takes_30 : decode cX9_takes 30 = .ok (.getfield 19, 3) := by decide +kernel
theorem dX9_takes_33 : decode cX9_takes 33 = .ok (.aload_n 0, 1) := by decide +kernel
theorem dX9_takes_34 : decode cX9_takes 34 = .ok (.getfield 249, 3) := by decide +kernel
theorem dX9_takes_37 : decode cX9_takes 37 = .ok (.iaload, 1) := by decide +kernel
theorem dX9_takes_38 : decode cX9_takes 38 = .ok (.ireturn, 1) := by decide +kernel
theorem dX9_takes_39 : decode cX9_takes 39 = .ok (.aload_n 0, 1) := by decide +kernel
theorem dX9_takes_40 : decode cX9_takes 40 = .ok (.dup, 1) := by decide +kernel
theorem dX9_takes_41 : decode cX9_takes 41 = .ok (.getfield 258, 3) := by decide +kernel
theorem dX9_takes_44 : decode cX9_takes 44 = .ok (.iconst 1, 1) := by decide +kernel
theorem dX9_takes_45 : decode cX9_takes 45 = .ok (.iadd, 1) := by decide +kernel
theorem dX9_takes_46 : decode cX9_takes 46 = .ok (.putfield 258, 3) := by decide +kernel
theorem dX9_takes_49 : decode cX9_takes 49 = .ok (.aload_n 0, 1) := by decide +kernel
theorem dX9_takes_50 : decode cX9_takes 50 = .ok (.getfield 19, 3) := by decide +kernel
theorem dX9_takes_53 : decode cX9_takes 53 = .ok (.aload_n 0, 1) := by decide +kernel
theorem dX9_takes_54 : decode cX9_takes 54 = .ok (.getfield 258, 3) := by decide +kernel
theorem dX9_takes_57 : decode cX9_takes 57 = .ok (.iconst 1, 1) := by decide +kernel
theorem dX9_takes_58 : decode cX9_takes 58 = .ok (.isub, 1) := by decide +kernel
theorem dX9_takes_59 : decode cX9_takes 59 = .ok (.iaload, 1) := by decide +kernel
theorem dX9_takes_60 : decode cX9_takes 60 = .ok (.ireturn, 1) := by decide +kernel
theorem dX9_tear_0 : decode cX9_tear 0 = .ok (.iload_n 1, 1) := by decide +kernel
theorem dX9_tear_1 : decode cX9_tear 1 = .ok (.invokestatic 99, 3) := by decide +kernel
theorem dX9_tear_4 : decode cX9_tear 4 = .ok (.ifCond .eq 38, 3) := by decide +kernel
theorem dX9_tear_7 : decode cX9_tear 7 = .ok (.iload_n 2, 1) := by decide +kernel
theorem dX9_tear_8 : decode cX9_tear 8 = .ok (.i2l, 1) := by decide +kernel
theorem dX9_tear_9 : decode cX9_tear 9 = .ok (.ldc2_w 106, 3) := by decide +kernel
theorem dX9_tear_12 : decode cX9_tear 12 = .ok (.aload_n 0, 1) := by decide +kernel
theorem dX9_tear_13 : decode cX9_tear 13 = .ok (.getfield 7, 3) := by decide +kernel
theorem dX9_tear_16 : decode cX9_tear 16 = .ok (.iconst 0, 1) := by decide +kernel
theorem dX9_tear_17 : decode cX9_tear 17 = .ok (.iload_n 1, 1) := by decide +kernel
theorem dX9_tear_18 : decode cX9_tear 18 = .ok (.iadd, 1) := by decide +kernel
theorem dX9_tear_19 : decode cX9_tear 19 = .ok (.iaload, 1) := by decide +kernel
theorem dX9_tear_20 : decode cX9_tear 20 = .ok (.ifCond .ge 7, 3) := by decide +kernel
theorem dX9_tear_23 : decode cX9_tear 23 = .ok (.lconst 0, 1) := by decide +kernel
theorem dX9_tear_24 : decode cX9_tear 24 = .ok (.goto 12, 3) := by decide +kernel
theorem dX9_tear_27 : decode cX9_tear 27 = .ok (.aload_n 0, 1) := by decide +kernel
theorem dX9_tear_28 : decode cX9_tear 28 = .ok (.getfield 7, 3) := by decide +kernel
theorem dX9_tear_31 : decode cX9_tear 31 = .ok (.iconst 0, 1) := by decide +kernel
theorem dX9_tear_32 : decode cX9_tear 32 = .ok (.iload_n 1, 1) := by decide +kernel
theorem dX9_tear_33 : decode cX9_tear 33 = .ok (.iadd, 1) := by decide +kernel
theorem dX9_tear_34 : decode cX9_tear 34 = .ok (.iaload, 1) := by decide +kernel
theorem dX9_tear_35 : decode cX9_tear 35 = .ok (.i2l, 1) := by decide +kernel
theorem dX9_tear_36 : decode cX9_tear 36 = .ok (.invokestatic 68, 3) := by decide +kernel
theorem dX9_tear_39 : decode cX9_tear 39 = .ok (.ifCond .ne 5, 3) := by decide +kernel
theorem dX9_tear_42 : decode cX9_tear 42 = .ok (.iconst (-1), 1) := by decide +kernel
theorem dX9_tear_43 : decode cX9_tear 43 = .ok (.ireturn, 1) := by decide +kernel
theorem dX9_tear_44 : decode cX9_tear 44 = .ok (.aload_n 0, 1) := by decide +kernel
theorem dX9_tear_45 : decode cX9_tear 45 = .ok (.getfield 7, 3) := by decide +kernel
theorem dX9_tear_48 : decode cX9_tear 48 = .ok (.iconst 0, 1) := by decide +kernel
theorem dX9_tear_49 : decode cX9_tear 49 = .ok (.iload_n 1, 1) := by decide +kernel
theorem dX9_tear_50 : decode cX9_tear 50 = .ok (.iadd, 1) := by decide +kernel
theorem dX9_tear_51 : decode cX9_tear 51 = .ok (.iaload, 1) := by decide +kernel
theorem dX9_tear_52 : decode cX9_tear 52 = .ok (.ifCond .ge 7, 3) := by decide +kernel
theorem dX9_tear_55 : decode cX9_tear 55 = .ok (.iconst 0, 1) := by decide +kernel
theorem dX9_tear_56 : decode cX9_tear 56 = .ok (.goto 11, 3) := by decide +kernel
theorem dX9_tear_59 : decode cX9_tear 59 = .ok (.aload_n 0, 1) := by decide +kernel
theorem dX9_tear_60 : decode cX9_tear 60 = .ok (.getfield 7, 3) := by decide +kernel
theorem dX9_tear_63 : decode cX9_tear 63 = .ok (.iconst 0, 1) := by decide +kernel
theorem dX9_tear_64 : decode cX9_tear 64 = .ok (.iload_n 1, 1) := by decide +kernel
theorem dX9_tear_65 : decode cX9_tear 65 = .ok (.iadd, 1) := by decide +kernel
theorem dX9_tear_66 : decode cX9_tear 66 = .ok (.iaload, 1) := by decide +kernel
theorem dX9_tear_67 : decode cX9_tear 67 = .ok (.istore_n 3, 1) := by decide +kernel
theorem dX9_tear_68 : decode cX9_tear 68 = .ok (.aload_n 0, 1) := by decide +kernel
theorem dX9_tear_69 : decode cX9_tear 69 = .ok (.getfield 7, 3) := by decide +kernel
theorem dX9_tear_72 : decode cX9_tear 72 = .ok (.iconst 0, 1) := by decide +kernel
theorem dX9_tear_73 : decode cX9_tear 73 = .ok (.iload_n 1, 1) := by decide +kernel
theorem dX9_tear_74 : decode cX9_tear 74 = .ok (.iadd, 1) := by decide +kernel
theorem dX9_tear_75 : decode cX9_tear 75 = .ok (.iload_n 2, 1) := by decide +kernel
theorem dX9_tear_76 : decode cX9_tear 76 = .ok (.iastore, 1) := by decide +kernel
theorem dX9_tear_77 : decode cX9_tear 77 = .ok (.iload_n 3, 1) := by decide +kernel
theorem dX9_tear_78 : decode cX9_tear 78 = .ok (.ireturn, 1) := by decide +kernel
theorem dX9_thread_0 : decode cX9_thread 0 = .ok (.iload_n 1, 1) := by decide +kernel
theorem dX9_thread_1 : decode cX9_thread 1 = .ok (.i2l, 1) := by decide +kernel
theorem dX9_thread_2 : decode cX9_thread 2 = .ok (.lconst 0, 1) := by decide +kernel
theorem dX9_thread_3 : decode cX9_thread 3 = .ok (.ldc2_w 108, 3) := by decide +kernel
theorem dX9_thread_6 : decode cX9_thread 6 = .ok (.invokestatic 68, 3) := by decide +kernel
theorem dX9_thread_9 : decode cX9_thread 9 = .ok (.ifCond .eq 15, 3) := by decide +kernel
theorem dX9_thread_12 : decode cX9_thread 12 = .ok (.iload_n 2, 1) := by decide +kernel
theorem dX9_thread_13 : decode cX9_thread 13 = .ok (.i2l, 1) := by decide +kernel
theorem dX9_thread_14 : decode cX9_thread 14 = .ok (.lconst 0, 1) := by decide +kernel
theorem dX9_thread_15 : decode cX9_thread 15 = .ok (.ldc2_w 78, 3) := by decide +kernel
theorem dX9_thread_18 : decode cX9_thread 18 = .ok (.invokestatic 68, 3) := by decide +kernel
theorem dX9_thread_21 : decode cX9_thread 21 = .ok (.ifCond .ne 5, 3) := by decide +kernel
theorem dX9_thread_24 : decode cX9_thread 24 = .ok (.iconst (-1), 1) := by decide +kernel
theorem dX9_thread_25 : decode cX9_thread 25 = .ok (.ireturn, 1) := by decide +kernel
theorem dX9_thread_26 : decode cX9_thread 26 = .ok (.aload_n 0, 1) := by decide +kernel
theorem dX9_thread_27 : decode cX9_thread 27 = .ok (.getfield 291, 3) := by decide +kernel
theorem dX9_thread_30 : decode cX9_thread 30 = .ok (.ifCond .ne 6, 3) := by decide +kernel
theorem dX9_thread_33 : decode cX9_thread 33 = .ok (.bipush (-2), 2) := by decide +kernel
theorem dX9_thread_35 : decode cX9_thread 35 = .ok (.ireturn, 1) := by decide +kernel
theorem dX9_thread_36 : decode cX9_thread 36 = .ok (.iload_n 1, 1) := by decide +kernel
theorem dX9_thread_37 : decode cX9_thread 37 = .ok (.invokestatic 122, 3) := by decide +kernel
theorem dX9_thread_40 : decode cX9_thread 40 = .ok (.istore_n 3, 1) := by decide +kernel
theorem dX9_thread_41 : decode cX9_thread 41 = .ok (.iload_n 2, 1) := by decide +kernel
theorem dX9_thread_42 : decode cX9_thread 42 = .ok (.tableswitch 119 0 7 #[46, 55, 64, 73, 82, 119, 119, 92], 46) := by decide +kernel
theorem dX9_thread_88 : decode cX9_thread 88 = .ok (.aload_n 0, 1) := by decide +kernel
theorem dX9_thread_89 : decode cX9_thread 89 = .ok (.getfield 25, 3) := by decide +kernel
theorem dX9_thread_92 : decode cX9_thread 92 = .ok (.iload_n 3, 1) := by decide +kernel
theorem dX9_thread_93 : decode cX9_thread 93 = .ok (.iconst 0, 1) := by decide +kernel
theorem dX9_thread_94 : decode cX9_thread 94 = .ok (.iadd, 1) := by decide +kernel
theorem dX9_thread_95 : decode cX9_thread 95 = .ok (.iaload, 1) := by decide +kernel
theorem dX9_thread_96 : decode cX9_thread 96 = .ok (.ireturn, 1) := by decide +kernel
theorem dX9_thread_97 : decode cX9_thread 97 = .ok (.aload_n 0, 1) := by decide +kernel
theorem dX9_thread_98 : decode cX9_thread 98 = .ok (.getfield 25, 3) := by decide +kernel
theorem dX9_thread_101 : decode cX9_thread 101 = .ok (.iload_n 3, 1) := by decide +kernel
theorem dX9_thread_102 : decode cX9_thread 102 = .ok (.iconst 1, 1) := by decide +kernel
theorem dX9_thread_103 : decode cX9_thread 103 = .ok (.iadd, 1) := by decide +kernel
theorem dX9_thread_104 : decode cX9_thread 104 = .ok (.iaload, 1) := by decide +kernel
theorem dX9_thread_105 : decode cX9_thread 105 = .ok (.ireturn, 1) := by decide +kernel
theorem dX9_thread_106 : decode cX9_thread 106 = .ok (.aload_n 0, 1) := by decide +kernel
theorem dX9_thread_107 : decode cX9_thread 107 = .ok (.getfield 25, 3) := by decide +kernel
theorem dX9_thread_110 : decode cX9_thread 110 = .ok (.iload_n 3, 1) := by decide +kernel
theorem dX9_thread_111 : decode cX9_thread 111 = .ok (.iconst 2, 1) := by decide +kernel
theorem dX9_thread_112 : decode cX9_thread 112 = .ok (.iadd, 1) := by decide +kernel
theorem dX9_thread_113 : decode cX9_thread 113 = .ok (.iaload, 1) := by decide +kernel
theorem dX9_thread_114 : decode cX9_thread 114 = .ok (.ireturn, 1) := by decide +kernel
theorem dX9_thread_115 : decode cX9_thread 115 = .ok (.aload_n 0, 1) := by decide +kernel
theorem dX9_thread_116 : decode cX9_thread 116 = .ok (.getfield 25, 3) := by decide +kernel
theorem dX9_thread_119 : decode cX9_thread 119 = .ok (.iload_n 3, 1) := by decide +kernel
theorem dX9_thread_120 : decode cX9_thread 120 = .ok (.iconst 3, 1) := by decide +kernel
theorem dX9_thread_121 : decode cX9_thread 121 = .ok (.iadd, 1) := by decide +kernel
theorem dX9_thread_122 : decode cX9_thread 122 = .ok (.iaload, 1) := by decide +kernel
theorem dX9_thread_123 : decode cX9_thread 123 = .ok (.ireturn, 1) := by decide +kernel
theorem dX9_thread_124 : decode cX9_thread 124 = .ok (.aload_n 0, 1) := by decide +kernel
theorem dX9_thread_125 : decode cX9_thread 125 = .ok (.getfield 25, 3) := by decide +kernel
theorem dX9_thread_128 : decode cX9_thread 128 = .ok (.iload_n 3, 1) := by decide +kernel
theorem dX9_thread_129 : decode cX9_thread 129 = .ok (.bipush 7, 2) := by decide +kernel
theorem dX9_thread_131 : decode cX9_thread 131 = .ok (.iadd, 1) := by decide +kernel
theorem dX9_thread_132 : decode cX9_thread 132 = .ok (.iaload, 1) := by decide +kernel
theorem dX9_thread_133 : decode cX9_thread 133 = .ok (.ireturn, 1) := by decide +kernel
theorem dX9_thread_134 : decode cX9_thread 134 = .ok (.aload_n 0, 1) := by decide +kernel
theorem dX9_thread_135 : decode cX9_thread 135 = .ok (.getfield 25, 3) := by decide +kernel
theorem dX9_thread_138 : decode cX9_thread 138 = .ok (.iload_n 3, 1) := by decide +kernel
theorem dX9_thread_139 : decode cX9_thread 139 = .ok (.iconst 4, 1) := by decide +kernel
theorem dX9_thread_140 : decode cX9_thread 140 = .ok (.iadd, 1) := by decide +kernel
theorem dX9_thread_141 : decode cX9_thread 141 = .ok (.iaload, 1) := by decide +kernel
theorem dX9_thread_142 : decode cX9_thread 142 = .ok (.ifCond .ne 8, 3) := by decide +kernel
theorem dX9_thread_145 : decode cX9_thread 145 = .ok (.bipush (-4), 2) := by decide +kernel
theorem dX9_thread_147 : decode cX9_thread 147 = .ok (.goto 13, 3) := by decide +kernel
theorem dX9_thread_150 : decode cX9_thread 150 = .ok (.aload_n 0, 1) := by decide +kernel
theorem dX9_thread_151 : decode cX9_thread 151 = .ok (.getfield 25, 3) := by decide +kernel
theorem dX9_thread_154 : decode cX9_thread 154 = .ok (.iload_n 3, 1) := by decide +kernel
theorem dX9_thread_155 : decode cX9_thread 155 = .ok (.iconst 4, 1) := by decide +kernel
theorem dX9_thread_156 : decode cX9_thread 156 = .ok (.iadd, 1) := by decide +kernel
theorem dX9_thread_157 : decode cX9_thread 157 = .ok (.iaload, 1) := by decide +kernel
theorem dX9_thread_158 : decode cX9_thread 158 = .ok (.iconst 1, 1) := by decide +kernel
theorem dX9_thread_159 : decode cX9_thread 159 = .ok (.isub, 1) := by decide +kernel
theorem dX9_thread_160 : decode cX9_thread 160 = .ok (.ireturn, 1) := by decide +kernel
theorem dX9_thread_161 : decode cX9_thread 161 = .ok (.aload_n 0, 1) := by decide +kernel
theorem dX9_thread_162 : decode cX9_thread 162 = .ok (.getfield 25, 3) := by decide +kernel
theorem dX9_thread_165 : decode cX9_thread 165 = .ok (.iload_n 3, 1) := by decide +kernel
theorem dX9_thread_166 : decode cX9_thread 166 = .ok (.iconst 5, 1) := by decide +kernel
theorem dX9_thread_167 : decode cX9_thread 167 = .ok (.iadd, 1) := by decide +kernel
theorem dX9_thread_168 : decode cX9_thread 168 = .ok (.iload_n 2, 1) := by decide +kernel
theorem dX9_thread_169 : decode cX9_thread 169 = .ok (.iadd, 1) := by decide +kernel
theorem dX9_thread_170 : decode cX9_thread 170 = .ok (.iconst 5, 1) := by decide +kernel
theorem dX9_thread_171 : decode cX9_thread 171 = .ok (.isub, 1) := by decide +kernel
theorem dX9_thread_172 : decode cX9_thread 172 = .ok (.iaload, 1) := by decide +kernel
theorem dX9_thread_173 : decode cX9_thread 173 = .ok (.ifCond .ne 8, 3) := by decide +kernel
theorem dX9_thread_176 : decode cX9_thread 176 = .ok (.bipush (-4), 2) := by decide +kernel
theorem dX9_thread_178 : decode cX9_thread 178 = .ok (.goto 17, 3) := by decide +kernel
theorem dX9_thread_181 : decode cX9_thread 181 = .ok (.aload_n 0, 1) := by decide +kernel
theorem dX9_thread_182 : decode cX9_thread 182 = .ok (.getfield 25, 3) := by decide +kernel
theorem dX9_thread_185 : decode cX9_thread 185 = .ok (.iload_n 3, 1) := by decide +kernel
theorem dX9_thread_186 : decode cX9_thread 186 = .ok (.iconst 5, 1) := by decide +kernel
theorem dX9_thread_187 : decode cX9_thread 187 = .ok (.iadd, 1) := by decide +kernel
theorem dX9_thread_188 : decode cX9_thread 188 = .ok (.iload_n 2, 1) := by decide +kernel
theorem dX9_thread_189 : decode cX9_thread 189 = .ok (.iadd, 1) := by decide +kernel
theorem dX9_thread_190 : decode cX9_thread 190 = .ok (.iconst 5, 1) := by decide +kernel
theorem dX9_thread_191 : decode cX9_thread 191 = .ok (.isub, 1) := by decide +kernel
theorem dX9_thread_192 : decode cX9_thread 192 = .ok (.iaload, 1) := by decide +kernel
theorem dX9_thread_193 : decode cX9_thread 193 = .ok (.iconst 1, 1) := by decide +kernel
theorem dX9_thread_194 : decode cX9_thread 194 = .ok (.isub, 1) := by decide +kernel
theorem dX9_thread_195 : decode cX9_thread 195 = .ok (.ireturn, 1) := by decide +kernel
theorem dX9_told_0 : decode cX9_told 0 = .ok (.iload_n 1, 1) := by decide +kernel
theorem dX9_told_1 : decode cX9_told 1 = .ok (.invokestatic 99, 3) := by decide +kernel
theorem dX9_told_4 : decode cX9_told 4 = .ok (.ifCond .ne 7, 3) := by decide +kernel
theorem dX9_told_7 : decode cX9_told 7 = .ok (.sipush (-1000), 3) := by decide +kernel
theorem dX9_told_10 : decode cX9_told 10 = .ok (.ireturn, 1) := by decide +kernel
theorem dX9_told_11 : decode cX9_told 11 = .ok (.iload_n 2, 1) := by decide +kernel
theorem dX9_told_12 : decode cX9_told 12 = .ok (.iconst (-1), 1) := by decide +kernel
theorem dX9_told_13 : decode cX9_told 13 = .ok (.if_icmp .ne 56, 3) := by decide +kernel
theorem dX9_told_16 : decode cX9_told 16 = .ok (.iload_n 3, 1) := by decide +kernel
theorem dX9_told_17 : decode cX9_told 17 = .ok (.ifCond .ne 30, 3) := by decide +kernel
theorem dX9_told_20 : decode cX9_told 20 = .ok (.aload_n 0, 1) := by decide +kernel
theorem dX9_told_21 : decode cX9_told 21 = .ok (.getfield 7, 3) := by decide +kernel
theorem dX9_told_24 : decode cX9_told 24 = .ok (.iconst 0, 1) := by decide +kernel
theorem dX9_told_25 : decode cX9_told 25 = .ok (.iload_n 1, 1) := by decide +kernel
theorem dX9_told_26 : decode cX9_told 26 = .ok (.iadd, 1) := by decide +kernel
theorem dX9_told_27 : decode cX9_told 27 = .ok (.iaload, 1) := by decide +kernel
theorem dX9_told_28 : decode cX9_told 28 = .ok (.ifCond .ge 8, 3) := by decide +kernel
theorem dX9_told_31 : decode cX9_told 31 = .ok (.bipush (-4), 2) := by decide +kernel
theorem dX9_told_33 : decode cX9_told 33 = .ok (.goto 35, 3) := by decide +kernel
theorem dX9_told_36 : decode cX9_told 36 = .ok (.aload_n 0, 1) := by decide +kernel
theorem dX9_told_37 : decode cX9_told 37 = .ok (.getfield 7, 3) := by decide +kernel
theorem dX9_told_40 : decode cX9_told 40 = .ok (.iconst 0, 1) := by decide +kernel
theorem dX9_told_41 : decode cX9_told 41 = .ok (.iload_n 1, 1) := by decide +kernel
theorem dX9_told_42 : decode cX9_told 42 = .ok (.iadd, 1) := by decide +kernel
theorem dX9_told_43 : decode cX9_told 43 = .ok (.iaload, 1) := by decide +kernel
theorem dX9_told_44 : decode cX9_told 44 = .ok (.goto 24, 3) := by decide +kernel
theorem dX9_told_47 : decode cX9_told 47 = .ok (.iload_n 3, 1) := by decide +kernel
theorem dX9_told_48 : decode cX9_told 48 = .ok (.iconst 1, 1) := by decide +kernel
theorem dX9_told_49 : decode cX9_told 49 = .ok (.if_icmp .ne 16, 3) := by decide +kernel
theorem dX9_told_52 : decode cX9_told 52 = .ok (.aload_n 0, 1) := by decide +kernel
theorem dX9_told_53 : decode cX9_told 53 = .ok (.getfield 7, 3) := by decide +kernel
theorem dX9_told_56 : decode cX9_told 56 = .ok (.sipush 726, 3) := by decide +kernel
theorem dX9_told_59 : decode cX9_told 59 = .ok (.iload_n 1, 1) := by decide +kernel
theorem dX9_told_60 : decode cX9_told 60 = .ok (.iadd, 1) := by decide +kernel
theorem dX9_told_61 : decode cX9_told 61 = .ok (.iaload, 1) := by decide +kernel
theorem dX9_told_62 : decode cX9_told 62 = .ok (.goto 6, 3) := by decide +kernel
theorem dX9_told_65 : decode cX9_told 65 = .ok (.sipush (-1000), 3) := by decide +kernel
theorem dX9_told_68 : decode cX9_told 68 = .ok (.ireturn, 1) := by decide +kernel
theorem dX9_told_69 : decode cX9_told 69 = .ok (.aload_n 0, 1) := by decide +kernel
theorem dX9_told_70 : decode cX9_told 70 = .ok (.iload_n 1, 1) := by decide +kernel
theorem dX9_told_71 : decode cX9_told 71 = .ok (.iload_n 2, 1) := by decide +kernel
theorem dX9_told_72 : decode cX9_told 72 = .ok (.invokevirtual 110, 3) := by decide +kernel
theorem dX9_told_75 : decode cX9_told 75 = .ok (.ifCond .eq 15, 3) := by decide +kernel
theorem dX9_told_78 : decode cX9_told 78 = .ok (.iload_n 3, 1) := by decide +kernel
theorem dX9_told_79 : decode cX9_told 79 = .ok (.i2l, 1) := by decide +kernel
theorem dX9_told_80 : decode cX9_told 80 = .ok (.lconst 0, 1) := by decide +kernel
theorem dX9_told_81 : decode cX9_told 81 = .ok (.ldc2_w 116, 3) := by decide +kernel
theorem dX9_told_84 : decode cX9_told 84 = .ok (.invokestatic 68, 3) := by decide +kernel
theorem dX9_told_87 : decode cX9_told 87 = .ok (.ifCond .ne 7, 3) := by decide +kernel
theorem dX9_told_90 : decode cX9_told 90 = .ok (.sipush (-1000), 3) := by decide +kernel
theorem dX9_told_93 : decode cX9_told 93 = .ok (.ireturn, 1) := by decide +kernel
theorem dX9_told_94 : decode cX9_told 94 = .ok (.iload_n 3, 1) := by decide +kernel
theorem dX9_told_95 : decode cX9_told 95 = .ok (.iconst 4, 1) := by decide +kernel
theorem dX9_told_96 : decode cX9_told 96 = .ok (.if_icmp .ne 21, 3) := by decide +kernel
theorem dX9_told_99 : decode cX9_told 99 = .ok (.aload_n 0, 1) := by decide +kernel
theorem dX9_told_100 : decode cX9_told 100 = .ok (.getfield 7, 3) := by decide +kernel
theorem dX9_told_103 : decode cX9_told 103 = .ok (.sipush 732, 3) := by decide +kernel
theorem dX9_told_106 : decode cX9_told 106 = .ok (.bipush 30, 2) := by decide +kernel
theorem dX9_told_108 : decode cX9_told 108 = .ok (.iload_n 1, 1) := by decide +kernel
theorem dX9_told_109 : decode cX9_told 109 = .ok (.imul, 1) := by decide +kernel
theorem dX9_told_110 : decode cX9_told 110 = .ok (.iadd, 1) := by decide +kernel
theorem dX9_told_111 : decode cX9_told 111 = .ok (.iload_n 2, 1) := by decide +kernel
theorem dX9_told_112 : decode cX9_told 112 = .ok (.iadd, 1) := by decide +kernel
theorem dX9_told_113 : decode cX9_told 113 = .ok (.iaload, 1) := by decide +kernel
theorem dX9_told_114 : decode cX9_told 114 = .ok (.goto 21, 3) := by decide +kernel
theorem dX9_told_117 : decode cX9_told 117 = .ok (.aload_n 0, 1) := by decide +kernel
theorem dX9_told_118 : decode cX9_told 118 = .ok (.getfield 7, 3) := by decide +kernel
theorem dX9_told_121 : decode cX9_told 121 = .ok (.bipush 6, 2) := by decide +kernel
theorem dX9_told_123 : decode cX9_told 123 = .ok (.bipush 120, 2) := by decide +kernel
theorem dX9_told_125 : decode cX9_told 125 = .ok (.iload_n 1, 1) := by decide +kernel
theorem dX9_told_126 : decode cX9_told 126 = .ok (.imul, 1) := by decide +kernel
theorem dX9_told_127 : decode cX9_told 127 = .ok (.iadd, 1) := by decide +kernel
theorem dX9_told_128 : decode cX9_told 128 = .ok (.iconst 4, 1) := by decide +kernel
theorem dX9_told_129 : decode cX9_told 129 = .ok (.iload_n 2, 1) := by decide +kernel
theorem dX9_told_130 : decode cX9_told 130 = .ok (.imul, 1) := by decide +kernel
theorem dX9_told_131 : decode cX9_told 131 = .ok (.iadd, 1) := by decide +kernel
theorem dX9_told_132 : decode cX9_told 132 = .ok (.iload_n 3, 1) := by decide +kernel
theorem dX9_told_133 : decode cX9_told 133 = .ok (.iadd, 1) := by decide +kernel
theorem dX9_told_134 : decode cX9_told 134 = .ok (.iaload, 1) := by decide +kernel
theorem dX9_told_135 : decode cX9_told 135 = .ok (.ireturn, 1) := by decide +kernel
theorem dX9_use_0 : decode cX9_use 0 = .ok (.iconst 0, 1) := by decide +kernel
theorem dX9_use_1 : decode cX9_use 1 = .ok (.istore_n 2, 1) := by decide +kernel
theorem dX9_use_2 : decode cX9_use 2 = .ok (.iload_n 2, 1) := by decide +kernel
theorem dX9_use_3 : decode cX9_use 3 = .ok (.sipush 960, 3) := by decide +kernel
theorem dX9_use_6 : decode cX9_use 6 = .ok (.if_icmp .ge 27, 3) := by decide +kernel
theorem dX9_use_9 : decode cX9_use 9 = .ok (.aload_n 0, 1) := by decide +kernel
theorem dX9_use_10 : decode cX9_use 10 = .ok (.getfield 13, 3) := by decide +kernel
theorem dX9_use_13 : decode cX9_use 13 = .ok (.iload_n 2, 1) := by decide +kernel
theorem dX9_use_14 : decode cX9_use 14 = .ok (.aload_n 0, 1) := by decide +kernel
theorem dX9_use_15 : decode cX9_use 15 = .ok (.getfield 7, 3) := by decide +kernel
theorem dX9_use_18 : decode cX9_use 18 = .ok (.sipush 960, 3) := by decide +kernel
theorem dX9_use_21 : decode cX9_use 21 = .ok (.iload_n 1, 1) := by decide +kernel
theorem dX9_use_22 : decode cX9_use 22 = .ok (.imul, 1) := by decide +kernel
theorem dX9_use_23 : decode cX9_use 23 = .ok (.iload_n 2, 1) := by decide +kernel
theorem dX9_use_24 : decode cX9_use 24 = .ok (.iadd, 1) := by decide +kernel
theorem dX9_use_25 : decode cX9_use 25 = .ok (.iaload, 1) := by decide +kernel
theorem dX9_use_26 : decode cX9_use 26 = .ok (.iastore, 1) := by decide +kernel
theorem dX9_use_27 : decode cX9_use 27 = .ok (.iinc 2 1, 3) := by decide +kernel
theorem dX9_use_30 : decode cX9_use 30 = .ok (.goto (-28), 3) := by decide +kernel
theorem dX9_use_33 : decode cX9_use 33 = .ok (.return_, 1) := by decide +kernel
theorem dX9_walk_0 : decode cX9_walk 0 = .ok (.iload_n 2, 1) := by decide +kernel
theorem dX9_walk_1 : decode cX9_walk 1 = .ok (.ifCond .ge 5, 3) := by decide +kernel
theorem dX9_walk_4 : decode cX9_walk 4 = .ok (.iconst (-1), 1) := by decide +kernel
theorem dX9_walk_5 : decode cX9_walk 5 = .ok (.ireturn, 1) := by decide +kernel
theorem dX9_walk_6 : decode cX9_walk 6 = .ok (.aload_n 0, 1) := by decide +kernel
theorem dX9_walk_7 : decode cX9_walk 7 = .ok (.iload_n 1, 1) := by decide +kernel
theorem dX9_walk_8 : decode cX9_walk 8 = .ok (.invokevirtual 382, 3) := by decide +kernel
theorem dX9_walk_11 : decode cX9_walk 11 = .ok (.ifCond .ne 6, 3) := by decide +kernel
theorem dX9_walk_14 : decode cX9_walk 14 = .ok (.bipush (-2), 2) := by decide +kernel
theorem dX9_walk_16 : decode cX9_walk 16 = .ok (.ireturn, 1) := by decide +kernel
theorem dX9_walk_17 : decode cX9_walk 17 = .ok (.aload_n 0, 1) := by decide +kernel
theorem dX9_walk_18 : decode cX9_walk 18 = .ok (.iload_n 1, 1) := by decide +kernel
theorem dX9_walk_19 : decode cX9_walk 19 = .ok (.invokevirtual 385, 3) := by decide +kernel
theorem dX9_walk_22 : decode cX9_walk 22 = .ok (.istore_n 3, 1) := by decide +kernel
theorem dX9_walk_23 : decode cX9_walk 23 = .ok (.iload_n 2, 1) := by decide +kernel
theorem dX9_walk_24 : decode cX9_walk 24 = .ok (.iload_n 3, 1) := by decide +kernel
theorem dX9_walk_25 : decode cX9_walk 25 = .ok (.if_icmp .lt 6, 3) := by decide +kernel
theorem dX9_walk_28 : decode cX9_walk 28 = .ok (.bipush (-4), 2) := by decide +kernel
theorem dX9_walk_30 : decode cX9_walk 30 = .ok (.ireturn, 1) := by decide +kernel
theorem dX9_walk_31 : decode cX9_walk 31 = .ok (.iload_n 1, 1) := by decide +kernel
theorem dX9_walk_32 : decode cX9_walk 32 = .ok (.istore 4, 2) := by decide +kernel
theorem dX9_walk_34 : decode cX9_walk 34 = .ok (.iload_n 3, 1) := by decide +kernel
theorem dX9_walk_35 : decode cX9_walk 35 = .ok (.iconst 1, 1) := by decide +kernel
theorem dX9_walk_36 : decode cX9_walk 36 = .ok (.isub, 1) := by decide +kernel
theorem dX9_walk_37 : decode cX9_walk 37 = .ok (.istore 5, 2) := by decide +kernel
theorem dX9_walk_39 : decode cX9_walk 39 = .ok (.iload 5, 2) := by decide +kernel
theorem dX9_walk_41 : decode cX9_walk 41 = .ok (.iload_n 2, 1) := by decide +kernel
theorem dX9_walk_42 : decode cX9_walk 42 = .ok (.if_icmp .le 18, 3) := by decide +kernel
theorem dX9_walk_45 : decode cX9_walk 45 = .ok (.aload_n 0, 1) := by decide +kernel
theorem dX9_walk_46 : decode cX9_walk 46 = .ok (.getfield 48, 3) := by decide +kernel
theorem dX9_walk_49 : decode cX9_walk 49 = .ok (.iload 4, 2) := by decide +kernel
theorem dX9_walk_51 : decode cX9_walk 51 = .ok (.iaload, 1) := by decide +kernel
theorem dX9_walk_52 : decode cX9_walk 52 = .ok (.istore 4, 2) := by decide +kernel
theorem dX9_walk_54 : decode cX9_walk 54 = .ok (.iinc 5 (-1), 3) := by decide +kernel
theorem dX9_walk_57 : decode cX9_walk 57 = .ok (.goto (-18), 3) := by decide +kernel
theorem dX9_walk_60 : decode cX9_walk 60 = .ok (.aload_n 0, 1) := by decide +kernel
theorem dX9_walk_61 : decode cX9_walk 61 = .ok (.getfield 51, 3) := by decide +kernel
theorem dX9_walk_64 : decode cX9_walk 64 = .ok (.iload 4, 2) := by decide +kernel
theorem dX9_walk_66 : decode cX9_walk 66 = .ok (.iaload, 1) := by decide +kernel
theorem dX9_walk_67 : decode cX9_walk 67 = .ok (.ireturn, 1) := by decide +kernel
theorem dX9_whatOf_0 : decode cX9_whatOf 0 = .ok (.iload_n 0, 1) := by decide +kernel
theorem dX9_whatOf_1 : decode cX9_whatOf 1 = .ok (.iconst 3, 1) := by decide +kernel
theorem dX9_whatOf_2 : decode cX9_whatOf 2 = .ok (.iand, 1) := by decide +kernel
theorem dX9_whatOf_3 : decode cX9_whatOf 3 = .ok (.istore_n 2, 1) := by decide +kernel
theorem dX9_whatOf_4 : decode cX9_whatOf 4 = .ok (.iload_n 1, 1) := by decide +kernel
theorem dX9_whatOf_5 : decode cX9_whatOf 5 = .ok (.ifCond .ne 7, 3) := by decide +kernel
theorem dX9_whatOf_8 : decode cX9_whatOf 8 = .ok (.iload_n 2, 1) := by decide +kernel
theorem dX9_whatOf_9 : decode cX9_whatOf 9 = .ok (.goto 54, 3) := by decide +kernel
theorem dX9_whatOf_12 : decode cX9_whatOf 12 = .ok (.iload_n 1, 1) := by decide +kernel
theorem dX9_whatOf_13 : decode cX9_whatOf 13 = .ok (.iconst 1, 1) := by decide +kernel
theorem dX9_whatOf_14 : decode cX9_whatOf 14 = .ok (.if_icmp .ne 31, 3) := by decide +kernel
theorem dX9_whatOf_17 : decode cX9_whatOf 17 = .ok (.iload_n 2, 1) := by decide +kernel
theorem dX9_whatOf_18 : decode cX9_whatOf 18 = .ok (.iconst 1, 1) := by decide +kernel
theorem dX9_whatOf_19 : decode cX9_whatOf 19 = .ok (.if_icmp .ne 10, 3) := by decide +kernel
theorem dX9_whatOf_22 : decode cX9_whatOf 22 = .ok (.iload_n 0, 1) := by decide +kernel
theorem dX9_whatOf_23 : decode cX9_whatOf 23 = .ok (.invokestatic 180, 3) := by decide +kernel
theorem dX9_whatOf_26 : decode cX9_whatOf 26 = .ok (.goto 37, 3) := by decide +kernel
theorem dX9_whatOf_29 : decode cX9_whatOf 29 = .ok (.iload_n 2, 1) := by decide +kernel
theorem dX9_whatOf_30 : decode cX9_whatOf 30 = .ok (.iconst 2, 1) := by decide +kernel
theorem dX9_whatOf_31 : decode cX9_whatOf 31 = .ok (.if_icmp .ne 10, 3) := by decide +kernel
theorem dX9_whatOf_34 : decode cX9_whatOf 34 = .ok (.iload_n 0, 1) := by decide +kernel
theorem dX9_whatOf_35 : decode cX9_whatOf 35 = .ok (.invokestatic 183, 3) := by decide +kernel
theorem dX9_whatOf_38 : decode cX9_whatOf 38 = .ok (.goto 25, 3) := by decide +kernel
theorem dX9_whatOf_41 : decode cX9_whatOf 41 = .ok (.iconst 0, 1) := by decide +kernel
theorem dX9_whatOf_42 : decode cX9_whatOf 42 = .ok (.goto 21, 3) := by decide +kernel
theorem dX9_whatOf_45 : decode cX9_whatOf 45 = .ok (.iload_n 1, 1) := by decide +kernel
theorem dX9_whatOf_46 : decode cX9_whatOf 46 = .ok (.iconst 2, 1) := by decide +kernel
theorem dX9_whatOf_47 : decode cX9_whatOf 47 = .ok (.if_icmp .ne 12, 3) := by decide +kernel
theorem dX9_whatOf_50 : decode cX9_whatOf 50 = .ok (.iload_n 0, 1) := by decide +kernel
theorem dX9_whatOf_51 : decode cX9_whatOf 51 = .ok (.bipush 10, 2) := by decide +kernel
theorem dX9_whatOf_53 : decode cX9_whatOf 53 = .ok (.ishr, 1) := by decide +kernel
theorem dX9_whatOf_54 : decode cX9_whatOf 54 = .ok (.iconst 1, 1) := by decide +kernel
theorem dX9_whatOf_55 : decode cX9_whatOf 55 = .ok (.iand, 1) := by decide +kernel
theorem dX9_whatOf_56 : decode cX9_whatOf 56 = .ok (.goto 7, 3) := by decide +kernel
theorem dX9_whatOf_59 : decode cX9_whatOf 59 = .ok (.iload_n 0, 1) := by decide +kernel
theorem dX9_whatOf_60 : decode cX9_whatOf 60 = .ok (.invokestatic 118, 3) := by decide +kernel
theorem dX9_whatOf_63 : decode cX9_whatOf 63 = .ok (.ireturn, 1) := by decide +kernel
theorem dX9_word_0 : decode cX9_word 0 = .ok (.iload_n 1, 1) := by decide +kernel
theorem dX9_word_1 : decode cX9_word 1 = .ok (.i2l, 1) := by decide +kernel
theorem dX9_word_2 : decode cX9_word 2 = .ok (.lconst 0, 1) := by decide +kernel
theorem dX9_word_3 : decode cX9_word 3 = .ok (.ldc2_w 314, 3) := by decide +kernel
theorem dX9_word_6 : decode cX9_word 6 = .ok (.invokestatic 68, 3) := by decide +kernel
theorem dX9_word_9 : decode cX9_word 9 = .ok (.ifCond .eq 15, 3) := by decide +kernel
theorem dX9_word_12 : decode cX9_word 12 = .ok (.iload_n 2, 1) := by decide +kernel
theorem dX9_word_13 : decode cX9_word 13 = .ok (.i2l, 1) := by decide +kernel
theorem dX9_word_14 : decode cX9_word 14 = .ok (.lconst 0, 1) := by decide +kernel
theorem dX9_word_15 : decode cX9_word 15 = .ok (.ldc2_w 114, 3) := by decide +kernel
theorem dX9_word_18 : decode cX9_word 18 = .ok (.invokestatic 68, 3) := by decide +kernel
theorem dX9_word_21 : decode cX9_word 21 = .ok (.ifCond .ne 7, 3) := by decide +kernel
theorem dX9_word_24 : decode cX9_word 24 = .ok (.sipush (-1000), 3) := by decide +kernel
theorem dX9_word_27 : decode cX9_word 27 = .ok (.ireturn, 1) := by decide +kernel
theorem dX9_word_28 : decode cX9_word 28 = .ok (.aload_n 0, 1) := by decide +kernel
theorem dX9_word_29 : decode cX9_word 29 = .ok (.getfield 291, 3) := by decide +kernel
theorem dX9_word_32 : decode cX9_word 32 = .ok (.ifCond .eq 16, 3) := by decide +kernel
theorem dX9_word_35 : decode cX9_word 35 = .ok (.aload_n 0, 1) := by decide +kernel
theorem dX9_word_36 : decode cX9_word 36 = .ok (.getfield 25, 3) := by decide +kernel
theorem dX9_word_39 : decode cX9_word 39 = .ok (.iload_n 1, 1) := by decide +kernel
theorem dX9_word_40 : decode cX9_word 40 = .ok (.iaload, 1) := by decide +kernel
theorem dX9_word_41 : decode cX9_word 41 = .ok (.iload_n 2, 1) := by decide +kernel
theorem dX9_word_42 : decode cX9_word 42 = .ok (.invokestatic 316, 3) := by decide +kernel
theorem dX9_word_45 : decode cX9_word 45 = .ok (.goto 6, 3) := by decide +kernel
theorem dX9_word_48 : decode cX9_word 48 = .ok (.sipush (-2000), 3) := by decide +kernel
theorem dX9_word_51 : decode cX9_word 51 = .ok (.ireturn, 1) := by decide +kernel
theorem dX9_writes_0 : decode cX9_writes 0 = .ok (.aload_n 0, 1) := by decide +kernel
theorem dX9_writes_1 : decode cX9_writes 1 = .ok (.invokevirtual 137, 3) := by decide +kernel
theorem dX9_writes_4 : decode cX9_writes 4 = .ok (.ifCond .ne 10, 3) := by decide +kernel
theorem dX9_writes_7 : decode cX9_writes 7 = .ok (.aload_n 0, 1) := by decide +kernel
theorem dX9_writes_8 : decode cX9_writes 8 = .ok (.iload_n 2, 1) := by decide +kernel
theorem dX9_writes_9 : decode cX9_writes 9 = .ok (.iload_n 3, 1) := by decide +kernel
theorem dX9_writes_10 : decode cX9_writes 10 = .ok (.invokevirtual 125, 3) := by decide +kernel
theorem dX9_writes_13 : decode cX9_writes 13 = .ok (.return_, 1) := by decide +kernel
theorem dX9_writes_14 : decode cX9_writes 14 = .ok (.iload_n 1, 1) := by decide +kernel
theorem dX9_writes_15 : decode cX9_writes 15 = .ok (.invokestatic 122, 3) := by decide +kernel
theorem dX9_writes_18 : decode cX9_writes 18 = .ok (.istore 4, 2) := by decide +kernel
theorem dX9_writes_20 : decode cX9_writes 20 = .ok (.aload_n 0, 1) := by decide +kernel
theorem dX9_writes_21 : decode cX9_writes 21 = .ok (.getfield 16, 3) := by decide +kernel
theorem dX9_writes_24 : decode cX9_writes 24 = .ok (.iload 4, 2) := by decide +kernel
theorem dX9_writes_26 : decode cX9_writes 26 = .ok (.bipush 7, 2) := by decide +kernel
theorem dX9_writes_28 : decode cX9_writes 28 = .ok (.iadd, 1) := by decide +kernel
theorem dX9_writes_29 : decode cX9_writes 29 = .ok (.iaload, 1) := by decide +kernel
theorem dX9_writes_30 : decode cX9_writes 30 = .ok (.iconst 4, 1) := by decide +kernel
theorem dX9_writes_31 : decode cX9_writes 31 = .ok (.if_icmp .ne 8, 3) := by decide +kernel
theorem dX9_writes_34 : decode cX9_writes 34 = .ok (.aload_n 0, 1) := by decide +kernel
theorem dX9_writes_35 : decode cX9_writes 35 = .ok (.iload_n 1, 1) := by decide +kernel
theorem dX9_writes_36 : decode cX9_writes 36 = .ok (.invokevirtual 129, 3) := by decide +kernel
theorem dX9_writes_39 : decode cX9_writes 39 = .ok (.aload_n 0, 1) := by decide +kernel
theorem dX9_writes_40 : decode cX9_writes 40 = .ok (.getfield 16, 3) := by decide +kernel
theorem dX9_writes_43 : decode cX9_writes 43 = .ok (.iload 4, 2) := by decide +kernel
theorem dX9_writes_45 : decode cX9_writes 45 = .ok (.bipush 8, 2) := by decide +kernel
theorem dX9_writes_47 : decode cX9_writes 47 = .ok (.iadd, 1) := by decide +kernel
theorem dX9_writes_48 : decode cX9_writes 48 = .ok (.aload_n 0, 1) := by decide +kernel
theorem dX9_writes_49 : decode cX9_writes 49 = .ok (.getfield 16, 3) := by decide +kernel
theorem dX9_writes_52 : decode cX9_writes 52 = .ok (.iload 4, 2) := by decide +kernel
theorem dX9_writes_54 : decode cX9_writes 54 = .ok (.bipush 7, 2) := by decide +kernel
theorem dX9_writes_56 : decode cX9_writes 56 = .ok (.iadd, 1) := by decide +kernel
theorem dX9_writes_57 : decode cX9_writes 57 = .ok (.iaload, 1) := by decide +kernel
theorem dX9_writes_58 : decode cX9_writes 58 = .ok (.iadd, 1) := by decide +kernel
theorem dX9_writes_59 : decode cX9_writes 59 = .ok (.iload_n 2, 1) := by decide +kernel
theorem dX9_writes_60 : decode cX9_writes 60 = .ok (.bipush 16, 2) := by decide +kernel
theorem dX9_writes_62 : decode cX9_writes 62 = .ok (.ishl, 1) := by decide +kernel
theorem dX9_writes_63 : decode cX9_writes 63 = .ok (.iload_n 3, 1) := by decide +kernel
theorem dX9_writes_64 : decode cX9_writes 64 = .ok (.sipush 2047, 3) := by decide +kernel
theorem dX9_writes_67 : decode cX9_writes 67 = .ok (.iand, 1) := by decide +kernel
theorem dX9_writes_68 : decode cX9_writes 68 = .ok (.ior, 1) := by decide +kernel
theorem dX9_writes_69 : decode cX9_writes 69 = .ok (.iastore, 1) := by decide +kernel
theorem dX9_writes_70 : decode cX9_writes 70 = .ok (.aload_n 0, 1) := by decide +kernel
theorem dX9_writes_71 : decode cX9_writes 71 = .ok (.getfield 16, 3) := by decide +kernel
theorem dX9_writes_74 : decode cX9_writes 74 = .ok (.iload 4, 2) := by decide +kernel
theorem dX9_writes_76 : decode cX9_writes 76 = .ok (.bipush 7, 2) := by decide +kernel
theorem dX9_writes_78 : decode cX9_writes 78 = .ok (.iadd, 1) := by decide +kernel
theorem dX9_writes_79 : decode cX9_writes 79 = .ok (.dup2, 1) := by decide +kernel
theorem dX9_writes_80 : decode cX9_writes 80 = .ok (.iaload, 1) := by decide +kernel
theorem dX9_writes_81 : decode cX9_writes 81 = .ok (.iconst 1, 1) := by decide +kernel
theorem dX9_writes_82 : decode cX9_writes 82 = .ok (.iadd, 1) := by decide +kernel
theorem dX9_writes_83 : decode cX9_writes 83 = .ok (.iastore, 1) := by decide +kernel
theorem dX9_writes_84 : decode cX9_writes 84 = .ok (.return_, 1) := by decide +kernel
