theorem dX5_advance_0 : decode cX5_advance 0 = .ok (.iload_n 1, 1) := by decide +kernel
theorem dX5_advance_1 : decode cX5_advance 1 = .ok (.invokestatic 45, 3) := by decide +kernel
theorem dX5_advance_4 : decode cX5_advance 4 = .ok (.istore_n 2, 1) := by decide +kernel
theorem dX5_advance_5 : decode cX5_advance 5 = .ok (.aload_n 0, 1) := by decide +kernel
theorem dX5_advance_6 : decode cX5_advance 6 = .ok (.getfield 20, 3) := by decide +kernel
theorem dX5_advance_9 : decode cX5_advance 9 = .ok (.iload_n 2, 1) := by decide +kernel
theorem dX5_advance_10 : decode cX5_advance 10 = .ok (.bipush 10, 2) := by decide +kernel
theorem dX5_advance_12 : decode cX5_advance 12 = .ok (.iadd, 1) := by decide +kernel
theorem dX5_advance_13 : decode cX5_advance 13 = .ok (.iaload, 1) := by decide +kernel
theorem dX5_advance_14 : decode cX5_advance 14 = .ok (.aload_n 0, 1) := by decide +kernel
theorem dX5_advance_15 : decode cX5_advance 15 = .ok (.getfield 12, 3) := by decide +kernel
theorem dX5_advance_18 : decode cX5_advance 18 = .ok (.getfield 38, 3) := by decide +kernel
theorem dX5_advance_21 : decode cX5_advance 21 = .ok (.iload_n 1, 1) := by decide +kernel
theorem dX5_advance_22 : decode cX5_advance 22 = .ok (.iaload, 1) := by decide +kernel
theorem dX5_advance_23 : decode cX5_advance 23 = .ok (.if_icmp .lt 4, 3) := by decide +kernel
theorem dX5_advance_26 : decode cX5_advance 26 = .ok (.return_, 1) := by decide +kernel
theorem dX5_advance_27 : decode cX5_advance 27 = .ok (.iload_n 1, 1) := by decide +kernel
theorem dX5_advance_28 : decode cX5_advance 28 = .ok (.iconst 3, 1) := by decide +kernel
theorem dX5_advance_29 : decode cX5_advance 29 = .ok (.imul, 1) := by decide +kernel
theorem dX5_advance_30 : decode cX5_advance 30 = .ok (.aload_n 0, 1) := by decide +kernel
theorem dX5_advance_31 : decode cX5_advance 31 = .ok (.getfield 20, 3) := by decide +kernel
theorem dX5_advance_34 : decode cX5_advance 34 = .ok (.iload_n 2, 1) := by decide +kernel
theorem dX5_advance_35 : decode cX5_advance 35 = .ok (.bipush 10, 2) := by decide +kernel
theorem dX5_advance_37 : decode cX5_advance 37 = .ok (.iadd, 1) := by decide +kernel
theorem dX5_advance_38 : decode cX5_advance 38 = .ok (.iaload, 1) := by decide +kernel
theorem dX5_advance_39 : decode cX5_advance 39 = .ok (.iadd, 1) := by decide +kernel
theorem dX5_advance_40 : decode cX5_advance 40 = .ok (.istore_n 3, 1) := by decide +kernel
theorem dX5_advance_41 : decode cX5_advance 41 = .ok (.aload_n 0, 1) := by decide +kernel
theorem dX5_advance_42 : decode cX5_advance 42 = .ok (.getfield 12, 3) := by decide +kernel
theorem dX5_advance_45 : decode cX5_advance 45 = .ok (.getfield 68, 3) := by decide +kernel
theorem dX5_advance_48 : decode cX5_advance 48 = .ok (.iload_n 3, 1) := by decide +kernel
theorem dX5_advance_49 : decode cX5_advance 49 = .ok (.iaload, 1) := by decide +kernel
theorem dX5_advance_50 : decode cX5_advance 50 = .ok (.istore 4, 2) := by decide +kernel
theorem dX5_advance_52 : decode cX5_advance 52 = .ok (.bipush 30, 2) := by decide +kernel
theorem dX5_advance_54 : decode cX5_advance 54 = .ok (.istore 5, 2) := by decide +kernel
theorem dX5_advance_56 : decode cX5_advance 56 = .ok (.aload_n 0, 1) := by decide +kernel
theorem dX5_advance_57 : decode cX5_advance 57 = .ok (.getfield 20, 3) := by decide +kernel
theorem dX5_advance_60 : decode cX5_advance 60 = .ok (.iload_n 2, 1) := by decide +kernel
theorem dX5_advance_61 : decode cX5_advance 61 = .ok (.bipush 11, 2) := by decide +kernel
theorem dX5_advance_63 : decode cX5_advance 63 = .ok (.iadd, 1) := by decide +kernel
theorem dX5_advance_64 : decode cX5_advance 64 = .ok (.iaload, 1) := by decide +kernel
theorem dX5_advance_65 : decode cX5_advance 65 = .ok (.ifCond .ne 33, 3) := by decide +kernel
theorem dX5_advance_68 : decode cX5_advance 68 = .ok (.aload_n 0, 1) := by decide +kernel
theorem dX5_advance_69 : decode cX5_advance 69 = .ok (.iload_n 2, 1) := by decide +kernel
theorem dX5_advance_70 : decode cX5_advance 70 = .ok (.iload_n 3, 1) := by decide +kernel
theorem dX5_advance_71 : decode cX5_advance 71 = .ok (.invokevirtual 71, 3) := by decide +kernel
theorem dX5_advance_74 : decode cX5_advance 74 = .ok (.aload_n 0, 1) := by decide +kernel
theorem dX5_advance_75 : decode cX5_advance 75 = .ok (.iload_n 2, 1) := by decide +kernel
theorem dX5_advance_76 : decode cX5_advance 76 = .ok (.iload 4, 2) := by decide +kernel
theorem dX5_advance_78 : decode cX5_advance 78 = .ok (.iload 5, 2) := by decide +kernel
theorem dX5_advance_80 : decode cX5_advance 80 = .ok (.invokevirtual 75, 3) := by decide +kernel
theorem dX5_advance_83 : decode cX5_advance 83 = .ok (.istore 5, 2) := by decide +kernel
theorem dX5_advance_85 : decode cX5_advance 85 = .ok (.aload_n 0, 1) := by decide +kernel
theorem dX5_advance_86 : decode cX5_advance 86 = .ok (.getfield 20, 3) := by decide +kernel
theorem dX5_advance_89 : decode cX5_advance 89 = .ok (.iload_n 2, 1) := by decide +kernel
theorem dX5_advance_90 : decode cX5_advance 90 = .ok (.bipush 12, 2) := by decide +kernel
theorem dX5_advance_92 : decode cX5_advance 92 = .ok (.iadd, 1) := by decide +kernel
theorem dX5_advance_93 : decode cX5_advance 93 = .ok (.iaload, 1) := by decide +kernel
theorem dX5_advance_94 : decode cX5_advance 94 = .ok (.ifCond .eq 4, 3) := by decide +kernel
theorem dX5_advance_97 : decode cX5_advance 97 = .ok (.return_, 1) := by decide +kernel
theorem dX5_advance_98 : decode cX5_advance 98 = .ok (.aload_n 0, 1) := by decide +kernel
theorem dX5_advance_99 : decode cX5_advance 99 = .ok (.getfield 12, 3) := by decide +kernel
theorem dX5_advance_102 : decode cX5_advance 102 = .ok (.iload 4, 2) := by decide +kernel
theorem dX5_advance_104 : decode cX5_advance 104 = .ok (.aload_n 0, 1) := by decide +kernel
theorem dX5_advance_105 : decode cX5_advance 105 = .ok (.getfield 20, 3) := by decide +kernel
theorem dX5_advance_108 : decode cX5_advance 108 = .ok (.iload_n 2, 1) := by decide +kernel
theorem dX5_advance_109 : decode cX5_advance 109 = .ok (.bipush 9, 2) := by decide +kernel
theorem dX5_advance_111 : decode cX5_advance 111 = .ok (.iadd, 1) := by decide +kernel
theorem dX5_advance_112 : decode cX5_advance 112 = .ok (.iaload, 1) := by decide +kernel
theorem dX5_advance_113 : decode cX5_advance 113 = .ok (.invokevirtual 79, 3) := by decide +kernel
theorem dX5_advance_116 : decode cX5_advance 116 = .ok (.istore 6, 2) := by decide +kernel
theorem dX5_advance_118 : decode cX5_advance 118 = .ok (.iload 6, 2) := by decide +kernel
theorem dX5_advance_120 : decode cX5_advance 120 = .ok (.ifCond .lt 25, 3) := by decide +kernel
theorem dX5_advance_123 : decode cX5_advance 123 = .ok (.aload_n 0, 1) := by decide +kernel
theorem dX5_advance_124 : decode cX5_advance 124 = .ok (.getfield 12, 3) := by decide +kernel
theorem dX5_advance_127 : decode cX5_advance 127 = .ok (.getfield 83, 3) := by decide +kernel
theorem dX5_advance_130 : decode cX5_advance 130 = .ok (.iload 6, 2) := by decide +kernel
theorem dX5_advance_132 : decode cX5_advance 132 = .ok (.iaload, 1) := by decide +kernel
theorem dX5_advance_133 : decode cX5_advance 133 = .ok (.invokestatic 86, 3) := by decide +kernel
theorem dX5_advance_136 : decode cX5_advance 136 = .ok (.ifCond .eq 9, 3) := by decide +kernel
theorem dX5_advance_139 : decode cX5_advance 139 = .ok (.aload_n 0, 1) := by decide +kernel
theorem dX5_advance_140 : decode cX5_advance 140 = .ok (.iload_n 2, 1) := by decide +kernel
theorem dX5_advance_141 : decode cX5_advance 141 = .ok (.iconst 0, 1) := by decide +kernel
theorem dX5_advance_142 : decode cX5_advance 142 = .ok (.invokevirtual 89, 3) := by decide +kernel
theorem dX5_advance_145 : decode cX5_advance 145 = .ok (.iload 6, 2) := by decide +kernel
theorem dX5_advance_147 : decode cX5_advance 147 = .ok (.ifCond .ge 7, 3) := by decide +kernel
theorem dX5_advance_150 : decode cX5_advance 150 = .ok (.iconst 3, 1) := by decide +kernel
theorem dX5_advance_151 : decode cX5_advance 151 = .ok (.goto 10, 3) := by decide +kernel
theorem dX5_advance_154 : decode cX5_advance 154 = .ok (.aload_n 0, 1) := by decide +kernel
theorem dX5_advance_155 : decode cX5_advance 155 = .ok (.iload_n 2, 1) := by decide +kernel
theorem dX5_advance_156 : decode cX5_advance 156 = .ok (.iload 6, 2) := by decide +kernel
theorem dX5_advance_158 : decode cX5_advance 158 = .ok (.invokevirtual 92, 3) := by decide +kernel
theorem dX5_advance_161 : decode cX5_advance 161 = .ok (.istore 7, 2) := by decide +kernel
theorem dX5_advance_163 : decode cX5_advance 163 = .ok (.aload_n 0, 1) := by decide +kernel
theorem dX5_advance_164 : decode cX5_advance 164 = .ok (.getfield 20, 3) := by decide +kernel
theorem dX5_advance_167 : decode cX5_advance 167 = .ok (.iload_n 2, 1) := by decide +kernel
theorem dX5_advance_168 : decode cX5_advance 168 = .ok (.bipush 12, 2) := by decide +kernel
theorem dX5_advance_170 : decode cX5_advance 170 = .ok (.iadd, 1) := by decide +kernel
theorem dX5_advance_171 : decode cX5_advance 171 = .ok (.iload 7, 2) := by decide +kernel
theorem dX5_advance_173 : decode cX5_advance 173 = .ok (.iastore, 1) := by decide +kernel
theorem dX5_advance_174 : decode cX5_advance 174 = .ok (.iload 7, 2) := by decide +kernel
theorem dX5_advance_176 : decode cX5_advance 176 = .ok (.ifCond .eq 4, 3) := by decide +kernel
theorem dX5_advance_179 : decode cX5_advance 179 = .ok (.return_, 1) := by decide +kernel
theorem dX5_advance_180 : decode cX5_advance 180 = .ok (.aload_n 0, 1) := by decide +kernel
theorem dX5_advance_181 : decode cX5_advance 181 = .ok (.getfield 20, 3) := by decide +kernel
theorem dX5_advance_184 : decode cX5_advance 184 = .ok (.iload_n 2, 1) := by decide +kernel
theorem dX5_advance_185 : decode cX5_advance 185 = .ok (.bipush 9, 2) := by decide +kernel
theorem dX5_advance_187 : decode cX5_advance 187 = .ok (.iadd, 1) := by decide +kernel
theorem dX5_advance_188 : decode cX5_advance 188 = .ok (.dup2, 1) := by decide +kernel
theorem dX5_advance_189 : decode cX5_advance 189 = .ok (.iaload, 1) := by decide +kernel
theorem dX5_advance_190 : decode cX5_advance 190 = .ok (.iconst 1, 1) := by decide +kernel
theorem dX5_advance_191 : decode cX5_advance 191 = .ok (.iadd, 1) := by decide +kernel
theorem dX5_advance_192 : decode cX5_advance 192 = .ok (.iastore, 1) := by decide +kernel
theorem dX5_advance_193 : decode cX5_advance 193 = .ok (.aload_n 0, 1) := by decide +kernel
theorem dX5_advance_194 : decode cX5_advance 194 = .ok (.getfield 24, 3) := by decide +kernel
theorem dX5_advance_197 : decode cX5_advance 197 = .ok (.ifCond .eq 25, 3) := by decide +kernel
theorem dX5_advance_200 : decode cX5_advance 200 = .ok (.aload_n 0, 1) := by decide +kernel
theorem dX5_advance_201 : decode cX5_advance 201 = .ok (.getfield 12, 3) := by decide +kernel
theorem dX5_advance_204 : decode cX5_advance 204 = .ok (.getfield 83, 3) := by decide +kernel
theorem dX5_advance_207 : decode cX5_advance 207 = .ok (.iload 6, 2) := by decide +kernel
theorem dX5_advance_209 : decode cX5_advance 209 = .ok (.iaload, 1) := by decide +kernel
theorem dX5_advance_210 : decode cX5_advance 210 = .ok (.invokestatic 95, 3) := by decide +kernel
theorem dX5_advance_213 : decode cX5_advance 213 = .ok (.ifCond .eq 9, 3) := by decide +kernel
theorem dX5_advance_216 : decode cX5_advance 216 = .ok (.aload_n 0, 1) := by decide +kernel
theorem dX5_advance_217 : decode cX5_advance 217 = .ok (.iload_n 2, 1) := by decide +kernel
theorem dX5_advance_218 : decode cX5_advance 218 = .ok (.iconst 3, 1) := by decide +kernel
theorem dX5_advance_219 : decode cX5_advance 219 = .ok (.invokevirtual 89, 3) := by decide +kernel
theorem dX5_advance_222 : decode cX5_advance 222 = .ok (.aload_n 0, 1) := by decide +kernel
theorem dX5_advance_223 : decode cX5_advance 223 = .ok (.iload_n 2, 1) := by decide +kernel
theorem dX5_advance_224 : decode cX5_advance 224 = .ok (.iload 6, 2) := by decide +kernel
theorem dX5_advance_226 : decode cX5_advance 226 = .ok (.iload_n 3, 1) := by decide +kernel
theorem dX5_advance_227 : decode cX5_advance 227 = .ok (.invokevirtual 98, 3) := by decide +kernel
theorem dX5_advance_230 : decode cX5_advance 230 = .ok (.aload_n 0, 1) := by decide +kernel
theorem dX5_advance_231 : decode cX5_advance 231 = .ok (.iload_n 2, 1) := by decide +kernel
theorem dX5_advance_232 : decode cX5_advance 232 = .ok (.iload 6, 2) := by decide +kernel
theorem dX5_advance_234 : decode cX5_advance 234 = .ok (.iload_n 3, 1) := by decide +kernel
theorem dX5_advance_235 : decode cX5_advance 235 = .ok (.invokevirtual 102, 3) := by decide +kernel
theorem dX5_advance_238 : decode cX5_advance 238 = .ok (.aload_n 0, 1) := by decide +kernel
theorem dX5_advance_239 : decode cX5_advance 239 = .ok (.aload_n 0, 1) := by decide +kernel
theorem dX5_advance_240 : decode cX5_advance 240 = .ok (.getfield 12, 3) := by decide +kernel
theorem dX5_advance_243 : decode cX5_advance 243 = .ok (.getfield 83, 3) := by decide +kernel
theorem dX5_advance_246 : decode cX5_advance 246 = .ok (.iload 6, 2) := by decide +kernel
theorem dX5_advance_248 : decode cX5_advance 248 = .ok (.iaload, 1) := by decide +kernel
theorem dX5_advance_249 : decode cX5_advance 249 = .ok (.invokevirtual 105, 3) := by decide +kernel
theorem dX5_advance_252 : decode cX5_advance 252 = .ok (.aload_n 0, 1) := by decide +kernel
theorem dX5_advance_253 : decode cX5_advance 253 = .ok (.getfield 20, 3) := by decide +kernel
theorem dX5_advance_256 : decode cX5_advance 256 = .ok (.iload_n 2, 1) := by decide +kernel
theorem dX5_advance_257 : decode cX5_advance 257 = .ok (.bipush 11, 2) := by decide +kernel
theorem dX5_advance_259 : decode cX5_advance 259 = .ok (.iadd, 1) := by decide +kernel
theorem dX5_advance_260 : decode cX5_advance 260 = .ok (.iaload, 1) := by decide +kernel
theorem dX5_advance_261 : decode cX5_advance 261 = .ok (.ifCond .eq 13, 3) := by decide +kernel
theorem dX5_advance_264 : decode cX5_advance 264 = .ok (.aload_n 0, 1) := by decide +kernel
theorem dX5_advance_265 : decode cX5_advance 265 = .ok (.iload_n 2, 1) := by decide +kernel
theorem dX5_advance_266 : decode cX5_advance 266 = .ok (.iload 4, 2) := by decide +kernel
theorem dX5_advance_268 : decode cX5_advance 268 = .ok (.iload 5, 2) := by decide +kernel
theorem dX5_advance_270 : decode cX5_advance 270 = .ok (.invokevirtual 75, 3) := by decide +kernel
theorem dX5_advance_273 : decode cX5_advance 273 = .ok (.pop, 1) := by decide +kernel
theorem dX5_advance_274 : decode cX5_advance 274 = .ok (.return_, 1) := by decide +kernel
theorem dX5_appends_0 : decode cX5_appends 0 = .ok (.iload_n 0, 1) := by decide +kernel
theorem dX5_appends_1 : decode cX5_appends 1 = .ok (.iconst 2, 1) := by decide +kernel
theorem dX5_appends_2 : decode cX5_appends 2 = .ok (.if_icmp .eq 8, 3) := by decide +kernel
theorem dX5_appends_5 : decode cX5_appends 5 = .ok (.iload_n 0, 1) := by decide +kernel
theorem dX5_appends_6 : decode cX5_appends 6 = .ok (.iconst 3, 1) := by decide +kernel
theorem dX5_appends_7 : decode cX5_appends 7 = .ok (.if_icmp .ne 7, 3) := by decide +kernel
theorem dX5_appends_10 : decode cX5_appends 10 = .ok (.iconst 1, 1) := by decide +kernel
theorem dX5_appends_11 : decode cX5_appends 11 = .ok (.goto 4, 3) := by decide +kernel
theorem dX5_appends_14 : decode cX5_appends 14 = .ok (.iconst 0, 1) := by decide +kernel
theorem dX5_appends_15 : decode cX5_appends 15 = .ok (.ireturn, 1) := by decide +kernel
theorem dX5_areAllInPresent_0 : decode cX5_areAllInPresent 0 = .ok (.iconst 0, 1) := by decide +kernel
theorem dX5_areAllInPresent_1 : decode cX5_areAllInPresent 1 = .ok (.istore_n 1, 1) := by decide +kernel
theorem dX5_areAllInPresent_2 : decode cX5_areAllInPresent 2 = .ok (.iload_n 1, 1) := by decide +kernel
theorem dX5_areAllInPresent_3 : decode cX5_areAllInPresent 3 = .ok (.iconst 3, 1) := by decide +kernel
theorem dX5_areAllInPresent_4 : decode cX5_areAllInPresent 4 = .ok (.if_icmp .gt 41, 3) := by decide +kernel
theorem dX5_areAllInPresent_7 : decode cX5_areAllInPresent 7 = .ok (.aload_n 0, 1) := by decide +kernel
theorem dX5_areAllInPresent_8 : decode cX5_areAllInPresent 8 = .ok (.getfield 20, 3) := by decide +kernel
theorem dX5_areAllInPresent_11 : decode cX5_areAllInPresent 11 = .ok (.iload_n 1, 1) := by decide +kernel
theorem dX5_areAllInPresent_12 : decode cX5_areAllInPresent 12 = .ok (.invokestatic 45, 3) := by decide +kernel
theorem dX5_areAllInPresent_15 : decode cX5_areAllInPresent 15 = .ok (.bipush 8, 2) := by decide +kernel
theorem dX5_areAllInPresent_17 : decode cX5_areAllInPresent 17 = .ok (.iadd, 1) := by decide +kernel
theorem dX5_areAllInPresent_18 : decode cX5_areAllInPresent 18 = .ok (.iaload, 1) := by decide +kernel
theorem dX5_areAllInPresent_19 : decode cX5_areAllInPresent 19 = .ok (.istore_n 2, 1) := by decide +kernel
theorem dX5_areAllInPresent_20 : decode cX5_areAllInPresent 20 = .ok (.iload_n 2, 1) := by decide +kernel
theorem dX5_areAllInPresent_21 : decode cX5_areAllInPresent 21 = .ok (.ifCond .eq 18, 3) := by decide +kernel
theorem dX5_areAllInPresent_24 : decode cX5_areAllInPresent 24 = .ok (.iload_n 2, 1) := by decide +kernel
theorem dX5_areAllInPresent_25 : decode cX5_areAllInPresent 25 = .ok (.iconst 1, 1) := by decide +kernel
theorem dX5_areAllInPresent_26 : decode cX5_areAllInPresent 26 = .ok (.isub, 1) := by decide +kernel
theorem dX5_areAllInPresent_27 : decode cX5_areAllInPresent 27 = .ok (.aload_n 0, 1) := by decide +kernel
theorem dX5_areAllInPresent_28 : decode cX5_areAllInPresent 28 = .ok (.getfield 20, 3) := by decide +kernel
theorem dX5_areAllInPresent_31 : decode cX5_areAllInPresent 31 = .ok (.bipush 26, 2) := by decide +kernel
theorem dX5_areAllInPresent_33 : decode cX5_areAllInPresent 33 = .ok (.iaload, 1) := by decide +kernel
theorem dX5_areAllInPresent_34 : decode cX5_areAllInPresent 34 = .ok (.if_icmp .eq 5, 3) := by decide +kernel
theorem dX5_areAllInPresent_37 : decode cX5_areAllInPresent 37 = .ok (.iconst 0, 1) := by decide +kernel
theorem dX5_areAllInPresent_38 : decode cX5_areAllInPresent 38 = .ok (.ireturn, 1) := by decide +kernel
theorem dX5_areAllInPresent_39 : decode cX5_areAllInPresent 39 = .ok (.iinc 1 1, 3) := by decide +kernel
theorem dX5_areAllInPresent_42 : decode cX5_areAllInPresent 42 = .ok (.goto (-40), 3) := by decide +kernel
theorem dX5_areAllInPresent_45 : decode cX5_areAllInPresent 45 = .ok (.iconst 1, 1) := by decide +kernel
theorem dX5_areAllInPresent_46 : decode cX5_areAllInPresent 46 = .ok (.ireturn, 1) := by decide +kernel
theorem dX5_beginCall_0 : decode cX5_beginCall 0 = .ok (.aload_n 0, 1) := by decide +kernel
theorem dX5_beginCall_1 : decode cX5_beginCall 1 = .ok (.getfield 20, 3) := by decide +kernel
theorem dX5_beginCall_4 : decode cX5_beginCall 4 = .ok (.iload_n 1, 1) := by decide +kernel
theorem dX5_beginCall_5 : decode cX5_beginCall 5 = .ok (.bipush 11, 2) := by decide +kernel
theorem dX5_beginCall_7 : decode cX5_beginCall 7 = .ok (.iadd, 1) := by decide +kernel
theorem dX5_beginCall_8 : decode cX5_beginCall 8 = .ok (.iconst 1, 1) := by decide +kernel
theorem dX5_beginCall_9 : decode cX5_beginCall 9 = .ok (.iastore, 1) := by decide +kernel
theorem dX5_beginCall_10 : decode cX5_beginCall 10 = .ok (.aload_n 0, 1) := by decide +kernel
theorem dX5_beginCall_11 : decode cX5_beginCall 11 = .ok (.getfield 20, 3) := by decide +kernel
theorem dX5_beginCall_14 : decode cX5_beginCall 14 = .ok (.iload_n 1, 1) := by decide +kernel
theorem dX5_beginCall_15 : decode cX5_beginCall 15 = .ok (.aload_n 0, 1) := by decide +kernel
theorem dX5_beginCall_16 : decode cX5_beginCall 16 = .ok (.getfield 12, 3) := by decide +kernel
theorem dX5_beginCall_19 : decode cX5_beginCall 19 = .ok (.getfield 108, 3) := by decide +kernel
theorem dX5_beginCall_22 : decode cX5_beginCall 22 = .ok (.iload_n 2, 1) := by decide +kernel
theorem dX5_beginCall_23 : decode cX5_beginCall 23 = .ok (.iaload, 1) := by decide +kernel
theorem dX5_beginCall_24 : decode cX5_beginCall 24 = .ok (.invokestatic 111, 3) := by decide +kernel
theorem dX5_beginCall_27 : decode cX5_beginCall 27 = .ok (.iastore, 1) := by decide +kernel
theorem dX5_beginCall_28 : decode cX5_beginCall 28 = .ok (.iload_n 2, 1) := by decide +kernel
theorem dX5_beginCall_29 : decode cX5_beginCall 29 = .ok (.bipush 9, 2) := by decide +kernel
theorem dX5_beginCall_31 : decode cX5_beginCall 31 = .ok (.if_icmp .ge 16, 3) := by decide +kernel
theorem dX5_beginCall_34 : decode cX5_beginCall 34 = .ok (.aload_n 0, 1) := by decide +kernel
theorem dX5_beginCall_35 : decode cX5_beginCall 35 = .ok (.getfield 20, 3) := by decide +kernel
theorem dX5_beginCall_38 : decode cX5_beginCall 38 = .ok (.bipush 37, 2) := by decide +kernel
theorem dX5_beginCall_40 : decode cX5_beginCall 40 = .ok (.iload_n 2, 1) := by decide +kernel
theorem dX5_beginCall_41 : decode cX5_beginCall 41 = .ok (.iadd, 1) := by decide +kernel
theorem dX5_beginCall_42 : decode cX5_beginCall 42 = .ok (.aload_n 0, 1) := by decide +kernel
theorem dX5_beginCall_43 : decode cX5_beginCall 43 = .ok (.invokevirtual 116, 3) := by decide +kernel
theorem dX5_beginCall_46 : decode cX5_beginCall 46 = .ok (.iastore, 1) := by decide +kernel
theorem dX5_beginCall_47 : decode cX5_beginCall 47 = .ok (.aload_n 0, 1) := by decide +kernel
theorem dX5_beginCall_48 : decode cX5_beginCall 48 = .ok (.getfield 12, 3) := by decide +kernel
theorem dX5_beginCall_51 : decode cX5_beginCall 51 = .ok (.getfield 120, 3) := by decide +kernel
theorem dX5_beginCall_54 : decode cX5_beginCall 54 = .ok (.aload_n 0, 1) := by decide +kernel
theorem dX5_beginCall_55 : decode cX5_beginCall 55 = .ok (.getfield 12, 3) := by decide +kernel
theorem dX5_beginCall_58 : decode cX5_beginCall 58 = .ok (.getfield 68, 3) := by decide +kernel
theorem dX5_beginCall_61 : decode cX5_beginCall 61 = .ok (.iload_n 2, 1) := by decide +kernel
theorem dX5_beginCall_62 : decode cX5_beginCall 62 = .ok (.iaload, 1) := by decide +kernel
theorem dX5_beginCall_63 : decode cX5_beginCall 63 = .ok (.iaload, 1) := by decide +kernel
theorem dX5_beginCall_64 : decode cX5_beginCall 64 = .ok (.ifCond .ge 13, 3) := by decide +kernel
theorem dX5_beginCall_67 : decode cX5_beginCall 67 = .ok (.aload_n 0, 1) := by decide +kernel
theorem dX5_beginCall_68 : decode cX5_beginCall 68 = .ok (.getfield 20, 3) := by decide +kernel
theorem dX5_beginCall_71 : decode cX5_beginCall 71 = .ok (.iload_n 1, 1) := by decide +kernel
theorem dX5_beginCall_72 : decode cX5_beginCall 72 = .ok (.bipush 12, 2) := by decide +kernel
theorem dX5_beginCall_74 : decode cX5_beginCall 74 = .ok (.iadd, 1) := by decide +kernel
theorem dX5_beginCall_75 : decode cX5_beginCall 75 = .ok (.iconst 1, 1) := by decide +kernel
theorem dX5_beginCall_76 : decode cX5_beginCall 76 = .ok (.iastore, 1) := by decide +kernel
theorem dX5_beginCall_77 : decode cX5_beginCall 77 = .ok (.return_, 1) := by decide +kernel
theorem dX5_callsOver_0 : decode cX5_callsOver 0 = .ok (.iconst 0, 1) := by decide +kernel
theorem dX5_callsOver_1 : decode cX5_callsOver 1 = .ok (.istore_n 1, 1) := by decide +kernel
theorem dX5_callsOver_2 : decode cX5_callsOver 2 = .ok (.iconst 0, 1) := by decide +kernel
theorem dX5_callsOver_3 : decode cX5_callsOver 3 = .ok (.istore_n 2, 1) := by decide +kernel
theorem dX5_callsOver_4 : decode cX5_callsOver 4 = .ok (.iload_n 2, 1) := by decide +kernel
theorem dX5_callsOver_5 : decode cX5_callsOver 5 = .ok (.iconst 3, 1) := by decide +kernel
theorem dX5_callsOver_6 : decode cX5_callsOver 6 = .ok (.if_icmp .ge 34, 3) := by decide +kernel
theorem dX5_callsOver_9 : decode cX5_callsOver 9 = .ok (.aload_n 0, 1) := by decide +kernel
theorem dX5_callsOver_10 : decode cX5_callsOver 10 = .ok (.getfield 20, 3) := by decide +kernel
theorem dX5_callsOver_13 : decode cX5_callsOver 13 = .ok (.iload_n 2, 1) := by decide +kernel
theorem dX5_callsOver_14 : decode cX5_callsOver 14 = .ok (.invokestatic 45, 3) := by decide +kernel
theorem dX5_callsOver_17 : decode cX5_callsOver 17 = .ok (.bipush 10, 2) := by decide +kernel
theorem dX5_callsOver_19 : decode cX5_callsOver 19 = .ok (.iadd, 1) := by decide +kernel
theorem dX5_callsOver_20 : decode cX5_callsOver 20 = .ok (.iaload, 1) := by decide +kernel
theorem dX5_callsOver_21 : decode cX5_callsOver 21 = .ok (.istore_n 3, 1) := by decide +kernel
theorem dX5_callsOver_22 : decode cX5_callsOver 22 = .ok (.iload_n 1, 1) := by decide +kernel
theorem dX5_callsOver_23 : decode cX5_callsOver 23 = .ok (.iconst 1, 1) := by decide +kernel
theorem dX5_callsOver_24 : decode cX5_callsOver 24 = .ok (.iload_n 3, 1) := by decide +kernel
theorem dX5_callsOver_25 : decode cX5_callsOver 25 = .ok (.ishl, 1) := by decide +kernel
theorem dX5_callsOver_26 : decode cX5_callsOver 26 = .ok (.iconst 1, 1) := by decide +kernel
theorem dX5_callsOver_27 : decode cX5_callsOver 27 = .ok (.isub, 1) := by decide +kernel
theorem dX5_callsOver_28 : decode cX5_callsOver 28 = .ok (.iload_n 2, 1) := by decide +kernel
theorem dX5_callsOver_29 : decode cX5_callsOver 29 = .ok (.iconst 3, 1) := by decide +kernel
theorem dX5_callsOver_30 : decode cX5_callsOver 30 = .ok (.imul, 1) := by decide +kernel
theorem dX5_callsOver_31 : decode cX5_callsOver 31 = .ok (.ishl, 1) := by decide +kernel
theorem dX5_callsOver_32 : decode cX5_callsOver 32 = .ok (.ior, 1) := by decide +kernel
theorem dX5_callsOver_33 : decode cX5_callsOver 33 = .ok (.istore_n 1, 1) := by decide +kernel
theorem dX5_callsOver_34 : decode cX5_callsOver 34 = .ok (.iinc 2 1, 3) := by decide +kernel
theorem dX5_callsOver_37 : decode cX5_callsOver 37 = .ok (.goto (-33), 3) := by decide +kernel
theorem dX5_callsOver_40 : decode cX5_callsOver 40 = .ok (.iload_n 1, 1) := by decide +kernel
theorem dX5_callsOver_41 : decode cX5_callsOver 41 = .ok (.ireturn, 1) := by decide +kernel
theorem dX5_canFinish_0 : decode cX5_canFinish 0 = .ok (.iload_n 1, 1) := by decide +kernel
theorem dX5_canFinish_1 : decode cX5_canFinish 1 = .ok (.invokestatic 45, 3) := by decide +kernel
theorem dX5_canFinish_4 : decode cX5_canFinish 4 = .ok (.istore_n 2, 1) := by decide +kernel
theorem dX5_canFinish_5 : decode cX5_canFinish 5 = .ok (.aload_n 0, 1) := by decide +kernel
theorem dX5_canFinish_6 : decode cX5_canFinish 6 = .ok (.getfield 20, 3) := by decide +kernel
theorem dX5_canFinish_9 : decode cX5_canFinish 9 = .ok (.iload_n 2, 1) := by decide +kernel
theorem dX5_canFinish_10 : decode cX5_canFinish 10 = .ok (.bipush 10, 2) := by decide +kernel
theorem dX5_canFinish_12 : decode cX5_canFinish 12 = .ok (.iadd, 1) := by decide +kernel
theorem dX5_canFinish_13 : decode cX5_canFinish 13 = .ok (.iaload, 1) := by decide +kernel
theorem dX5_canFinish_14 : decode cX5_canFinish 14 = .ok (.istore_n 3, 1) := by decide +kernel
theorem dX5_canFinish_15 : decode cX5_canFinish 15 = .ok (.iconst 0, 1) := by decide +kernel
theorem dX5_canFinish_16 : decode cX5_canFinish 16 = .ok (.istore 4, 2) := by decide +kernel
theorem dX5_canFinish_18 : decode cX5_canFinish 18 = .ok (.iload 4, 2) := by decide +kernel
theorem dX5_canFinish_20 : decode cX5_canFinish 20 = .ok (.bipush 60, 2) := by decide +kernel
theorem dX5_canFinish_22 : decode cX5_canFinish 22 = .ok (.if_icmp .ge 41, 3) := by decide +kernel
theorem dX5_canFinish_25 : decode cX5_canFinish 25 = .ok (.aload_n 0, 1) := by decide +kernel
theorem dX5_canFinish_26 : decode cX5_canFinish 26 = .ok (.iload_n 1, 1) := by decide +kernel
theorem dX5_canFinish_27 : decode cX5_canFinish 27 = .ok (.invokevirtual 58, 3) := by decide +kernel
theorem dX5_canFinish_30 : decode cX5_canFinish 30 = .ok (.aload_n 0, 1) := by decide +kernel
theorem dX5_canFinish_31 : decode cX5_canFinish 31 = .ok (.getfield 20, 3) := by decide +kernel
theorem dX5_canFinish_34 : decode cX5_canFinish 34 = .ok (.iload_n 2, 1) := by decide +kernel
theorem dX5_canFinish_35 : decode cX5_canFinish 35 = .ok (.bipush 12, 2) := by decide +kernel
theorem dX5_canFinish_37 : decode cX5_canFinish 37 = .ok (.iadd, 1) := by decide +kernel
theorem dX5_canFinish_38 : decode cX5_canFinish 38 = .ok (.iaload, 1) := by decide +kernel
theorem dX5_canFinish_39 : decode cX5_canFinish 39 = .ok (.ifCond .ne 16, 3) := by decide +kernel
theorem dX5_canFinish_42 : decode cX5_canFinish 42 = .ok (.aload_n 0, 1) := by decide +kernel
theorem dX5_canFinish_43 : decode cX5_canFinish 43 = .ok (.getfield 20, 3) := by decide +kernel
theorem dX5_canFinish_46 : decode cX5_canFinish 46 = .ok (.iload_n 2, 1) := by decide +kernel
theorem dX5_canFinish_47 : decode cX5_canFinish 47 = .ok (.bipush 10, 2) := by decide +kernel
theorem dX5_canFinish_49 : decode cX5_canFinish 49 = .ok (.iadd, 1) := by decide +kernel
theorem dX5_canFinish_50 : decode cX5_canFinish 50 = .ok (.iaload, 1) := by decide +kernel
theorem dX5_canFinish_51 : decode cX5_canFinish 51 = .ok (.iload_n 3, 1) := by decide +kernel
theorem dX5_canFinish_52 : decode cX5_canFinish 52 = .ok (.if_icmp .le 5, 3) := by decide +kernel
theorem dX5_canFinish_55 : decode cX5_canFinish 55 = .ok (.iconst 1, 1) := by decide +kernel
theorem dX5_canFinish_56 : decode cX5_canFinish 56 = .ok (.ireturn, 1) := by decide +kernel
theorem dX5_canFinish_57 : decode cX5_canFinish 57 = .ok (.iinc 4 1, 3) := by decide +kernel
theorem dX5_canFinish_60 : decode cX5_canFinish 60 = .ok (.goto (-42), 3) := by decide +kernel
theorem dX5_canFinish_63 : decode cX5_canFinish 63 = .ok (.iconst 0, 1) := by decide +kernel
theorem dX5_canFinish_64 : decode cX5_canFinish 64 = .ok (.ireturn, 1) := by decide +kernel
theorem dX5_choose_0 : decode cX5_choose 0 = .ok (.iload_n 1, 1) := by decide +kernel
theorem dX5_choose_1 : decode cX5_choose 1 = .ok (.iconst 3, 1) := by decide +kernel
theorem dX5_choose_2 : decode cX5_choose 2 = .ok (.if_icmp .ge 11, 3) := by decide +kernel
theorem dX5_choose_5 : decode cX5_choose 5 = .ok (.aload_n 0, 1) := by decide +kernel
theorem dX5_choose_6 : decode cX5_choose 6 = .ok (.iload_n 1, 1) := by decide +kernel
theorem dX5_choose_7 : decode cX5_choose 7 = .ok (.invokevirtual 58, 3) := by decide +kernel
theorem dX5_choose_10 : decode cX5_choose 10 = .ok (.goto 13, 3) := by decide +kernel
theorem dX5_choose_13 : decode cX5_choose 13 = .ok (.aload_n 0, 1) := by decide +kernel
theorem dX5_choose_14 : decode cX5_choose 14 = .ok (.iload_n 1, 1) := by decide +kernel
theorem dX5_choose_15 : decode cX5_choose 15 = .ok (.iconst 3, 1) := by decide +kernel
theorem dX5_choose_16 : decode cX5_choose 16 = .ok (.isub, 1) := by decide +kernel
theorem dX5_choose_17 : decode cX5_choose 17 = .ok (.invokestatic 45, 3) := by decide +kernel
theorem dX5_choose_20 : decode cX5_choose 20 = .ok (.invokevirtual 65, 3) := by decide +kernel
theorem dX5_choose_23 : decode cX5_choose 23 = .ok (.return_, 1) := by decide +kernel
theorem dX5_comeOldest_0 : decode cX5_comeOldest 0 = .ok (.aload_n 0, 1) := by decide +kernel
theorem dX5_comeOldest_1 : decode cX5_comeOldest 1 = .ok (.getfield 20, 3) := by decide +kernel
theorem dX5_comeOldest_4 : decode cX5_comeOldest 4 = .ok (.iload_n 1, 1) := by decide +kernel
theorem dX5_comeOldest_5 : decode cX5_comeOldest 5 = .ok (.bipush 13, 2) := by decide +kernel
theorem dX5_comeOldest_7 : decode cX5_comeOldest 7 = .ok (.iadd, 1) := by decide +kernel
theorem dX5_comeOldest_8 : decode cX5_comeOldest 8 = .ok (.iaload, 1) := by decide +kernel
theorem dX5_comeOldest_9 : decode cX5_comeOldest 9 = .ok (.ifCond .ne 4, 3) := by decide +kernel
theorem dX5_comeOldest_12 : decode cX5_comeOldest 12 = .ok (.return_, 1) := by decide +kernel
theorem dX5_comeOldest_13 : decode cX5_comeOldest 13 = .ok (.aload_n 0, 1) := by decide +kernel
theorem dX5_comeOldest_14 : decode cX5_comeOldest 14 = .ok (.getfield 20, 3) := by decide +kernel
theorem dX5_comeOldest_17 : decode cX5_comeOldest 17 = .ok (.iload_n 1, 1) := by decide +kernel
theorem dX5_comeOldest_18 : decode cX5_comeOldest 18 = .ok (.bipush 14, 2) := by decide +kernel
theorem dX5_comeOldest_20 : decode cX5_comeOldest 20 = .ok (.iadd, 1) := by decide +kernel
theorem dX5_comeOldest_21 : decode cX5_comeOldest 21 = .ok (.iaload, 1) := by decide +kernel
theorem dX5_comeOldest_22 : decode cX5_comeOldest 22 = .ok (.istore_n 2, 1) := by decide +kernel
theorem dX5_comeOldest_23 : decode cX5_comeOldest 23 = .ok (.aload_n 0, 1) := by decide +kernel
theorem dX5_comeOldest_24 : decode cX5_comeOldest 24 = .ok (.iload_n 2, 1) := by decide +kernel
theorem dX5_comeOldest_25 : decode cX5_comeOldest 25 = .ok (.bipush 31, 2) := by decide +kernel
theorem dX5_comeOldest_27 : decode cX5_comeOldest 27 = .ok (.iand, 1) := by decide +kernel
theorem dX5_comeOldest_28 : decode cX5_comeOldest 28 = .ok (.iload_n 2, 1) := by decide +kernel
theorem dX5_comeOldest_29 : decode cX5_comeOldest 29 = .ok (.iconst 5, 1) := by decide +kernel
theorem dX5_comeOldest_30 : decode cX5_comeOldest 30 = .ok (.ishr, 1) := by decide +kernel
theorem dX5_comeOldest_31 : decode cX5_comeOldest 31 = .ok (.invokevirtual 163, 3) := by decide +kernel
theorem dX5_comeOldest_34 : decode cX5_comeOldest 34 = .ok (.iload_n 1, 1) := by decide +kernel
theorem dX5_comeOldest_35 : decode cX5_comeOldest 35 = .ok (.bipush 14, 2) := by decide +kernel
theorem dX5_comeOldest_37 : decode cX5_comeOldest 37 = .ok (.iadd, 1) := by decide +kernel
theorem dX5_comeOldest_38 : decode cX5_comeOldest 38 = .ok (.istore_n 3, 1) := by decide +kernel
theorem dX5_comeOldest_39 : decode cX5_comeOldest 39 = .ok (.iload_n 3, 1) := by decide +kernel
theorem dX5_comeOldest_40 : decode cX5_comeOldest 40 = .ok (.iload_n 1, 1) := by decide +kernel
theorem dX5_comeOldest_41 : decode cX5_comeOldest 41 = .ok (.bipush 18, 2) := by decide +kernel
theorem dX5_comeOldest_43 : decode cX5_comeOldest 43 = .ok (.iadd, 1) := by decide +kernel
theorem dX5_comeOldest_44 : decode cX5_comeOldest 44 = .ok (.iconst 1, 1) := by decide +kernel
theorem dX5_comeOldest_45 : decode cX5_comeOldest 45 = .ok (.isub, 1) := by decide +kernel
theorem dX5_comeOldest_46 : decode cX5_comeOldest 46 = .ok (.if_icmp .ge 23, 3) := by decide +kernel
theorem dX5_comeOldest_49 : decode cX5_comeOldest 49 = .ok (.aload_n 0, 1) := by decide +kernel
theorem dX5_comeOldest_50 : decode cX5_comeOldest 50 = .ok (.getfield 20, 3) := by decide +kernel
theorem dX5_comeOldest_53 : decode cX5_comeOldest 53 = .ok (.iload_n 3, 1) := by decide +kernel
theorem dX5_comeOldest_54 : decode cX5_comeOldest 54 = .ok (.aload_n 0, 1) := by decide +kernel
theorem dX5_comeOldest_55 : decode cX5_comeOldest 55 = .ok (.getfield 20, 3) := by decide +kernel
theorem dX5_comeOldest_58 : decode cX5_comeOldest 58 = .ok (.iload_n 3, 1) := by decide +kernel
theorem dX5_comeOldest_59 : decode cX5_comeOldest 59 = .ok (.iconst 1, 1) := by decide +kernel
theorem dX5_comeOldest_60 : decode cX5_comeOldest 60 = .ok (.iadd, 1) := by decide +kernel
theorem dX5_comeOldest_61 : decode cX5_comeOldest 61 = .ok (.iaload, 1) := by decide +kernel
theorem dX5_comeOldest_62 : decode cX5_comeOldest 62 = .ok (.iastore, 1) := by decide +kernel
theorem dX5_comeOldest_63 : decode cX5_comeOldest 63 = .ok (.iinc 3 1, 3) := by decide +kernel
theorem dX5_comeOldest_66 : decode cX5_comeOldest 66 = .ok (.goto (-27), 3) := by decide +kernel
theorem dX5_comeOldest_69 : decode cX5_comeOldest 69 = .ok (.aload_n 0, 1) := by decide +kernel
theorem dX5_comeOldest_70 : decode cX5_comeOldest 70 = .ok (.getfield 20, 3) := by decide +kernel
theorem dX5_comeOldest_73 : decode cX5_comeOldest 73 = .ok (.iload_n 1, 1) := by decide +kernel
theorem dX5_comeOldest_74 : decode cX5_comeOldest 74 = .ok (.bipush 18, 2) := by decide +kernel
theorem dX5_comeOldest_76 : decode cX5_comeOldest 76 = .ok (.iadd, 1) := by decide +kernel
theorem dX5_comeOldest_77 : decode cX5_comeOldest 77 = .ok (.iconst 1, 1) := by decide +kernel
theorem dX5_comeOldest_78 : decode cX5_comeOldest 78 = .ok (.isub, 1) := by decide +kernel
theorem dX5_comeOldest_79 : decode cX5_comeOldest 79 = .ok (.iconst 0, 1) := by decide +kernel
theorem dX5_comeOldest_80 : decode cX5_comeOldest 80 = .ok (.iastore, 1) := by decide +kernel
theorem dX5_comeOldest_81 : decode cX5_comeOldest 81 = .ok (.aload_n 0, 1) := by decide +kernel
theorem dX5_comeOldest_82 : decode cX5_comeOldest 82 = .ok (.getfield 20, 3) := by decide +kernel
theorem dX5_comeOldest_85 : decode cX5_comeOldest 85 = .ok (.iload_n 1, 1) := by decide +kernel
theorem dX5_comeOldest_86 : decode cX5_comeOldest 86 = .ok (.bipush 13, 2) := by decide +kernel
theorem dX5_comeOldest_88 : decode cX5_comeOldest 88 = .ok (.iadd, 1) := by decide +kernel
theorem dX5_comeOldest_89 : decode cX5_comeOldest 89 = .ok (.dup2, 1) := by decide +kernel
theorem dX5_comeOldest_90 : decode cX5_comeOldest 90 = .ok (.iaload, 1) := by decide +kernel
theorem dX5_comeOldest_91 : decode cX5_comeOldest 91 = .ok (.iconst 1, 1) := by decide +kernel
theorem dX5_comeOldest_92 : decode cX5_comeOldest 92 = .ok (.isub, 1) := by decide +kernel
theorem dX5_comeOldest_93 : decode cX5_comeOldest 93 = .ok (.iastore, 1) := by decide +kernel
theorem dX5_comeOldest_94 : decode cX5_comeOldest 94 = .ok (.return_, 1) := by decide +kernel
theorem dX5_endCall_0 : decode cX5_endCall 0 = .ok (.iload_n 2, 1) := by decide +kernel
theorem dX5_endCall_1 : decode cX5_endCall 1 = .ok (.bipush 9, 2) := by decide +kernel
theorem dX5_endCall_3 : decode cX5_endCall 3 = .ok (.if_icmp .ge 13, 3) := by decide +kernel
theorem dX5_endCall_6 : decode cX5_endCall 6 = .ok (.aload_n 0, 1) := by decide +kernel
theorem dX5_endCall_7 : decode cX5_endCall 7 = .ok (.getfield 20, 3) := by decide +kernel
theorem dX5_endCall_10 : decode cX5_endCall 10 = .ok (.bipush 28, 2) := by decide +kernel
theorem dX5_endCall_12 : decode cX5_endCall 12 = .ok (.iload_n 2, 1) := by decide +kernel
theorem dX5_endCall_13 : decode cX5_endCall 13 = .ok (.iadd, 1) := by decide +kernel
theorem dX5_endCall_14 : decode cX5_endCall 14 = .ok (.iload_n 3, 1) := by decide +kernel
theorem dX5_endCall_15 : decode cX5_endCall 15 = .ok (.iastore, 1) := by decide +kernel
theorem dX5_endCall_16 : decode cX5_endCall 16 = .ok (.iload_n 1, 1) := by decide +kernel
theorem dX5_endCall_17 : decode cX5_endCall 17 = .ok (.istore 4, 2) := by decide +kernel
theorem dX5_endCall_19 : decode cX5_endCall 19 = .ok (.iload 4, 2) := by decide +kernel
theorem dX5_endCall_21 : decode cX5_endCall 21 = .ok (.iload_n 1, 1) := by decide +kernel
theorem dX5_endCall_22 : decode cX5_endCall 22 = .ok (.bipush 9, 2) := by decide +kernel
theorem dX5_endCall_24 : decode cX5_endCall 24 = .ok (.iadd, 1) := by decide +kernel
theorem dX5_endCall_25 : decode cX5_endCall 25 = .ok (.if_icmp .gt 17, 3) := by decide +kernel
theorem dX5_endCall_28 : decode cX5_endCall 28 = .ok (.aload_n 0, 1) := by decide +kernel
theorem dX5_endCall_29 : decode cX5_endCall 29 = .ok (.getfield 20, 3) := by decide +kernel
theorem dX5_endCall_32 : decode cX5_endCall 32 = .ok (.iload 4, 2) := by decide +kernel
theorem dX5_endCall_34 : decode cX5_endCall 34 = .ok (.iconst 0, 1) := by decide +kernel
theorem dX5_endCall_35 : decode cX5_endCall 35 = .ok (.iastore, 1) := by decide +kernel
theorem dX5_endCall_36 : decode cX5_endCall 36 = .ok (.iinc 4 1, 3) := by decide +kernel
theorem dX5_endCall_39 : decode cX5_endCall 39 = .ok (.goto (-20), 3) := by decide +kernel
theorem dX5_endCall_42 : decode cX5_endCall 42 = .ok (.aload_n 0, 1) := by decide +kernel
theorem dX5_endCall_43 : decode cX5_endCall 43 = .ok (.getfield 20, 3) := by decide +kernel
theorem dX5_endCall_46 : decode cX5_endCall 46 = .ok (.iload_n 1, 1) := by decide +kernel
theorem dX5_endCall_47 : decode cX5_endCall 47 = .ok (.bipush 11, 2) := by decide +kernel
theorem dX5_endCall_49 : decode cX5_endCall 49 = .ok (.iadd, 1) := by decide +kernel
theorem dX5_endCall_50 : decode cX5_endCall 50 = .ok (.iconst 0, 1) := by decide +kernel
theorem dX5_endCall_51 : decode cX5_endCall 51 = .ok (.iastore, 1) := by decide +kernel
theorem dX5_endCall_52 : decode cX5_endCall 52 = .ok (.aload_n 0, 1) := by decide +kernel
theorem dX5_endCall_53 : decode cX5_endCall 53 = .ok (.getfield 20, 3) := by decide +kernel
theorem dX5_endCall_56 : decode cX5_endCall 56 = .ok (.iload_n 1, 1) := by decide +kernel
theorem dX5_endCall_57 : decode cX5_endCall 57 = .ok (.bipush 10, 2) := by decide +kernel
theorem dX5_endCall_59 : decode cX5_endCall 59 = .ok (.iadd, 1) := by decide +kernel
theorem dX5_endCall_60 : decode cX5_endCall 60 = .ok (.dup2, 1) := by decide +kernel
theorem dX5_endCall_61 : decode cX5_endCall 61 = .ok (.iaload, 1) := by decide +kernel
theorem dX5_endCall_62 : decode cX5_endCall 62 = .ok (.iconst 1, 1) := by decide +kernel
theorem dX5_endCall_63 : decode cX5_endCall 63 = .ok (.iadd, 1) := by decide +kernel
theorem dX5_endCall_64 : decode cX5_endCall 64 = .ok (.iastore, 1) := by decide +kernel
theorem dX5_endCall_65 : decode cX5_endCall 65 = .ok (.return_, 1) := by decide +kernel
theorem dX5_freeUnguarded_0 : decode cX5_freeUnguarded 0 = .ok (.iconst 0, 1) := by decide +kernel
theorem dX5_freeUnguarded_1 : decode cX5_freeUnguarded 1 = .ok (.istore_n 1, 1) := by decide +kernel
theorem dX5_freeUnguarded_2 : decode cX5_freeUnguarded 2 = .ok (.iload_n 1, 1) := by decide +kernel
theorem dX5_freeUnguarded_3 : decode cX5_freeUnguarded 3 = .ok (.bipush 6, 2) := by decide +kernel
theorem dX5_freeUnguarded_5 : decode cX5_freeUnguarded 5 = .ok (.if_icmp .ge 40, 3) := by decide +kernel
theorem dX5_freeUnguarded_8 : decode cX5_freeUnguarded 8 = .ok (.aload_n 0, 1) := by decide +kernel
theorem dX5_freeUnguarded_9 : decode cX5_freeUnguarded 9 = .ok (.getfield 20, 3) := by decide +kernel
theorem dX5_freeUnguarded_12 : decode cX5_freeUnguarded 12 = .ok (.bipush 20, 2) := by decide +kernel
theorem dX5_freeUnguarded_14 : decode cX5_freeUnguarded 14 = .ok (.iload_n 1, 1) := by decide +kernel
theorem dX5_freeUnguarded_15 : decode cX5_freeUnguarded 15 = .ok (.iadd, 1) := by decide +kernel
theorem dX5_freeUnguarded_16 : decode cX5_freeUnguarded 16 = .ok (.iaload, 1) := by decide +kernel
theorem dX5_freeUnguarded_17 : decode cX5_freeUnguarded 17 = .ok (.iconst 2, 1) := by decide +kernel
theorem dX5_freeUnguarded_18 : decode cX5_freeUnguarded 18 = .ok (.if_icmp .lt 21, 3) := by decide +kernel
theorem dX5_freeUnguarded_21 : decode cX5_freeUnguarded 21 = .ok (.aload_n 0, 1) := by decide +kernel
theorem dX5_freeUnguarded_22 : decode cX5_freeUnguarded 22 = .ok (.iload_n 1, 1) := by decide +kernel
theorem dX5_freeUnguarded_23 : decode cX5_freeUnguarded 23 = .ok (.invokevirtual 194, 3) := by decide +kernel
theorem dX5_freeUnguarded_26 : decode cX5_freeUnguarded 26 = .ok (.ifCond .ne 13, 3) := by decide +kernel
theorem dX5_freeUnguarded_29 : decode cX5_freeUnguarded 29 = .ok (.aload_n 0, 1) := by decide +kernel
theorem dX5_freeUnguarded_30 : decode cX5_freeUnguarded 30 = .ok (.getfield 20, 3) := by decide +kernel
theorem dX5_freeUnguarded_33 : decode cX5_freeUnguarded 33 = .ok (.bipush 20, 2) := by decide +kernel
theorem dX5_freeUnguarded_35 : decode cX5_freeUnguarded 35 = .ok (.iload_n 1, 1) := by decide +kernel
theorem dX5_freeUnguarded_36 : decode cX5_freeUnguarded 36 = .ok (.iadd, 1) := by decide +kernel
theorem dX5_freeUnguarded_37 : decode cX5_freeUnguarded 37 = .ok (.iconst 0, 1) := by decide +kernel
theorem dX5_freeUnguarded_38 : decode cX5_freeUnguarded 38 = .ok (.iastore, 1) := by decide +kernel
theorem dX5_freeUnguarded_39 : decode cX5_freeUnguarded 39 = .ok (.iinc 1 1, 3) := by decide +kernel
theorem dX5_freeUnguarded_42 : decode cX5_freeUnguarded 42 = .ok (.goto (-40), 3) := by decide +kernel
theorem dX5_freeUnguarded_45 : decode cX5_freeUnguarded 45 = .ok (.return_, 1) := by decide +kernel
theorem dX5_guardFor_0 : decode cX5_guardFor 0 = .ok (.iload_n 0, 1) := by decide +kernel
theorem dX5_guardFor_1 : decode cX5_guardFor 1 = .ok (.invokestatic 147, 3) := by decide +kernel
theorem dX5_guardFor_4 : decode cX5_guardFor 4 = .ok (.iconst 2, 1) := by decide +kernel
theorem dX5_guardFor_5 : decode cX5_guardFor 5 = .ok (.if_icmp .ne 12, 3) := by decide +kernel
theorem dX5_guardFor_8 : decode cX5_guardFor 8 = .ok (.iload_n 0, 1) := by decide +kernel
theorem dX5_guardFor_9 : decode cX5_guardFor 9 = .ok (.invokestatic 141, 3) := by decide +kernel
theorem dX5_guardFor_12 : decode cX5_guardFor 12 = .ok (.iconst 1, 1) := by decide +kernel
theorem dX5_guardFor_13 : decode cX5_guardFor 13 = .ok (.iadd, 1) := by decide +kernel
theorem dX5_guardFor_14 : decode cX5_guardFor 14 = .ok (.goto 4, 3) := by decide +kernel
theorem dX5_guardFor_17 : decode cX5_guardFor 17 = .ok (.iconst 0, 1) := by decide +kernel
theorem dX5_guardFor_18 : decode cX5_guardFor 18 = .ok (.ireturn, 1) := by decide +kernel
theorem dX5_hasError_0 : decode cX5_hasError 0 = .ok (.iconst 0, 1) := by decide +kernel
theorem dX5_hasError_1 : decode cX5_hasError 1 = .ok (.istore_n 1, 1) := by decide +kernel
theorem dX5_hasError_2 : decode cX5_hasError 2 = .ok (.iload_n 1, 1) := by decide +kernel
theorem dX5_hasError_3 : decode cX5_hasError 3 = .ok (.iconst 3, 1) := by decide +kernel
theorem dX5_hasError_4 : decode cX5_hasError 4 = .ok (.if_icmp .ge 26, 3) := by decide +kernel
theorem dX5_hasError_7 : decode cX5_hasError 7 = .ok (.aload_n 0, 1) := by decide +kernel
theorem dX5_hasError_8 : decode cX5_hasError 8 = .ok (.getfield 20, 3) := by decide +kernel
theorem dX5_hasError_11 : decode cX5_hasError 11 = .ok (.iload_n 1, 1) := by decide +kernel
theorem dX5_hasError_12 : decode cX5_hasError 12 = .ok (.invokestatic 45, 3) := by decide +kernel
theorem dX5_hasError_15 : decode cX5_hasError 15 = .ok (.bipush 12, 2) := by decide +kernel
theorem dX5_hasError_17 : decode cX5_hasError 17 = .ok (.iadd, 1) := by decide +kernel
theorem dX5_hasError_18 : decode cX5_hasError 18 = .ok (.iaload, 1) := by decide +kernel
theorem dX5_hasError_19 : decode cX5_hasError 19 = .ok (.ifCond .eq 5, 3) := by decide +kernel
theorem dX5_hasError_22 : decode cX5_hasError 22 = .ok (.iconst 1, 1) := by decide +kernel
theorem dX5_hasError_23 : decode cX5_hasError 23 = .ok (.ireturn, 1) := by decide +kernel
theorem dX5_hasError_24 : decode cX5_hasError 24 = .ok (.iinc 1 1, 3) := by decide +kernel
theorem dX5_hasError_27 : decode cX5_hasError 27 = .ok (.goto (-25), 3) := by decide +kernel
theorem dX5_hasError_30 : decode cX5_hasError 30 = .ok (.iconst 0, 1) := by decide +kernel
theorem dX5_hasError_31 : decode cX5_hasError 31 = .ok (.ireturn, 1) := by decide +kernel
theorem dX5_isAtEnd_0 : decode cX5_isAtEnd 0 = .ok (.iconst 0, 1) := by decide +kernel
theorem dX5_isAtEnd_1 : decode cX5_isAtEnd 1 = .ok (.istore_n 1, 1) := by decide +kernel
theorem dX5_isAtEnd_2 : decode cX5_isAtEnd 2 = .ok (.iload_n 1, 1) := by decide +kernel
theorem dX5_isAtEnd_3 : decode cX5_isAtEnd 3 = .ok (.bipush 6, 2) := by decide +kernel
theorem dX5_isAtEnd_5 : decode cX5_isAtEnd 5 = .ok (.if_icmp .ge 19, 3) := by decide +kernel
theorem dX5_isAtEnd_8 : decode cX5_isAtEnd 8 = .ok (.aload_n 0, 1) := by decide +kernel
theorem dX5_isAtEnd_9 : decode cX5_isAtEnd 9 = .ok (.iload_n 1, 1) := by decide +kernel
theorem dX5_isAtEnd_10 : decode cX5_isAtEnd 10 = .ok (.invokevirtual 62, 3) := by decide +kernel
theorem dX5_isAtEnd_13 : decode cX5_isAtEnd 13 = .ok (.ifCond .eq 5, 3) := by decide +kernel
theorem dX5_isAtEnd_16 : decode cX5_isAtEnd 16 = .ok (.iconst 0, 1) := by decide +kernel
theorem dX5_isAtEnd_17 : decode cX5_isAtEnd 17 = .ok (.ireturn, 1) := by decide +kernel
theorem dX5_isAtEnd_18 : decode cX5_isAtEnd 18 = .ok (.iinc 1 1, 3) := by decide +kernel
theorem dX5_isAtEnd_21 : decode cX5_isAtEnd 21 = .ok (.goto (-19), 3) := by decide +kernel
theorem dX5_isAtEnd_24 : decode cX5_isAtEnd 24 = .ok (.iconst 1, 1) := by decide +kernel
theorem dX5_isAtEnd_25 : decode cX5_isAtEnd 25 = .ok (.ireturn, 1) := by decide +kernel
theorem dX5_isGuarded_0 : decode cX5_isGuarded 0 = .ok (.iconst 0, 1) := by decide +kernel
theorem dX5_isGuarded_1 : decode cX5_isGuarded 1 = .ok (.istore_n 2, 1) := by decide +kernel
theorem dX5_isGuarded_2 : decode cX5_isGuarded 2 = .ok (.iload_n 2, 1) := by decide +kernel
theorem dX5_isGuarded_3 : decode cX5_isGuarded 3 = .ok (.iconst 3, 1) := by decide +kernel
theorem dX5_isGuarded_4 : decode cX5_isGuarded 4 = .ok (.if_icmp .gt 45, 3) := by decide +kernel
theorem dX5_isGuarded_7 : decode cX5_isGuarded 7 = .ok (.iload_n 2, 1) := by decide +kernel
theorem dX5_isGuarded_8 : decode cX5_isGuarded 8 = .ok (.invokestatic 45, 3) := by decide +kernel
theorem dX5_isGuarded_11 : decode cX5_isGuarded 11 = .ok (.bipush 6, 2) := by decide +kernel
theorem dX5_isGuarded_13 : decode cX5_isGuarded 13 = .ok (.iadd, 1) := by decide +kernel
theorem dX5_isGuarded_14 : decode cX5_isGuarded 14 = .ok (.istore_n 3, 1) := by decide +kernel
theorem dX5_isGuarded_15 : decode cX5_isGuarded 15 = .ok (.aload_n 0, 1) := by decide +kernel
theorem dX5_isGuarded_16 : decode cX5_isGuarded 16 = .ok (.getfield 20, 3) := by decide +kernel
theorem dX5_isGuarded_19 : decode cX5_isGuarded 19 = .ok (.iload_n 3, 1) := by decide +kernel
theorem dX5_isGuarded_20 : decode cX5_isGuarded 20 = .ok (.iaload, 1) := by decide +kernel
theorem dX5_isGuarded_21 : decode cX5_isGuarded 21 = .ok (.iload_n 1, 1) := by decide +kernel
theorem dX5_isGuarded_22 : decode cX5_isGuarded 22 = .ok (.iconst 1, 1) := by decide +kernel
theorem dX5_isGuarded_23 : decode cX5_isGuarded 23 = .ok (.iadd, 1) := by decide +kernel
theorem dX5_isGuarded_24 : decode cX5_isGuarded 24 = .ok (.if_icmp .eq 17, 3) := by decide +kernel
theorem dX5_isGuarded_27 : decode cX5_isGuarded 27 = .ok (.aload_n 0, 1) := by decide +kernel
theorem dX5_isGuarded_28 : decode cX5_isGuarded 28 = .ok (.getfield 20, 3) := by decide +kernel
theorem dX5_isGuarded_31 : decode cX5_isGuarded 31 = .ok (.iload_n 3, 1) := by decide +kernel
theorem dX5_isGuarded_32 : decode cX5_isGuarded 32 = .ok (.iconst 1, 1) := by decide +kernel
theorem dX5_isGuarded_33 : decode cX5_isGuarded 33 = .ok (.iadd, 1) := by decide +kernel
theorem dX5_isGuarded_34 : decode cX5_isGuarded 34 = .ok (.iaload, 1) := by decide +kernel
theorem dX5_isGuarded_35 : decode cX5_isGuarded 35 = .ok (.iload_n 1, 1) := by decide +kernel
theorem dX5_isGuarded_36 : decode cX5_isGuarded 36 = .ok (.iconst 1, 1) := by decide +kernel
theorem dX5_isGuarded_37 : decode cX5_isGuarded 37 = .ok (.iadd, 1) := by decide +kernel
theorem dX5_isGuarded_38 : decode cX5_isGuarded 38 = .ok (.if_icmp .ne 5, 3) := by decide +kernel
theorem dX5_isGuarded_41 : decode cX5_isGuarded 41 = .ok (.iconst 1, 1) := by decide +kernel
theorem dX5_isGuarded_42 : decode cX5_isGuarded 42 = .ok (.ireturn, 1) := by decide +kernel
theorem dX5_isGuarded_43 : decode cX5_isGuarded 43 = .ok (.iinc 2 1, 3) := by decide +kernel
theorem dX5_isGuarded_46 : decode cX5_isGuarded 46 = .ok (.goto (-44), 3) := by decide +kernel
theorem dX5_isGuarded_49 : decode cX5_isGuarded 49 = .ok (.iconst 0, 1) := by decide +kernel
theorem dX5_isGuarded_50 : decode cX5_isGuarded 50 = .ok (.ireturn, 1) := by decide +kernel
theorem dX5_isPossible_0 : decode cX5_isPossible 0 = .ok (.iload_n 1, 1) := by decide +kernel
theorem dX5_isPossible_1 : decode cX5_isPossible 1 = .ok (.iconst 3, 1) := by decide +kernel
theorem dX5_isPossible_2 : decode cX5_isPossible 2 = .ok (.irem, 1) := by decide +kernel
theorem dX5_isPossible_3 : decode cX5_isPossible 3 = .ok (.invokestatic 45, 3) := by decide +kernel
theorem dX5_isPossible_6 : decode cX5_isPossible 6 = .ok (.istore_n 2, 1) := by decide +kernel
theorem dX5_isPossible_7 : decode cX5_isPossible 7 = .ok (.iload_n 1, 1) := by decide +kernel
theorem dX5_isPossible_8 : decode cX5_isPossible 8 = .ok (.iconst 3, 1) := by decide +kernel
theorem dX5_isPossible_9 : decode cX5_isPossible 9 = .ok (.if_icmp .lt 21, 3) := by decide +kernel
theorem dX5_isPossible_12 : decode cX5_isPossible 12 = .ok (.aload_n 0, 1) := by decide +kernel
theorem dX5_isPossible_13 : decode cX5_isPossible 13 = .ok (.getfield 20, 3) := by decide +kernel
theorem dX5_isPossible_16 : decode cX5_isPossible 16 = .ok (.iload_n 2, 1) := by decide +kernel
theorem dX5_isPossible_17 : decode cX5_isPossible 17 = .ok (.bipush 13, 2) := by decide +kernel
theorem dX5_isPossible_19 : decode cX5_isPossible 19 = .ok (.iadd, 1) := by decide +kernel
theorem dX5_isPossible_20 : decode cX5_isPossible 20 = .ok (.iaload, 1) := by decide +kernel
theorem dX5_isPossible_21 : decode cX5_isPossible 21 = .ok (.ifCond .le 7, 3) := by decide +kernel
theorem dX5_isPossible_24 : decode cX5_isPossible 24 = .ok (.iconst 1, 1) := by decide +kernel
theorem dX5_isPossible_25 : decode cX5_isPossible 25 = .ok (.goto 4, 3) := by decide +kernel
theorem dX5_isPossible_28 : decode cX5_isPossible 28 = .ok (.iconst 0, 1) := by decide +kernel
theorem dX5_isPossible_29 : decode cX5_isPossible 29 = .ok (.ireturn, 1) := by decide +kernel
theorem dX5_isPossible_30 : decode cX5_isPossible 30 = .ok (.aload_n 0, 1) := by decide +kernel
theorem dX5_isPossible_31 : decode cX5_isPossible 31 = .ok (.getfield 20, 3) := by decide +kernel
theorem dX5_isPossible_34 : decode cX5_isPossible 34 = .ok (.iload_n 2, 1) := by decide +kernel
theorem dX5_isPossible_35 : decode cX5_isPossible 35 = .ok (.bipush 12, 2) := by decide +kernel
theorem dX5_isPossible_37 : decode cX5_isPossible 37 = .ok (.iadd, 1) := by decide +kernel
theorem dX5_isPossible_38 : decode cX5_isPossible 38 = .ok (.iaload, 1) := by decide +kernel
theorem dX5_isPossible_39 : decode cX5_isPossible 39 = .ok (.ifCond .ne 28, 3) := by decide +kernel
theorem dX5_isPossible_42 : decode cX5_isPossible 42 = .ok (.aload_n 0, 1) := by decide +kernel
theorem dX5_isPossible_43 : decode cX5_isPossible 43 = .ok (.getfield 20, 3) := by decide +kernel
theorem dX5_isPossible_46 : decode cX5_isPossible 46 = .ok (.iload_n 2, 1) := by decide +kernel
theorem dX5_isPossible_47 : decode cX5_isPossible 47 = .ok (.bipush 10, 2) := by decide +kernel
theorem dX5_isPossible_49 : decode cX5_isPossible 49 = .ok (.iadd, 1) := by decide +kernel
theorem dX5_isPossible_50 : decode cX5_isPossible 50 = .ok (.iaload, 1) := by decide +kernel
theorem dX5_isPossible_51 : decode cX5_isPossible 51 = .ok (.aload_n 0, 1) := by decide +kernel
theorem dX5_isPossible_52 : decode cX5_isPossible 52 = .ok (.getfield 12, 3) := by decide +kernel
theorem dX5_isPossible_55 : decode cX5_isPossible 55 = .ok (.getfield 38, 3) := by decide +kernel
theorem dX5_isPossible_58 : decode cX5_isPossible 58 = .ok (.iload_n 1, 1) := by decide +kernel
theorem dX5_isPossible_59 : decode cX5_isPossible 59 = .ok (.iaload, 1) := by decide +kernel
theorem dX5_isPossible_60 : decode cX5_isPossible 60 = .ok (.if_icmp .ge 7, 3) := by decide +kernel
theorem dX5_isPossible_63 : decode cX5_isPossible 63 = .ok (.iconst 1, 1) := by decide +kernel
theorem dX5_isPossible_64 : decode cX5_isPossible 64 = .ok (.goto 4, 3) := by decide +kernel
theorem dX5_isPossible_67 : decode cX5_isPossible 67 = .ok (.iconst 0, 1) := by decide +kernel
theorem dX5_isPossible_68 : decode cX5_isPossible 68 = .ok (.ireturn, 1) := by decide +kernel
theorem dX5_letComeUntil_0 : decode cX5_letComeUntil 0 = .ok (.aload_n 0, 1) := by decide +kernel
theorem dX5_letComeUntil_1 : decode cX5_letComeUntil 1 = .ok (.getfield 20, 3) := by decide +kernel
theorem dX5_letComeUntil_4 : decode cX5_letComeUntil 4 = .ok (.iload_n 1, 1) := by decide +kernel
theorem dX5_letComeUntil_5 : decode cX5_letComeUntil 5 = .ok (.bipush 13, 2) := by decide +kernel
theorem dX5_letComeUntil_7 : decode cX5_letComeUntil 7 = .ok (.iadd, 1) := by decide +kernel
theorem dX5_letComeUntil_8 : decode cX5_letComeUntil 8 = .ok (.iaload, 1) := by decide +kernel
theorem dX5_letComeUntil_9 : decode cX5_letComeUntil 9 = .ok (.istore_n 3, 1) := by decide +kernel
theorem dX5_letComeUntil_10 : decode cX5_letComeUntil 10 = .ok (.iload_n 3, 1) := by decide +kernel
theorem dX5_letComeUntil_11 : decode cX5_letComeUntil 11 = .ok (.iload_n 2, 1) := by decide +kernel
theorem dX5_letComeUntil_12 : decode cX5_letComeUntil 12 = .ok (.if_icmp .le 14, 3) := by decide +kernel
theorem dX5_letComeUntil_15 : decode cX5_letComeUntil 15 = .ok (.aload_n 0, 1) := by decide +kernel
theorem dX5_letComeUntil_16 : decode cX5_letComeUntil 16 = .ok (.iload_n 1, 1) := by decide +kernel
theorem dX5_letComeUntil_17 : decode cX5_letComeUntil 17 = .ok (.invokevirtual 65, 3) := by decide +kernel
theorem dX5_letComeUntil_20 : decode cX5_letComeUntil 20 = .ok (.iinc 3 (-1), 3) := by decide +kernel
theorem dX5_letComeUntil_23 : decode cX5_letComeUntil 23 = .ok (.goto (-13), 3) := by decide +kernel
theorem dX5_letComeUntil_26 : decode cX5_letComeUntil 26 = .ok (.return_, 1) := by decide +kernel
theorem dX5_memoryError_0 : decode cX5_memoryError 0 = .ok (.aload_n 0, 1) := by decide +kernel
theorem dX5_memoryError_1 : decode cX5_memoryError 1 = .ok (.getfield 12, 3) := by decide +kernel
theorem dX5_memoryError_4 : decode cX5_memoryError 4 = .ok (.getfield 83, 3) := by decide +kernel
theorem dX5_memoryError_7 : decode cX5_memoryError 7 = .ok (.iload_n 2, 1) := by decide +kernel
theorem dX5_memoryError_8 : decode cX5_memoryError 8 = .ok (.iconst 1, 1) := by decide +kernel
theorem dX5_memoryError_9 : decode cX5_memoryError 9 = .ok (.iadd, 1) := by decide +kernel
theorem dX5_memoryError_10 : decode cX5_memoryError 10 = .ok (.iaload, 1) := by decide +kernel
theorem dX5_memoryError_11 : decode cX5_memoryError 11 = .ok (.istore_n 3, 1) := by decide +kernel
theorem dX5_memoryError_12 : decode cX5_memoryError 12 = .ok (.aload_n 0, 1) := by decide +kernel
theorem dX5_memoryError_13 : decode cX5_memoryError 13 = .ok (.getfield 12, 3) := by decide +kernel
theorem dX5_memoryError_16 : decode cX5_memoryError 16 = .ok (.getfield 83, 3) := by decide +kernel
theorem dX5_memoryError_19 : decode cX5_memoryError 19 = .ok (.iload_n 2, 1) := by decide +kernel
theorem dX5_memoryError_20 : decode cX5_memoryError 20 = .ok (.iaload, 1) := by decide +kernel
theorem dX5_memoryError_21 : decode cX5_memoryError 21 = .ok (.tableswitch 122 1 9 #[51, 122, 75, 122, 75, 103, 122, 122, 89], 51) := by decide +kernel
theorem dX5_memoryError_72 : decode cX5_memoryError 72 = .ok (.aload_n 0, 1) := by decide +kernel
theorem dX5_memoryError_73 : decode cX5_memoryError 73 = .ok (.aload_n 0, 1) := by decide +kernel
theorem dX5_memoryError_74 : decode cX5_memoryError 74 = .ok (.getfield 20, 3) := by decide +kernel
theorem dX5_memoryError_77 : decode cX5_memoryError 77 = .ok (.iload_n 1, 1) := by decide +kernel
theorem dX5_memoryError_78 : decode cX5_memoryError 78 = .ok (.aload_n 0, 1) := by decide +kernel
theorem dX5_memoryError_79 : decode cX5_memoryError 79 = .ok (.getfield 12, 3) := by decide +kernel
theorem dX5_memoryError_82 : decode cX5_memoryError 82 = .ok (.getfield 83, 3) := by decide +kernel
theorem dX5_memoryError_85 : decode cX5_memoryError 85 = .ok (.iload_n 2, 1) := by decide +kernel
theorem dX5_memoryError_86 : decode cX5_memoryError 86 = .ok (.iconst 2, 1) := by decide +kernel
theorem dX5_memoryError_87 : decode cX5_memoryError 87 = .ok (.iadd, 1) := by decide +kernel
theorem dX5_memoryError_88 : decode cX5_memoryError 88 = .ok (.iaload, 1) := by decide +kernel
theorem dX5_memoryError_89 : decode cX5_memoryError 89 = .ok (.iadd, 1) := by decide +kernel
theorem dX5_memoryError_90 : decode cX5_memoryError 90 = .ok (.iaload, 1) := by decide +kernel
theorem dX5_memoryError_91 : decode cX5_memoryError 91 = .ok (.iconst 4, 1) := by decide +kernel
theorem dX5_memoryError_92 : decode cX5_memoryError 92 = .ok (.invokevirtual 144, 3) := by decide +kernel
theorem dX5_memoryError_95 : decode cX5_memoryError 95 = .ok (.ireturn, 1) := by decide +kernel
theorem dX5_memoryError_96 : decode cX5_memoryError 96 = .ok (.aload_n 0, 1) := by decide +kernel
theorem dX5_memoryError_97 : decode cX5_memoryError 97 = .ok (.aload_n 0, 1) := by decide +kernel
theorem dX5_memoryError_98 : decode cX5_memoryError 98 = .ok (.getfield 20, 3) := by decide +kernel
theorem dX5_memoryError_101 : decode cX5_memoryError 101 = .ok (.iload_n 1, 1) := by decide +kernel
theorem dX5_memoryError_102 : decode cX5_memoryError 102 = .ok (.iload_n 3, 1) := by decide +kernel
theorem dX5_memoryError_103 : decode cX5_memoryError 103 = .ok (.iadd, 1) := by decide +kernel
theorem dX5_memoryError_104 : decode cX5_memoryError 104 = .ok (.iaload, 1) := by decide +kernel
theorem dX5_memoryError_105 : decode cX5_memoryError 105 = .ok (.iconst 4, 1) := by decide +kernel
theorem dX5_memoryError_106 : decode cX5_memoryError 106 = .ok (.invokevirtual 144, 3) := by decide +kernel
theorem dX5_memoryError_109 : decode cX5_memoryError 109 = .ok (.ireturn, 1) := by decide +kernel
theorem dX5_memoryError_110 : decode cX5_memoryError 110 = .ok (.aload_n 0, 1) := by decide +kernel
theorem dX5_memoryError_111 : decode cX5_memoryError 111 = .ok (.aload_n 0, 1) := by decide +kernel
theorem dX5_memoryError_112 : decode cX5_memoryError 112 = .ok (.getfield 20, 3) := by decide +kernel
theorem dX5_memoryError_115 : decode cX5_memoryError 115 = .ok (.iload_n 1, 1) := by decide +kernel
theorem dX5_memoryError_116 : decode cX5_memoryError 116 = .ok (.iload_n 3, 1) := by decide +kernel
theorem dX5_memoryError_117 : decode cX5_memoryError 117 = .ok (.iadd, 1) := by decide +kernel
theorem dX5_memoryError_118 : decode cX5_memoryError 118 = .ok (.iaload, 1) := by decide +kernel
theorem dX5_memoryError_119 : decode cX5_memoryError 119 = .ok (.iconst 5, 1) := by decide +kernel
theorem dX5_memoryError_120 : decode cX5_memoryError 120 = .ok (.invokevirtual 144, 3) := by decide +kernel
theorem dX5_memoryError_123 : decode cX5_memoryError 123 = .ok (.ireturn, 1) := by decide +kernel
theorem dX5_memoryError_124 : decode cX5_memoryError 124 = .ok (.aload_n 0, 1) := by decide +kernel
theorem dX5_memoryError_125 : decode cX5_memoryError 125 = .ok (.getfield 20, 3) := by decide +kernel
theorem dX5_memoryError_128 : decode cX5_memoryError 128 = .ok (.iload_n 3, 1) := by decide +kernel
theorem dX5_memoryError_129 : decode cX5_memoryError 129 = .ok (.iaload, 1) := by decide +kernel
theorem dX5_memoryError_130 : decode cX5_memoryError 130 = .ok (.invokestatic 147, 3) := by decide +kernel
theorem dX5_memoryError_133 : decode cX5_memoryError 133 = .ok (.iconst 2, 1) := by decide +kernel
theorem dX5_memoryError_134 : decode cX5_memoryError 134 = .ok (.if_icmp .ne 7, 3) := by decide +kernel
theorem dX5_memoryError_137 : decode cX5_memoryError 137 = .ok (.iconst 2, 1) := by decide +kernel
theorem dX5_memoryError_138 : decode cX5_memoryError 138 = .ok (.goto 4, 3) := by decide +kernel
theorem dX5_memoryError_141 : decode cX5_memoryError 141 = .ok (.iconst 0, 1) := by decide +kernel
theorem dX5_memoryError_142 : decode cX5_memoryError 142 = .ok (.ireturn, 1) := by decide +kernel
theorem dX5_memoryError_143 : decode cX5_memoryError 143 = .ok (.iconst 0, 1) := by decide +kernel
theorem dX5_memoryError_144 : decode cX5_memoryError 144 = .ok (.ireturn, 1) := by decide +kernel
theorem dX5_nodeError_0 : decode cX5_nodeError 0 = .ok (.iload_n 1, 1) := by decide +kernel
theorem dX5_nodeError_1 : decode cX5_nodeError 1 = .ok (.iconst 2, 1) := by decide +kernel
theorem dX5_nodeError_2 : decode cX5_nodeError 2 = .ok (.invokestatic 131, 3) := by decide +kernel
theorem dX5_nodeError_5 : decode cX5_nodeError 5 = .ok (.istore_n 3, 1) := by decide +kernel
theorem dX5_nodeError_6 : decode cX5_nodeError 6 = .ok (.iload_n 3, 1) := by decide +kernel
theorem dX5_nodeError_7 : decode cX5_nodeError 7 = .ok (.ifCond .eq 5, 3) := by decide +kernel
theorem dX5_nodeError_10 : decode cX5_nodeError 10 = .ok (.iload_n 3, 1) := by decide +kernel
theorem dX5_nodeError_11 : decode cX5_nodeError 11 = .ok (.ireturn, 1) := by decide +kernel
theorem dX5_nodeError_12 : decode cX5_nodeError 12 = .ok (.aload_n 0, 1) := by decide +kernel
theorem dX5_nodeError_13 : decode cX5_nodeError 13 = .ok (.getfield 20, 3) := by decide +kernel
theorem dX5_nodeError_16 : decode cX5_nodeError 16 = .ok (.bipush 20, 2) := by decide +kernel
theorem dX5_nodeError_18 : decode cX5_nodeError 18 = .ok (.iload_n 1, 1) := by decide +kernel
theorem dX5_nodeError_19 : decode cX5_nodeError 19 = .ok (.invokestatic 141, 3) := by decide +kernel
theorem dX5_nodeError_22 : decode cX5_nodeError 22 = .ok (.iadd, 1) := by decide +kernel
theorem dX5_nodeError_23 : decode cX5_nodeError 23 = .ok (.iaload, 1) := by decide +kernel
theorem dX5_nodeError_24 : decode cX5_nodeError 24 = .ok (.istore 4, 2) := by decide +kernel
theorem dX5_nodeError_26 : decode cX5_nodeError 26 = .ok (.iload 4, 2) := by decide +kernel
theorem dX5_nodeError_28 : decode cX5_nodeError 28 = .ok (.ifCond .ne 5, 3) := by decide +kernel
theorem dX5_nodeError_31 : decode cX5_nodeError 31 = .ok (.iload_n 2, 1) := by decide +kernel
theorem dX5_nodeError_32 : decode cX5_nodeError 32 = .ok (.ireturn, 1) := by decide +kernel
theorem dX5_nodeError_33 : decode cX5_nodeError 33 = .ok (.iload_n 2, 1) := by decide +kernel
theorem dX5_nodeError_34 : decode cX5_nodeError 34 = .ok (.iconst 5, 1) := by decide +kernel
theorem dX5_nodeError_35 : decode cX5_nodeError 35 = .ok (.if_icmp .ne 13, 3) := by decide +kernel
theorem dX5_nodeError_38 : decode cX5_nodeError 38 = .ok (.iload 4, 2) := by decide +kernel
theorem dX5_nodeError_40 : decode cX5_nodeError 40 = .ok (.iconst 1, 1) := by decide +kernel
theorem dX5_nodeError_41 : decode cX5_nodeError 41 = .ok (.if_icmp .eq 7, 3) := by decide +kernel
theorem dX5_nodeError_44 : decode cX5_nodeError 44 = .ok (.iload_n 2, 1) := by decide +kernel
theorem dX5_nodeError_45 : decode cX5_nodeError 45 = .ok (.goto 4, 3) := by decide +kernel
theorem dX5_nodeError_48 : decode cX5_nodeError 48 = .ok (.iconst 0, 1) := by decide +kernel
theorem dX5_nodeError_49 : decode cX5_nodeError 49 = .ok (.ireturn, 1) := by decide +kernel
theorem dX5_noteMoment_0 : decode cX5_noteMoment 0 = .ok (.aload_n 0, 1) := by decide +kernel
theorem dX5_noteMoment_1 : decode cX5_noteMoment 1 = .ok (.getfield 12, 3) := by decide +kernel
theorem dX5_noteMoment_4 : decode cX5_noteMoment 4 = .ok (.getfield 83, 3) := by decide +kernel
theorem dX5_noteMoment_7 : decode cX5_noteMoment 7 = .ok (.iload_n 2, 1) := by decide +kernel
theorem dX5_noteMoment_8 : decode cX5_noteMoment 8 = .ok (.iaload, 1) := by decide +kernel
theorem dX5_noteMoment_9 : decode cX5_noteMoment 9 = .ok (.istore 4, 2) := by decide +kernel
theorem dX5_noteMoment_11 : decode cX5_noteMoment 11 = .ok (.aload_n 0, 1) := by decide +kernel
theorem dX5_noteMoment_12 : decode cX5_noteMoment 12 = .ok (.getfield 12, 3) := by decide +kernel
theorem dX5_noteMoment_15 : decode cX5_noteMoment 15 = .ok (.getfield 83, 3) := by decide +kernel
theorem dX5_noteMoment_18 : decode cX5_noteMoment 18 = .ok (.iload_n 2, 1) := by decide +kernel
theorem dX5_noteMoment_19 : decode cX5_noteMoment 19 = .ok (.iconst 4, 1) := by decide +kernel
theorem dX5_noteMoment_20 : decode cX5_noteMoment 20 = .ok (.iadd, 1) := by decide +kernel
theorem dX5_noteMoment_21 : decode cX5_noteMoment 21 = .ok (.iaload, 1) := by decide +kernel
theorem dX5_noteMoment_22 : decode cX5_noteMoment 22 = .ok (.ifCond .eq 9, 3) := by decide +kernel
theorem dX5_noteMoment_25 : decode cX5_noteMoment 25 = .ok (.iload_n 3, 1) := by decide +kernel
theorem dX5_noteMoment_26 : decode cX5_noteMoment 26 = .ok (.bipush 9, 2) := by decide +kernel
theorem dX5_noteMoment_28 : decode cX5_noteMoment 28 = .ok (.if_icmp .lt 4, 3) := by decide +kernel
theorem dX5_noteMoment_31 : decode cX5_noteMoment 31 = .ok (.return_, 1) := by decide +kernel
theorem dX5_noteMoment_32 : decode cX5_noteMoment 32 = .ok (.iload 4, 2) := by decide +kernel
theorem dX5_noteMoment_34 : decode cX5_noteMoment 34 = .ok (.iconst 4, 1) := by decide +kernel
theorem dX5_noteMoment_35 : decode cX5_noteMoment 35 = .ok (.if_icmp .eq 9, 3) := by decide +kernel
theorem dX5_noteMoment_38 : decode cX5_noteMoment 38 = .ok (.iload 4, 2) := by decide +kernel
theorem dX5_noteMoment_40 : decode cX5_noteMoment 40 = .ok (.iconst 5, 1) := by decide +kernel
theorem dX5_noteMoment_41 : decode cX5_noteMoment 41 = .ok (.if_icmp .ne 18, 3) := by decide +kernel
theorem dX5_noteMoment_44 : decode cX5_noteMoment 44 = .ok (.aload_n 0, 1) := by decide +kernel
theorem dX5_noteMoment_45 : decode cX5_noteMoment 45 = .ok (.getfield 20, 3) := by decide +kernel
theorem dX5_noteMoment_48 : decode cX5_noteMoment 48 = .ok (.iload_n 1, 1) := by decide +kernel
theorem dX5_noteMoment_49 : decode cX5_noteMoment 49 = .ok (.iconst 5, 1) := by decide +kernel
theorem dX5_noteMoment_50 : decode cX5_noteMoment 50 = .ok (.iadd, 1) := by decide +kernel
theorem dX5_noteMoment_51 : decode cX5_noteMoment 51 = .ok (.iaload, 1) := by decide +kernel
theorem dX5_noteMoment_52 : decode cX5_noteMoment 52 = .ok (.invokestatic 141, 3) := by decide +kernel
theorem dX5_noteMoment_55 : decode cX5_noteMoment 55 = .ok (.ifCond .ne 4, 3) := by decide +kernel
theorem dX5_noteMoment_58 : decode cX5_noteMoment 58 = .ok (.return_, 1) := by decide +kernel
theorem dX5_noteMoment_59 : decode cX5_noteMoment 59 = .ok (.iconst 0, 1) := by decide +kernel
theorem dX5_noteMoment_60 : decode cX5_noteMoment 60 = .ok (.istore 5, 2) := by decide +kernel
theorem dX5_noteMoment_62 : decode cX5_noteMoment 62 = .ok (.iconst 0, 1) := by decide +kernel
theorem dX5_noteMoment_63 : decode cX5_noteMoment 63 = .ok (.istore 6, 2) := by decide +kernel
theorem dX5_noteMoment_65 : decode cX5_noteMoment 65 = .ok (.iconst 0, 1) := by decide +kernel
theorem dX5_noteMoment_66 : decode cX5_noteMoment 66 = .ok (.istore 7, 2) := by decide +kernel
theorem dX5_noteMoment_68 : decode cX5_noteMoment 68 = .ok (.iload 7, 2) := by decide +kernel
theorem dX5_noteMoment_70 : decode cX5_noteMoment 70 = .ok (.bipush 6, 2) := by decide +kernel
theorem dX5_noteMoment_72 : decode cX5_noteMoment 72 = .ok (.if_icmp .ge 55, 3) := by decide +kernel
theorem dX5_noteMoment_75 : decode cX5_noteMoment 75 = .ok (.aload_n 0, 1) := by decide +kernel
theorem dX5_noteMoment_76 : decode cX5_noteMoment 76 = .ok (.getfield 20, 3) := by decide +kernel
theorem dX5_noteMoment_79 : decode cX5_noteMoment 79 = .ok (.bipush 27, 2) := by decide +kernel
theorem dX5_noteMoment_81 : decode cX5_noteMoment 81 = .ok (.iaload, 1) := by decide +kernel
theorem dX5_noteMoment_82 : decode cX5_noteMoment 82 = .ok (.iconst 4, 1) := by decide +kernel
theorem dX5_noteMoment_83 : decode cX5_noteMoment 83 = .ok (.iload 7, 2) := by decide +kernel
theorem dX5_noteMoment_85 : decode cX5_noteMoment 85 = .ok (.imul, 1) := by decide +kernel
theorem dX5_noteMoment_86 : decode cX5_noteMoment 86 = .ok (.ishr, 1) := by decide +kernel
theorem dX5_noteMoment_87 : decode cX5_noteMoment 87 = .ok (.bipush 15, 2) := by decide +kernel
theorem dX5_noteMoment_89 : decode cX5_noteMoment 89 = .ok (.iand, 1) := by decide +kernel
theorem dX5_noteMoment_90 : decode cX5_noteMoment 90 = .ok (.istore 8, 2) := by decide +kernel
theorem dX5_noteMoment_92 : decode cX5_noteMoment 92 = .ok (.iload 8, 2) := by decide +kernel
theorem dX5_noteMoment_94 : decode cX5_noteMoment 94 = .ok (.ifCond .eq 27, 3) := by decide +kernel
theorem dX5_noteMoment_97 : decode cX5_noteMoment 97 = .ok (.iload 8, 2) := by decide +kernel
theorem dX5_noteMoment_99 : decode cX5_noteMoment 99 = .ok (.iload_n 3, 1) := by decide +kernel
theorem dX5_noteMoment_100 : decode cX5_noteMoment 100 = .ok (.iconst 1, 1) := by decide +kernel
theorem dX5_noteMoment_101 : decode cX5_noteMoment 101 = .ok (.iadd, 1) := by decide +kernel
theorem dX5_noteMoment_102 : decode cX5_noteMoment 102 = .ok (.if_icmp .ne 6, 3) := by decide +kernel
theorem dX5_noteMoment_105 : decode cX5_noteMoment 105 = .ok (.goto 16, 3) := by decide +kernel
theorem dX5_noteMoment_108 : decode cX5_noteMoment 108 = .ok (.iload 5, 2) := by decide +kernel
theorem dX5_noteMoment_110 : decode cX5_noteMoment 110 = .ok (.iload 8, 2) := by decide +kernel
theorem dX5_noteMoment_112 : decode cX5_noteMoment 112 = .ok (.iload 6, 2) := by decide +kernel
theorem dX5_noteMoment_114 : decode cX5_noteMoment 114 = .ok (.ishl, 1) := by decide +kernel
theorem dX5_noteMoment_115 : decode cX5_noteMoment 115 = .ok (.ior, 1) := by decide +kernel
theorem dX5_noteMoment_116 : decode cX5_noteMoment 116 = .ok (.istore 5, 2) := by decide +kernel
theorem dX5_noteMoment_118 : decode cX5_noteMoment 118 = .ok (.iinc 6 4, 3) := by decide +kernel
theorem dX5_noteMoment_121 : decode cX5_noteMoment 121 = .ok (.iinc 7 1, 3) := by decide +kernel
theorem dX5_noteMoment_124 : decode cX5_noteMoment 124 = .ok (.goto (-56), 3) := by decide +kernel
theorem dX5_noteMoment_127 : decode cX5_noteMoment 127 = .ok (.aload_n 0, 1) := by decide +kernel
theorem dX5_noteMoment_128 : decode cX5_noteMoment 128 = .ok (.getfield 20, 3) := by decide +kernel
theorem dX5_noteMoment_131 : decode cX5_noteMoment 131 = .ok (.bipush 27, 2) := by decide +kernel
theorem dX5_noteMoment_133 : decode cX5_noteMoment 133 = .ok (.iload 5, 2) := by decide +kernel
theorem dX5_noteMoment_135 : decode cX5_noteMoment 135 = .ok (.iload_n 3, 1) := by decide +kernel
theorem dX5_noteMoment_136 : decode cX5_noteMoment 136 = .ok (.iconst 1, 1) := by decide +kernel
theorem dX5_noteMoment_137 : decode cX5_noteMoment 137 = .ok (.iadd, 1) := by decide +kernel
theorem dX5_noteMoment_138 : decode cX5_noteMoment 138 = .ok (.iload 6, 2) := by decide +kernel
theorem dX5_noteMoment_140 : decode cX5_noteMoment 140 = .ok (.ishl, 1) := by decide +kernel
theorem dX5_noteMoment_141 : decode cX5_noteMoment 141 = .ok (.ior, 1) := by decide +kernel
theorem dX5_noteMoment_142 : decode cX5_noteMoment 142 = .ok (.iastore, 1) := by decide +kernel
theorem dX5_noteMoment_143 : decode cX5_noteMoment 143 = .ok (.return_, 1) := by decide +kernel
theorem dX5_ownAct_0 : decode cX5_ownAct 0 = .ok (.aload_n 0, 1) := by decide +kernel
theorem dX5_ownAct_1 : decode cX5_ownAct 1 = .ok (.getfield 12, 3) := by decide +kernel
theorem dX5_ownAct_4 : decode cX5_ownAct 4 = .ok (.getfield 83, 3) := by decide +kernel
theorem dX5_ownAct_7 : decode cX5_ownAct 7 = .ok (.iload_n 2, 1) := by decide +kernel
theorem dX5_ownAct_8 : decode cX5_ownAct 8 = .ok (.iconst 1, 1) := by decide +kernel
theorem dX5_ownAct_9 : decode cX5_ownAct 9 = .ok (.iadd, 1) := by decide +kernel
theorem dX5_ownAct_10 : decode cX5_ownAct 10 = .ok (.iaload, 1) := by decide +kernel
theorem dX5_ownAct_11 : decode cX5_ownAct 11 = .ok (.istore_n 3, 1) := by decide +kernel
theorem dX5_ownAct_12 : decode cX5_ownAct 12 = .ok (.aload_n 0, 1) := by decide +kernel
theorem dX5_ownAct_13 : decode cX5_ownAct 13 = .ok (.getfield 12, 3) := by decide +kernel
theorem dX5_ownAct_16 : decode cX5_ownAct 16 = .ok (.getfield 83, 3) := by decide +kernel
theorem dX5_ownAct_19 : decode cX5_ownAct 19 = .ok (.iload_n 2, 1) := by decide +kernel
theorem dX5_ownAct_20 : decode cX5_ownAct 20 = .ok (.iconst 2, 1) := by decide +kernel
theorem dX5_ownAct_21 : decode cX5_ownAct 21 = .ok (.iadd, 1) := by decide +kernel
theorem dX5_ownAct_22 : decode cX5_ownAct 22 = .ok (.iaload, 1) := by decide +kernel
theorem dX5_ownAct_23 : decode cX5_ownAct 23 = .ok (.istore 4, 2) := by decide +kernel
theorem dX5_ownAct_25 : decode cX5_ownAct 25 = .ok (.aload_n 0, 1) := by decide +kernel
theorem dX5_ownAct_26 : decode cX5_ownAct 26 = .ok (.getfield 12, 3) := by decide +kernel
theorem dX5_ownAct_29 : decode cX5_ownAct 29 = .ok (.getfield 83, 3) := by decide +kernel
theorem dX5_ownAct_32 : decode cX5_ownAct 32 = .ok (.iload_n 2, 1) := by decide +kernel
theorem dX5_ownAct_33 : decode cX5_ownAct 33 = .ok (.iaload, 1) := by decide +kernel
theorem dX5_ownAct_34 : decode cX5_ownAct 34 = .ok (.tableswitch 169 20 25 #[38, 54, 66, 86, 110, 123], 38) := by decide +kernel
theorem dX5_ownAct_72 : decode cX5_ownAct 72 = .ok (.aload_n 0, 1) := by decide +kernel
theorem dX5_ownAct_73 : decode cX5_ownAct 73 = .ok (.getfield 20, 3) := by decide +kernel
theorem dX5_ownAct_76 : decode cX5_ownAct 76 = .ok (.iload_n 1, 1) := by decide +kernel
theorem dX5_ownAct_77 : decode cX5_ownAct 77 = .ok (.iload_n 3, 1) := by decide +kernel
theorem dX5_ownAct_78 : decode cX5_ownAct 78 = .ok (.iadd, 1) := by decide +kernel
theorem dX5_ownAct_79 : decode cX5_ownAct 79 = .ok (.iload 4, 2) := by decide +kernel
theorem dX5_ownAct_81 : decode cX5_ownAct 81 = .ok (.invokestatic 111, 3) := by decide +kernel
theorem dX5_ownAct_84 : decode cX5_ownAct 84 = .ok (.iastore, 1) := by decide +kernel
theorem dX5_ownAct_85 : decode cX5_ownAct 85 = .ok (.goto 143, 3) := by decide +kernel
theorem dX5_ownAct_88 : decode cX5_ownAct 88 = .ok (.aload_n 0, 1) := by decide +kernel
theorem dX5_ownAct_89 : decode cX5_ownAct 89 = .ok (.getfield 20, 3) := by decide +kernel
theorem dX5_ownAct_92 : decode cX5_ownAct 92 = .ok (.iload_n 1, 1) := by decide +kernel
theorem dX5_ownAct_93 : decode cX5_ownAct 93 = .ok (.iload_n 3, 1) := by decide +kernel
theorem dX5_ownAct_94 : decode cX5_ownAct 94 = .ok (.iadd, 1) := by decide +kernel
theorem dX5_ownAct_95 : decode cX5_ownAct 95 = .ok (.iconst 0, 1) := by decide +kernel
theorem dX5_ownAct_96 : decode cX5_ownAct 96 = .ok (.iastore, 1) := by decide +kernel
theorem dX5_ownAct_97 : decode cX5_ownAct 97 = .ok (.goto 131, 3) := by decide +kernel
theorem dX5_ownAct_100 : decode cX5_ownAct 100 = .ok (.aload_n 0, 1) := by decide +kernel
theorem dX5_ownAct_101 : decode cX5_ownAct 101 = .ok (.getfield 20, 3) := by decide +kernel
theorem dX5_ownAct_104 : decode cX5_ownAct 104 = .ok (.iload_n 1, 1) := by decide +kernel
theorem dX5_ownAct_105 : decode cX5_ownAct 105 = .ok (.iload_n 3, 1) := by decide +kernel
theorem dX5_ownAct_106 : decode cX5_ownAct 106 = .ok (.iadd, 1) := by decide +kernel
theorem dX5_ownAct_107 : decode cX5_ownAct 107 = .ok (.aload_n 0, 1) := by decide +kernel
theorem dX5_ownAct_108 : decode cX5_ownAct 108 = .ok (.getfield 20, 3) := by decide +kernel
theorem dX5_ownAct_111 : decode cX5_ownAct 111 = .ok (.iload_n 1, 1) := by decide +kernel
theorem dX5_ownAct_112 : decode cX5_ownAct 112 = .ok (.iload 4, 2) := by decide +kernel
theorem dX5_ownAct_114 : decode cX5_ownAct 114 = .ok (.iadd, 1) := by decide +kernel
theorem dX5_ownAct_115 : decode cX5_ownAct 115 = .ok (.iaload, 1) := by decide +kernel
theorem dX5_ownAct_116 : decode cX5_ownAct 116 = .ok (.iastore, 1) := by decide +kernel
theorem dX5_ownAct_117 : decode cX5_ownAct 117 = .ok (.goto 111, 3) := by decide +kernel
theorem dX5_ownAct_120 : decode cX5_ownAct 120 = .ok (.aload_n 0, 1) := by decide +kernel
theorem dX5_ownAct_121 : decode cX5_ownAct 121 = .ok (.getfield 20, 3) := by decide +kernel
theorem dX5_ownAct_124 : decode cX5_ownAct 124 = .ok (.iload_n 1, 1) := by decide +kernel
theorem dX5_ownAct_125 : decode cX5_ownAct 125 = .ok (.iload_n 3, 1) := by decide +kernel
theorem dX5_ownAct_126 : decode cX5_ownAct 126 = .ok (.iadd, 1) := by decide +kernel
theorem dX5_ownAct_127 : decode cX5_ownAct 127 = .ok (.aload_n 0, 1) := by decide +kernel
theorem dX5_ownAct_128 : decode cX5_ownAct 128 = .ok (.getfield 20, 3) := by decide +kernel
theorem dX5_ownAct_131 : decode cX5_ownAct 131 = .ok (.iload_n 1, 1) := by decide +kernel
theorem dX5_ownAct_132 : decode cX5_ownAct 132 = .ok (.iload_n 3, 1) := by decide +kernel
theorem dX5_ownAct_133 : decode cX5_ownAct 133 = .ok (.iadd, 1) := by decide +kernel
theorem dX5_ownAct_134 : decode cX5_ownAct 134 = .ok (.iaload, 1) := by decide +kernel
theorem dX5_ownAct_135 : decode cX5_ownAct 135 = .ok (.iload 4, 2) := by decide +kernel
theorem dX5_ownAct_137 : decode cX5_ownAct 137 = .ok (.invokestatic 134, 3) := by decide +kernel
theorem dX5_ownAct_140 : decode cX5_ownAct 140 = .ok (.iastore, 1) := by decide +kernel
theorem dX5_ownAct_141 : decode cX5_ownAct 141 = .ok (.goto 87, 3) := by decide +kernel
theorem dX5_ownAct_144 : decode cX5_ownAct 144 = .ok (.aload_n 0, 1) := by decide +kernel
theorem dX5_ownAct_145 : decode cX5_ownAct 145 = .ok (.getfield 20, 3) := by decide +kernel
theorem dX5_ownAct_148 : decode cX5_ownAct 148 = .ok (.iload_n 1, 1) := by decide +kernel
theorem dX5_ownAct_149 : decode cX5_ownAct 149 = .ok (.bipush 9, 2) := by decide +kernel
theorem dX5_ownAct_151 : decode cX5_ownAct 151 = .ok (.iadd, 1) := by decide +kernel
theorem dX5_ownAct_152 : decode cX5_ownAct 152 = .ok (.iload_n 3, 1) := by decide +kernel
theorem dX5_ownAct_153 : decode cX5_ownAct 153 = .ok (.iastore, 1) := by decide +kernel
theorem dX5_ownAct_154 : decode cX5_ownAct 154 = .ok (.goto 74, 3) := by decide +kernel
theorem dX5_ownAct_157 : decode cX5_ownAct 157 = .ok (.aload_n 0, 1) := by decide +kernel
theorem dX5_ownAct_158 : decode cX5_ownAct 158 = .ok (.getfield 20, 3) := by decide +kernel
theorem dX5_ownAct_161 : decode cX5_ownAct 161 = .ok (.iload_n 1, 1) := by decide +kernel
theorem dX5_ownAct_162 : decode cX5_ownAct 162 = .ok (.iload_n 3, 1) := by decide +kernel
theorem dX5_ownAct_163 : decode cX5_ownAct 163 = .ok (.iadd, 1) := by decide +kernel
theorem dX5_ownAct_164 : decode cX5_ownAct 164 = .ok (.iaload, 1) := by decide +kernel
theorem dX5_ownAct_165 : decode cX5_ownAct 165 = .ok (.aload_n 0, 1) := by decide +kernel
theorem dX5_ownAct_166 : decode cX5_ownAct 166 = .ok (.getfield 20, 3) := by decide +kernel
theorem dX5_ownAct_169 : decode cX5_ownAct 169 = .ok (.iload_n 1, 1) := by decide +kernel
theorem dX5_ownAct_170 : decode cX5_ownAct 170 = .ok (.iload 4, 2) := by decide +kernel
theorem dX5_ownAct_172 : decode cX5_ownAct 172 = .ok (.iadd, 1) := by decide +kernel
theorem dX5_ownAct_173 : decode cX5_ownAct 173 = .ok (.iaload, 1) := by decide +kernel
theorem dX5_ownAct_174 : decode cX5_ownAct 174 = .ok (.invokestatic 137, 3) := by decide +kernel
theorem dX5_ownAct_177 : decode cX5_ownAct 177 = .ok (.ifCond .eq 51, 3) := by decide +kernel
theorem dX5_ownAct_180 : decode cX5_ownAct 180 = .ok (.aload_n 0, 1) := by decide +kernel
theorem dX5_ownAct_181 : decode cX5_ownAct 181 = .ok (.getfield 20, 3) := by decide +kernel
theorem dX5_ownAct_184 : decode cX5_ownAct 184 = .ok (.iload_n 1, 1) := by decide +kernel
theorem dX5_ownAct_185 : decode cX5_ownAct 185 = .ok (.bipush 9, 2) := by decide +kernel
theorem dX5_ownAct_187 : decode cX5_ownAct 187 = .ok (.iadd, 1) := by decide +kernel
theorem dX5_ownAct_188 : decode cX5_ownAct 188 = .ok (.aload_n 0, 1) := by decide +kernel
theorem dX5_ownAct_189 : decode cX5_ownAct 189 = .ok (.getfield 12, 3) := by decide +kernel
theorem dX5_ownAct_192 : decode cX5_ownAct 192 = .ok (.getfield 83, 3) := by decide +kernel
theorem dX5_ownAct_195 : decode cX5_ownAct 195 = .ok (.iload_n 2, 1) := by decide +kernel
theorem dX5_ownAct_196 : decode cX5_ownAct 196 = .ok (.iconst 3, 1) := by decide +kernel
theorem dX5_ownAct_197 : decode cX5_ownAct 197 = .ok (.iadd, 1) := by decide +kernel
theorem dX5_ownAct_198 : decode cX5_ownAct 198 = .ok (.iaload, 1) := by decide +kernel
theorem dX5_ownAct_199 : decode cX5_ownAct 199 = .ok (.iastore, 1) := by decide +kernel
theorem dX5_ownAct_200 : decode cX5_ownAct 200 = .ok (.goto 28, 3) := by decide +kernel
theorem dX5_ownAct_203 : decode cX5_ownAct 203 = .ok (.aload_n 0, 1) := by decide +kernel
theorem dX5_ownAct_204 : decode cX5_ownAct 204 = .ok (.getfield 20, 3) := by decide +kernel
theorem dX5_ownAct_207 : decode cX5_ownAct 207 = .ok (.iload_n 1, 1) := by decide +kernel
theorem dX5_ownAct_208 : decode cX5_ownAct 208 = .ok (.iload_n 3, 1) := by decide +kernel
theorem dX5_ownAct_209 : decode cX5_ownAct 209 = .ok (.iadd, 1) := by decide +kernel
theorem dX5_ownAct_210 : decode cX5_ownAct 210 = .ok (.aload_n 0, 1) := by decide +kernel
theorem dX5_ownAct_211 : decode cX5_ownAct 211 = .ok (.getfield 20, 3) := by decide +kernel
theorem dX5_ownAct_214 : decode cX5_ownAct 214 = .ok (.iload_n 1, 1) := by decide +kernel
theorem dX5_ownAct_215 : decode cX5_ownAct 215 = .ok (.iload_n 3, 1) := by decide +kernel
theorem dX5_ownAct_216 : decode cX5_ownAct 216 = .ok (.iadd, 1) := by decide +kernel
theorem dX5_ownAct_217 : decode cX5_ownAct 217 = .ok (.iaload, 1) := by decide +kernel
theorem dX5_ownAct_218 : decode cX5_ownAct 218 = .ok (.invokestatic 141, 3) := by decide +kernel
theorem dX5_ownAct_221 : decode cX5_ownAct 221 = .ok (.iload 4, 2) := by decide +kernel
theorem dX5_ownAct_223 : decode cX5_ownAct 223 = .ok (.iadd, 1) := by decide +kernel
theorem dX5_ownAct_224 : decode cX5_ownAct 224 = .ok (.invokestatic 111, 3) := by decide +kernel
theorem dX5_ownAct_227 : decode cX5_ownAct 227 = .ok (.iastore, 1) := by decide +kernel
theorem dX5_ownAct_228 : decode cX5_ownAct 228 = .ok (.return_, 1) := by decide +kernel
theorem dX5_ownActs_0 : decode cX5_ownActs 0 = .ok (.iload_n 3, 1) := by decide +kernel
theorem dX5_ownActs_1 : decode cX5_ownActs 1 = .ok (.istore 4, 2) := by decide +kernel
theorem dX5_ownActs_3 : decode cX5_ownActs 3 = .ok (.iload 4, 2) := by decide +kernel
theorem dX5_ownActs_5 : decode cX5_ownActs 5 = .ok (.ifCond .lt 100, 3) := by decide +kernel
theorem dX5_ownActs_8 : decode cX5_ownActs 8 = .ok (.aload_n 0, 1) := by decide +kernel
theorem dX5_ownActs_9 : decode cX5_ownActs 9 = .ok (.getfield 12, 3) := by decide +kernel
theorem dX5_ownActs_12 : decode cX5_ownActs 12 = .ok (.iload_n 2, 1) := by decide +kernel
theorem dX5_ownActs_13 : decode cX5_ownActs 13 = .ok (.aload_n 0, 1) := by decide +kernel
theorem dX5_ownActs_14 : decode cX5_ownActs 14 = .ok (.getfield 20, 3) := by decide +kernel
theorem dX5_ownActs_17 : decode cX5_ownActs 17 = .ok (.iload_n 1, 1) := by decide +kernel
theorem dX5_ownActs_18 : decode cX5_ownActs 18 = .ok (.bipush 9, 2) := by decide +kernel
theorem dX5_ownActs_20 : decode cX5_ownActs 20 = .ok (.iadd, 1) := by decide +kernel
theorem dX5_ownActs_21 : decode cX5_ownActs 21 = .ok (.iaload, 1) := by decide +kernel
theorem dX5_ownActs_22 : decode cX5_ownActs 22 = .ok (.invokevirtual 79, 3) := by decide +kernel
theorem dX5_ownActs_25 : decode cX5_ownActs 25 = .ok (.istore 5, 2) := by decide +kernel
theorem dX5_ownActs_27 : decode cX5_ownActs 27 = .ok (.iload 5, 2) := by decide +kernel
theorem dX5_ownActs_29 : decode cX5_ownActs 29 = .ok (.ifCond .lt 18, 3) := by decide +kernel
theorem dX5_ownActs_32 : decode cX5_ownActs 32 = .ok (.aload_n 0, 1) := by decide +kernel
theorem dX5_ownActs_33 : decode cX5_ownActs 33 = .ok (.getfield 12, 3) := by decide +kernel
theorem dX5_ownActs_36 : decode cX5_ownActs 36 = .ok (.getfield 83, 3) := by decide +kernel
theorem dX5_ownActs_39 : decode cX5_ownActs 39 = .ok (.iload 5, 2) := by decide +kernel
theorem dX5_ownActs_41 : decode cX5_ownActs 41 = .ok (.iaload, 1) := by decide +kernel
theorem dX5_ownActs_42 : decode cX5_ownActs 42 = .ok (.bipush 20, 2) := by decide +kernel
theorem dX5_ownActs_44 : decode cX5_ownActs 44 = .ok (.if_icmp .ge 6, 3) := by decide +kernel
theorem dX5_ownActs_47 : decode cX5_ownActs 47 = .ok (.iload 4, 2) := by decide +kernel
theorem dX5_ownActs_49 : decode cX5_ownActs 49 = .ok (.ireturn, 1) := by decide +kernel
theorem dX5_ownActs_50 : decode cX5_ownActs 50 = .ok (.aload_n 0, 1) := by decide +kernel
theorem dX5_ownActs_51 : decode cX5_ownActs 51 = .ok (.iload_n 1, 1) := by decide +kernel
theorem dX5_ownActs_52 : decode cX5_ownActs 52 = .ok (.iload 5, 2) := by decide +kernel
theorem dX5_ownActs_54 : decode cX5_ownActs 54 = .ok (.iload 4, 2) := by decide +kernel
theorem dX5_ownActs_56 : decode cX5_ownActs 56 = .ok (.invokevirtual 125, 3) := by decide +kernel
theorem dX5_ownActs_59 : decode cX5_ownActs 59 = .ok (.istore 6, 2) := by decide +kernel
theorem dX5_ownActs_61 : decode cX5_ownActs 61 = .ok (.aload_n 0, 1) := by decide +kernel
theorem dX5_ownActs_62 : decode cX5_ownActs 62 = .ok (.getfield 20, 3) := by decide +kernel
theorem dX5_ownActs_65 : decode cX5_ownActs 65 = .ok (.iload_n 1, 1) := by decide +kernel
theorem dX5_ownActs_66 : decode cX5_ownActs 66 = .ok (.bipush 12, 2) := by decide +kernel
theorem dX5_ownActs_68 : decode cX5_ownActs 68 = .ok (.iadd, 1) := by decide +kernel
theorem dX5_ownActs_69 : decode cX5_ownActs 69 = .ok (.iload 6, 2) := by decide +kernel
theorem dX5_ownActs_71 : decode cX5_ownActs 71 = .ok (.iastore, 1) := by decide +kernel
theorem dX5_ownActs_72 : decode cX5_ownActs 72 = .ok (.iload 6, 2) := by decide +kernel
theorem dX5_ownActs_74 : decode cX5_ownActs 74 = .ok (.ifCond .eq 5, 3) := by decide +kernel
theorem dX5_ownActs_77 : decode cX5_ownActs 77 = .ok (.iconst 0, 1) := by decide +kernel
theorem dX5_ownActs_78 : decode cX5_ownActs 78 = .ok (.ireturn, 1) := by decide +kernel
theorem dX5_ownActs_79 : decode cX5_ownActs 79 = .ok (.aload_n 0, 1) := by decide +kernel
theorem dX5_ownActs_80 : decode cX5_ownActs 80 = .ok (.getfield 20, 3) := by decide +kernel
theorem dX5_ownActs_83 : decode cX5_ownActs 83 = .ok (.iload_n 1, 1) := by decide +kernel
theorem dX5_ownActs_84 : decode cX5_ownActs 84 = .ok (.bipush 9, 2) := by decide +kernel
theorem dX5_ownActs_86 : decode cX5_ownActs 86 = .ok (.iadd, 1) := by decide +kernel
theorem dX5_ownActs_87 : decode cX5_ownActs 87 = .ok (.dup2, 1) := by decide +kernel
theorem dX5_ownActs_88 : decode cX5_ownActs 88 = .ok (.iaload, 1) := by decide +kernel
theorem dX5_ownActs_89 : decode cX5_ownActs 89 = .ok (.iconst 1, 1) := by decide +kernel
theorem dX5_ownActs_90 : decode cX5_ownActs 90 = .ok (.iadd, 1) := by decide +kernel
theorem dX5_ownActs_91 : decode cX5_ownActs 91 = .ok (.iastore, 1) := by decide +kernel
theorem dX5_ownActs_92 : decode cX5_ownActs 92 = .ok (.aload_n 0, 1) := by decide +kernel
theorem dX5_ownActs_93 : decode cX5_ownActs 93 = .ok (.iload_n 1, 1) := by decide +kernel
theorem dX5_ownActs_94 : decode cX5_ownActs 94 = .ok (.iload 5, 2) := by decide +kernel
theorem dX5_ownActs_96 : decode cX5_ownActs 96 = .ok (.invokevirtual 128, 3) := by decide +kernel
theorem dX5_ownActs_99 : decode cX5_ownActs 99 = .ok (.iinc 4 (-1), 3) := by decide +kernel
theorem dX5_ownActs_102 : decode cX5_ownActs 102 = .ok (.goto (-99), 3) := by decide +kernel
theorem dX5_ownActs_105 : decode cX5_ownActs 105 = .ok (.iconst 0, 1) := by decide +kernel
theorem dX5_ownActs_106 : decode cX5_ownActs 106 = .ok (.ireturn, 1) := by decide +kernel
theorem dX5_ownError_0 : decode cX5_ownError 0 = .ok (.iconst 0, 1) := by decide +kernel
theorem dX5_ownError_1 : decode cX5_ownError 1 = .ok (.istore 4, 2) := by decide +kernel
theorem dX5_ownError_3 : decode cX5_ownError 3 = .ok (.aload_n 0, 1) := by decide +kernel
theorem dX5_ownError_4 : decode cX5_ownError 4 = .ok (.getfield 12, 3) := by decide +kernel
theorem dX5_ownError_7 : decode cX5_ownError 7 = .ok (.getfield 83, 3) := by decide +kernel
theorem dX5_ownError_10 : decode cX5_ownError 10 = .ok (.iload_n 2, 1) := by decide +kernel
theorem dX5_ownError_11 : decode cX5_ownError 11 = .ok (.iaload, 1) := by decide +kernel
theorem dX5_ownError_12 : decode cX5_ownError 12 = .ok (.bipush 26, 2) := by decide +kernel
theorem dX5_ownError_14 : decode cX5_ownError 14 = .ok (.if_icmp .ne 27, 3) := by decide +kernel
theorem dX5_ownError_17 : decode cX5_ownError 17 = .ok (.aload_n 0, 1) := by decide +kernel
theorem dX5_ownError_18 : decode cX5_ownError 18 = .ok (.getfield 20, 3) := by decide +kernel
theorem dX5_ownError_21 : decode cX5_ownError 21 = .ok (.iload_n 1, 1) := by decide +kernel
theorem dX5_ownError_22 : decode cX5_ownError 22 = .ok (.aload_n 0, 1) := by decide +kernel
theorem dX5_ownError_23 : decode cX5_ownError 23 = .ok (.getfield 12, 3) := by decide +kernel
theorem dX5_ownError_26 : decode cX5_ownError 26 = .ok (.getfield 83, 3) := by decide +kernel
theorem dX5_ownError_29 : decode cX5_ownError 29 = .ok (.iload_n 2, 1) := by decide +kernel
theorem dX5_ownError_30 : decode cX5_ownError 30 = .ok (.iconst 1, 1) := by decide +kernel
theorem dX5_ownError_31 : decode cX5_ownError 31 = .ok (.iadd, 1) := by decide +kernel
theorem dX5_ownError_32 : decode cX5_ownError 32 = .ok (.iaload, 1) := by decide +kernel
theorem dX5_ownError_33 : decode cX5_ownError 33 = .ok (.iadd, 1) := by decide +kernel
theorem dX5_ownError_34 : decode cX5_ownError 34 = .ok (.iaload, 1) := by decide +kernel
theorem dX5_ownError_35 : decode cX5_ownError 35 = .ok (.iconst 1, 1) := by decide +kernel
theorem dX5_ownError_36 : decode cX5_ownError 36 = .ok (.invokestatic 131, 3) := by decide +kernel
theorem dX5_ownError_39 : decode cX5_ownError 39 = .ok (.istore 4, 2) := by decide +kernel
theorem dX5_ownError_41 : decode cX5_ownError 41 = .ok (.iload 4, 2) := by decide +kernel
theorem dX5_ownError_43 : decode cX5_ownError 43 = .ok (.ifCond .ne 11, 3) := by decide +kernel
theorem dX5_ownError_46 : decode cX5_ownError 46 = .ok (.iload_n 3, 1) := by decide +kernel
theorem dX5_ownError_47 : decode cX5_ownError 47 = .ok (.ifCond .ne 7, 3) := by decide +kernel
theorem dX5_ownError_50 : decode cX5_ownError 50 = .ok (.bipush 6, 2) := by decide +kernel
theorem dX5_ownError_52 : decode cX5_ownError 52 = .ok (.istore 4, 2) := by decide +kernel
theorem dX5_ownError_54 : decode cX5_ownError 54 = .ok (.iload 4, 2) := by decide +kernel
theorem dX5_ownError_56 : decode cX5_ownError 56 = .ok (.ireturn, 1) := by decide +kernel
theorem dX5_perform_0 : decode cX5_perform 0 = .ok (.aload_n 0, 1) := by decide +kernel
theorem dX5_perform_1 : decode cX5_perform 1 = .ok (.getfield 12, 3) := by decide +kernel
theorem dX5_perform_4 : decode cX5_perform 4 = .ok (.getfield 83, 3) := by decide +kernel
theorem dX5_perform_7 : decode cX5_perform 7 = .ok (.iload_n 2, 1) := by decide +kernel
theorem dX5_perform_8 : decode cX5_perform 8 = .ok (.iconst 1, 1) := by decide +kernel
theorem dX5_perform_9 : decode cX5_perform 9 = .ok (.iadd, 1) := by decide +kernel
theorem dX5_perform_10 : decode cX5_perform 10 = .ok (.iaload, 1) := by decide +kernel
theorem dX5_perform_11 : decode cX5_perform 11 = .ok (.istore 4, 2) := by decide +kernel
theorem dX5_perform_13 : decode cX5_perform 13 = .ok (.aload_n 0, 1) := by decide +kernel
theorem dX5_perform_14 : decode cX5_perform 14 = .ok (.getfield 12, 3) := by decide +kernel
theorem dX5_perform_17 : decode cX5_perform 17 = .ok (.getfield 83, 3) := by decide +kernel
theorem dX5_perform_20 : decode cX5_perform 20 = .ok (.iload_n 2, 1) := by decide +kernel
theorem dX5_perform_21 : decode cX5_perform 21 = .ok (.iconst 2, 1) := by decide +kernel
theorem dX5_perform_22 : decode cX5_perform 22 = .ok (.iadd, 1) := by decide +kernel
theorem dX5_perform_23 : decode cX5_perform 23 = .ok (.iaload, 1) := by decide +kernel
theorem dX5_perform_24 : decode cX5_perform 24 = .ok (.istore 5, 2) := by decide +kernel
theorem dX5_perform_26 : decode cX5_perform 26 = .ok (.aload_n 0, 1) := by decide +kernel
theorem dX5_perform_27 : decode cX5_perform 27 = .ok (.getfield 12, 3) := by decide +kernel
theorem dX5_perform_30 : decode cX5_perform 30 = .ok (.getfield 83, 3) := by decide +kernel
theorem dX5_perform_33 : decode cX5_perform 33 = .ok (.iload_n 2, 1) := by decide +kernel
theorem dX5_perform_34 : decode cX5_perform 34 = .ok (.iconst 3, 1) := by decide +kernel
theorem dX5_perform_35 : decode cX5_perform 35 = .ok (.iadd, 1) := by decide +kernel
theorem dX5_perform_36 : decode cX5_perform 36 = .ok (.iaload, 1) := by decide +kernel
theorem dX5_perform_37 : decode cX5_perform 37 = .ok (.istore 6, 2) := by decide +kernel
theorem dX5_perform_39 : decode cX5_perform 39 = .ok (.aload_n 0, 1) := by decide +kernel
theorem dX5_perform_40 : decode cX5_perform 40 = .ok (.getfield 12, 3) := by decide +kernel
theorem dX5_perform_43 : decode cX5_perform 43 = .ok (.getfield 83, 3) := by decide +kernel
theorem dX5_perform_46 : decode cX5_perform 46 = .ok (.iload_n 2, 1) := by decide +kernel
theorem dX5_perform_47 : decode cX5_perform 47 = .ok (.iaload, 1) := by decide +kernel
theorem dX5_perform_48 : decode cX5_perform 48 = .ok (.tableswitch 408 0 13 #[72, 91, 125, 144, 178, 206, 248, 408, 291, 307, 326, 353, 374, 387], 72) := by decide +kernel
theorem dX5_perform_120 : decode cX5_perform 120 = .ok (.aload_n 0, 1) := by decide +kernel
theorem dX5_perform_121 : decode cX5_perform 121 = .ok (.getfield 20, 3) := by decide +kernel
theorem dX5_perform_124 : decode cX5_perform 124 = .ok (.iload_n 1, 1) := by decide +kernel
theorem dX5_perform_125 : decode cX5_perform 125 = .ok (.iload 4, 2) := by decide +kernel
theorem dX5_perform_127 : decode cX5_perform 127 = .ok (.iadd, 1) := by decide +kernel
theorem dX5_perform_128 : decode cX5_perform 128 = .ok (.aload_n 0, 1) := by decide +kernel
theorem dX5_perform_129 : decode cX5_perform 129 = .ok (.iload_n 1, 1) := by decide +kernel
theorem dX5_perform_130 : decode cX5_perform 130 = .ok (.iload 5, 2) := by decide +kernel
theorem dX5_perform_132 : decode cX5_perform 132 = .ok (.invokevirtual 150, 3) := by decide +kernel
theorem dX5_perform_135 : decode cX5_perform 135 = .ok (.iastore, 1) := by decide +kernel
theorem dX5_perform_136 : decode cX5_perform 136 = .ok (.goto 320, 3) := by decide +kernel
theorem dX5_perform_139 : decode cX5_perform 139 = .ok (.aload_n 0, 1) := by decide +kernel
theorem dX5_perform_140 : decode cX5_perform 140 = .ok (.getfield 20, 3) := by decide +kernel
theorem dX5_perform_143 : decode cX5_perform 143 = .ok (.iload_n 1, 1) := by decide +kernel
theorem dX5_perform_144 : decode cX5_perform 144 = .ok (.iload 4, 2) := by decide +kernel
theorem dX5_perform_146 : decode cX5_perform 146 = .ok (.iadd, 1) := by decide +kernel
theorem dX5_perform_147 : decode cX5_perform 147 = .ok (.aload_n 0, 1) := by decide +kernel
theorem dX5_perform_148 : decode cX5_perform 148 = .ok (.iload_n 1, 1) := by decide +kernel
theorem dX5_perform_149 : decode cX5_perform 149 = .ok (.aload_n 0, 1) := by decide +kernel
theorem dX5_perform_150 : decode cX5_perform 150 = .ok (.getfield 20, 3) := by decide +kernel
theorem dX5_perform_153 : decode cX5_perform 153 = .ok (.iload_n 1, 1) := by decide +kernel
theorem dX5_perform_154 : decode cX5_perform 154 = .ok (.iload 5, 2) := by decide +kernel
theorem dX5_perform_156 : decode cX5_perform 156 = .ok (.iadd, 1) := by decide +kernel
theorem dX5_perform_157 : decode cX5_perform 157 = .ok (.iaload, 1) := by decide +kernel
theorem dX5_perform_158 : decode cX5_perform 158 = .ok (.invokestatic 141, 3) := by decide +kernel
theorem dX5_perform_161 : decode cX5_perform 161 = .ok (.iload 6, 2) := by decide +kernel
theorem dX5_perform_163 : decode cX5_perform 163 = .ok (.invokestatic 153, 3) := by decide +kernel
theorem dX5_perform_166 : decode cX5_perform 166 = .ok (.invokevirtual 150, 3) := by decide +kernel
theorem dX5_perform_169 : decode cX5_perform 169 = .ok (.iastore, 1) := by decide +kernel
theorem dX5_perform_170 : decode cX5_perform 170 = .ok (.goto 286, 3) := by decide +kernel
theorem dX5_perform_173 : decode cX5_perform 173 = .ok (.aload_n 0, 1) := by decide +kernel
theorem dX5_perform_174 : decode cX5_perform 174 = .ok (.iload_n 1, 1) := by decide +kernel
theorem dX5_perform_175 : decode cX5_perform 175 = .ok (.iload 4, 2) := by decide +kernel
theorem dX5_perform_177 : decode cX5_perform 177 = .ok (.aload_n 0, 1) := by decide +kernel
theorem dX5_perform_178 : decode cX5_perform 178 = .ok (.getfield 20, 3) := by decide +kernel
theorem dX5_perform_181 : decode cX5_perform 181 = .ok (.iload_n 1, 1) := by decide +kernel
theorem dX5_perform_182 : decode cX5_perform 182 = .ok (.iload 5, 2) := by decide +kernel
theorem dX5_perform_184 : decode cX5_perform 184 = .ok (.iadd, 1) := by decide +kernel
theorem dX5_perform_185 : decode cX5_perform 185 = .ok (.iaload, 1) := by decide +kernel
theorem dX5_perform_186 : decode cX5_perform 186 = .ok (.invokevirtual 156, 3) := by decide +kernel
theorem dX5_perform_189 : decode cX5_perform 189 = .ok (.goto 267, 3) := by decide +kernel
theorem dX5_perform_192 : decode cX5_perform 192 = .ok (.aload_n 0, 1) := by decide +kernel
theorem dX5_perform_193 : decode cX5_perform 193 = .ok (.iload_n 1, 1) := by decide +kernel
theorem dX5_perform_194 : decode cX5_perform 194 = .ok (.aload_n 0, 1) := by decide +kernel
theorem dX5_perform_195 : decode cX5_perform 195 = .ok (.getfield 20, 3) := by decide +kernel
theorem dX5_perform_198 : decode cX5_perform 198 = .ok (.iload_n 1, 1) := by decide +kernel
theorem dX5_perform_199 : decode cX5_perform 199 = .ok (.iload 4, 2) := by decide +kernel
theorem dX5_perform_201 : decode cX5_perform 201 = .ok (.iadd, 1) := by decide +kernel
theorem dX5_perform_202 : decode cX5_perform 202 = .ok (.iaload, 1) := by decide +kernel
theorem dX5_perform_203 : decode cX5_perform 203 = .ok (.invokestatic 141, 3) := by decide +kernel
theorem dX5_perform_206 : decode cX5_perform 206 = .ok (.iload 5, 2) := by decide +kernel
theorem dX5_perform_208 : decode cX5_perform 208 = .ok (.invokestatic 153, 3) := by decide +kernel
theorem dX5_perform_211 : decode cX5_perform 211 = .ok (.aload_n 0, 1) := by decide +kernel
theorem dX5_perform_212 : decode cX5_perform 212 = .ok (.getfield 20, 3) := by decide +kernel
theorem dX5_perform_215 : decode cX5_perform 215 = .ok (.iload_n 1, 1) := by decide +kernel
theorem dX5_perform_216 : decode cX5_perform 216 = .ok (.iload 6, 2) := by decide +kernel
theorem dX5_perform_218 : decode cX5_perform 218 = .ok (.iadd, 1) := by decide +kernel
theorem dX5_perform_219 : decode cX5_perform 219 = .ok (.iaload, 1) := by decide +kernel
theorem dX5_perform_220 : decode cX5_perform 220 = .ok (.invokevirtual 156, 3) := by decide +kernel
theorem dX5_perform_223 : decode cX5_perform 223 = .ok (.goto 233, 3) := by decide +kernel
theorem dX5_perform_226 : decode cX5_perform 226 = .ok (.aload_n 0, 1) := by decide +kernel
theorem dX5_perform_227 : decode cX5_perform 227 = .ok (.iload_n 1, 1) := by decide +kernel
theorem dX5_perform_228 : decode cX5_perform 228 = .ok (.iload 4, 2) := by decide +kernel
theorem dX5_perform_230 : decode cX5_perform 230 = .ok (.aload_n 0, 1) := by decide +kernel
theorem dX5_perform_231 : decode cX5_perform 231 = .ok (.getfield 20, 3) := by decide +kernel
theorem dX5_perform_234 : decode cX5_perform 234 = .ok (.iload_n 1, 1) := by decide +kernel
theorem dX5_perform_235 : decode cX5_perform 235 = .ok (.iload 5, 2) := by decide +kernel
theorem dX5_perform_237 : decode cX5_perform 237 = .ok (.iadd, 1) := by decide +kernel
theorem dX5_perform_238 : decode cX5_perform 238 = .ok (.iaload, 1) := by decide +kernel
theorem dX5_perform_239 : decode cX5_perform 239 = .ok (.aload_n 0, 1) := by decide +kernel
theorem dX5_perform_240 : decode cX5_perform 240 = .ok (.getfield 20, 3) := by decide +kernel
theorem dX5_perform_243 : decode cX5_perform 243 = .ok (.iload_n 1, 1) := by decide +kernel
theorem dX5_perform_244 : decode cX5_perform 244 = .ok (.iload 6, 2) := by decide +kernel
theorem dX5_perform_246 : decode cX5_perform 246 = .ok (.iadd, 1) := by decide +kernel
theorem dX5_perform_247 : decode cX5_perform 247 = .ok (.iaload, 1) := by decide +kernel
theorem dX5_perform_248 : decode cX5_perform 248 = .ok (.invokevirtual 159, 3) := by decide +kernel
theorem dX5_perform_251 : decode cX5_perform 251 = .ok (.goto 205, 3) := by decide +kernel
theorem dX5_perform_254 : decode cX5_perform 254 = .ok (.aload_n 0, 1) := by decide +kernel
theorem dX5_perform_255 : decode cX5_perform 255 = .ok (.iload_n 1, 1) := by decide +kernel
theorem dX5_perform_256 : decode cX5_perform 256 = .ok (.aload_n 0, 1) := by decide +kernel
theorem dX5_perform_257 : decode cX5_perform 257 = .ok (.getfield 20, 3) := by decide +kernel
theorem dX5_perform_260 : decode cX5_perform 260 = .ok (.iload_n 1, 1) := by decide +kernel
theorem dX5_perform_261 : decode cX5_perform 261 = .ok (.iload 4, 2) := by decide +kernel
theorem dX5_perform_263 : decode cX5_perform 263 = .ok (.iadd, 1) := by decide +kernel
theorem dX5_perform_264 : decode cX5_perform 264 = .ok (.iaload, 1) := by decide +kernel
theorem dX5_perform_265 : decode cX5_perform 265 = .ok (.invokestatic 141, 3) := by decide +kernel
theorem dX5_perform_268 : decode cX5_perform 268 = .ok (.iconst 0, 1) := by decide +kernel
theorem dX5_perform_269 : decode cX5_perform 269 = .ok (.invokestatic 153, 3) := by decide +kernel
theorem dX5_perform_272 : decode cX5_perform 272 = .ok (.aload_n 0, 1) := by decide +kernel
theorem dX5_perform_273 : decode cX5_perform 273 = .ok (.getfield 20, 3) := by decide +kernel
theorem dX5_perform_276 : decode cX5_perform 276 = .ok (.iload_n 1, 1) := by decide +kernel
theorem dX5_perform_277 : decode cX5_perform 277 = .ok (.iload 5, 2) := by decide +kernel
theorem dX5_perform_279 : decode cX5_perform 279 = .ok (.iadd, 1) := by decide +kernel
theorem dX5_perform_280 : decode cX5_perform 280 = .ok (.iaload, 1) := by decide +kernel
theorem dX5_perform_281 : decode cX5_perform 281 = .ok (.aload_n 0, 1) := by decide +kernel
theorem dX5_perform_282 : decode cX5_perform 282 = .ok (.getfield 20, 3) := by decide +kernel
theorem dX5_perform_285 : decode cX5_perform 285 = .ok (.iload_n 1, 1) := by decide +kernel
theorem dX5_perform_286 : decode cX5_perform 286 = .ok (.iload 6, 2) := by decide +kernel
theorem dX5_perform_288 : decode cX5_perform 288 = .ok (.iadd, 1) := by decide +kernel
theorem dX5_perform_289 : decode cX5_perform 289 = .ok (.iaload, 1) := by decide +kernel
theorem dX5_perform_290 : decode cX5_perform 290 = .ok (.invokevirtual 159, 3) := by decide +kernel
theorem dX5_perform_293 : decode cX5_perform 293 = .ok (.goto 163, 3) := by decide +kernel
theorem dX5_perform_296 : decode cX5_perform 296 = .ok (.aload_n 0, 1) := by decide +kernel
theorem dX5_perform_297 : decode cX5_perform 297 = .ok (.getfield 20, 3) := by decide +kernel
theorem dX5_perform_300 : decode cX5_perform 300 = .ok (.iload_n 1, 1) := by decide +kernel
theorem dX5_perform_301 : decode cX5_perform 301 = .ok (.iconst 5, 1) := by decide +kernel
theorem dX5_perform_302 : decode cX5_perform 302 = .ok (.iadd, 1) := by decide +kernel
theorem dX5_perform_303 : decode cX5_perform 303 = .ok (.aload_n 0, 1) := by decide +kernel
theorem dX5_perform_304 : decode cX5_perform 304 = .ok (.getfield 20, 3) := by decide +kernel
theorem dX5_perform_307 : decode cX5_perform 307 = .ok (.iload 4, 2) := by decide +kernel
theorem dX5_perform_309 : decode cX5_perform 309 = .ok (.iaload, 1) := by decide +kernel
theorem dX5_perform_310 : decode cX5_perform 310 = .ok (.invokestatic 141, 3) := by decide +kernel
theorem dX5_perform_313 : decode cX5_perform 313 = .ok (.iload 5, 2) := by decide +kernel
theorem dX5_perform_315 : decode cX5_perform 315 = .ok (.iadd, 1) := by decide +kernel
theorem dX5_perform_316 : decode cX5_perform 316 = .ok (.invokestatic 111, 3) := by decide +kernel
theorem dX5_perform_319 : decode cX5_perform 319 = .ok (.iastore, 1) := by decide +kernel
theorem dX5_perform_320 : decode cX5_perform 320 = .ok (.aload_n 0, 1) := by decide +kernel
theorem dX5_perform_321 : decode cX5_perform 321 = .ok (.iload 4, 2) := by decide +kernel
theorem dX5_perform_323 : decode cX5_perform 323 = .ok (.aload_n 0, 1) := by decide +kernel
theorem dX5_perform_324 : decode cX5_perform 324 = .ok (.getfield 20, 3) := by decide +kernel
theorem dX5_perform_327 : decode cX5_perform 327 = .ok (.iload_n 1, 1) := by decide +kernel
theorem dX5_perform_328 : decode cX5_perform 328 = .ok (.iconst 5, 1) := by decide +kernel
theorem dX5_perform_329 : decode cX5_perform 329 = .ok (.iadd, 1) := by decide +kernel
theorem dX5_perform_330 : decode cX5_perform 330 = .ok (.iaload, 1) := by decide +kernel
theorem dX5_perform_331 : decode cX5_perform 331 = .ok (.iconst 2, 1) := by decide +kernel
theorem dX5_perform_332 : decode cX5_perform 332 = .ok (.ishr, 1) := by decide +kernel
theorem dX5_perform_333 : decode cX5_perform 333 = .ok (.invokevirtual 163, 3) := by decide +kernel
theorem dX5_perform_336 : decode cX5_perform 336 = .ok (.goto 120, 3) := by decide +kernel
theorem dX5_perform_339 : decode cX5_perform 339 = .ok (.aload_n 0, 1) := by decide +kernel
theorem dX5_perform_340 : decode cX5_perform 340 = .ok (.getfield 20, 3) := by decide +kernel
theorem dX5_perform_343 : decode cX5_perform 343 = .ok (.iload_n 1, 1) := by decide +kernel
theorem dX5_perform_344 : decode cX5_perform 344 = .ok (.iload 4, 2) := by decide +kernel
theorem dX5_perform_346 : decode cX5_perform 346 = .ok (.iadd, 1) := by decide +kernel
theorem dX5_perform_347 : decode cX5_perform 347 = .ok (.aload_n 0, 1) := by decide +kernel
theorem dX5_perform_348 : decode cX5_perform 348 = .ok (.invokevirtual 166, 3) := by decide +kernel
theorem dX5_perform_351 : decode cX5_perform 351 = .ok (.iastore, 1) := by decide +kernel
theorem dX5_perform_352 : decode cX5_perform 352 = .ok (.goto 104, 3) := by decide +kernel
theorem dX5_perform_355 : decode cX5_perform 355 = .ok (.aload_n 0, 1) := by decide +kernel
theorem dX5_perform_356 : decode cX5_perform 356 = .ok (.aload_n 0, 1) := by decide +kernel
theorem dX5_perform_357 : decode cX5_perform 357 = .ok (.getfield 20, 3) := by decide +kernel
theorem dX5_perform_360 : decode cX5_perform 360 = .ok (.iload_n 1, 1) := by decide +kernel
theorem dX5_perform_361 : decode cX5_perform 361 = .ok (.iload 4, 2) := by decide +kernel
theorem dX5_perform_363 : decode cX5_perform 363 = .ok (.iadd, 1) := by decide +kernel
theorem dX5_perform_364 : decode cX5_perform 364 = .ok (.iaload, 1) := by decide +kernel
theorem dX5_perform_365 : decode cX5_perform 365 = .ok (.invokestatic 141, 3) := by decide +kernel
theorem dX5_perform_368 : decode cX5_perform 368 = .ok (.invokevirtual 169, 3) := by decide +kernel
theorem dX5_perform_371 : decode cX5_perform 371 = .ok (.goto 85, 3) := by decide +kernel
theorem dX5_perform_374 : decode cX5_perform 374 = .ok (.aload_n 0, 1) := by decide +kernel
theorem dX5_perform_375 : decode cX5_perform 375 = .ok (.getfield 20, 3) := by decide +kernel
theorem dX5_perform_378 : decode cX5_perform 378 = .ok (.iload_n 1, 1) := by decide +kernel
theorem dX5_perform_379 : decode cX5_perform 379 = .ok (.bipush 6, 2) := by decide +kernel
theorem dX5_perform_381 : decode cX5_perform 381 = .ok (.iadd, 1) := by decide +kernel
theorem dX5_perform_382 : decode cX5_perform 382 = .ok (.iload 4, 2) := by decide +kernel
theorem dX5_perform_384 : decode cX5_perform 384 = .ok (.iadd, 1) := by decide +kernel
theorem dX5_perform_385 : decode cX5_perform 385 = .ok (.aload_n 0, 1) := by decide +kernel
theorem dX5_perform_386 : decode cX5_perform 386 = .ok (.getfield 20, 3) := by decide +kernel
theorem dX5_perform_389 : decode cX5_perform 389 = .ok (.iload_n 1, 1) := by decide +kernel
theorem dX5_perform_390 : decode cX5_perform 390 = .ok (.iload 5, 2) := by decide +kernel
theorem dX5_perform_392 : decode cX5_perform 392 = .ok (.iadd, 1) := by decide +kernel
theorem dX5_perform_393 : decode cX5_perform 393 = .ok (.iaload, 1) := by decide +kernel
theorem dX5_perform_394 : decode cX5_perform 394 = .ok (.invokestatic 172, 3) := by decide +kernel
theorem dX5_perform_397 : decode cX5_perform 397 = .ok (.iastore, 1) := by decide +kernel
theorem dX5_perform_398 : decode cX5_perform 398 = .ok (.goto 58, 3) := by decide +kernel
theorem dX5_perform_401 : decode cX5_perform 401 = .ok (.aload_n 0, 1) := by decide +kernel
theorem dX5_perform_402 : decode cX5_perform 402 = .ok (.getfield 20, 3) := by decide +kernel
theorem dX5_perform_405 : decode cX5_perform 405 = .ok (.iload_n 1, 1) := by decide +kernel
theorem dX5_perform_406 : decode cX5_perform 406 = .ok (.bipush 8, 2) := by decide +kernel
theorem dX5_perform_408 : decode cX5_perform 408 = .ok (.iadd, 1) := by decide +kernel
theorem dX5_perform_409 : decode cX5_perform 409 = .ok (.aload_n 0, 1) := by decide +kernel
theorem dX5_perform_410 : decode cX5_perform 410 = .ok (.getfield 20, 3) := by decide +kernel
theorem dX5_perform_413 : decode cX5_perform 413 = .ok (.bipush 26, 2) := by decide +kernel
theorem dX5_perform_415 : decode cX5_perform 415 = .ok (.iaload, 1) := by decide +kernel
theorem dX5_perform_416 : decode cX5_perform 416 = .ok (.iconst 1, 1) := by decide +kernel
theorem dX5_perform_417 : decode cX5_perform 417 = .ok (.iadd, 1) := by decide +kernel
theorem dX5_perform_418 : decode cX5_perform 418 = .ok (.iastore, 1) := by decide +kernel
theorem dX5_perform_419 : decode cX5_perform 419 = .ok (.goto 37, 3) := by decide +kernel
theorem dX5_perform_422 : decode cX5_perform 422 = .ok (.aload_n 0, 1) := by decide +kernel
theorem dX5_perform_423 : decode cX5_perform 423 = .ok (.getfield 20, 3) := by decide +kernel
theorem dX5_perform_426 : decode cX5_perform 426 = .ok (.iload_n 1, 1) := by decide +kernel
theorem dX5_perform_427 : decode cX5_perform 427 = .ok (.bipush 8, 2) := by decide +kernel
theorem dX5_perform_429 : decode cX5_perform 429 = .ok (.iadd, 1) := by decide +kernel
theorem dX5_perform_430 : decode cX5_perform 430 = .ok (.iconst 0, 1) := by decide +kernel
theorem dX5_perform_431 : decode cX5_perform 431 = .ok (.iastore, 1) := by decide +kernel
theorem dX5_perform_432 : decode cX5_perform 432 = .ok (.goto 24, 3) := by decide +kernel
theorem dX5_perform_435 : decode cX5_perform 435 = .ok (.aload_n 0, 1) := by decide +kernel
theorem dX5_perform_436 : decode cX5_perform 436 = .ok (.iload_n 1, 1) := by decide +kernel
theorem dX5_perform_437 : decode cX5_perform 437 = .ok (.iload_n 3, 1) := by decide +kernel
theorem dX5_perform_438 : decode cX5_perform 438 = .ok (.aload_n 0, 1) := by decide +kernel
theorem dX5_perform_439 : decode cX5_perform 439 = .ok (.getfield 20, 3) := by decide +kernel
theorem dX5_perform_442 : decode cX5_perform 442 = .ok (.iload_n 1, 1) := by decide +kernel
theorem dX5_perform_443 : decode cX5_perform 443 = .ok (.iload 4, 2) := by decide +kernel
theorem dX5_perform_445 : decode cX5_perform 445 = .ok (.iadd, 1) := by decide +kernel
theorem dX5_perform_446 : decode cX5_perform 446 = .ok (.iaload, 1) := by decide +kernel
theorem dX5_perform_447 : decode cX5_perform 447 = .ok (.invokestatic 175, 3) := by decide +kernel
theorem dX5_perform_450 : decode cX5_perform 450 = .ok (.invokevirtual 178, 3) := by decide +kernel
theorem dX5_perform_453 : decode cX5_perform 453 = .ok (.goto 3, 3) := by decide +kernel
theorem dX5_perform_456 : decode cX5_perform 456 = .ok (.return_, 1) := by decide +kernel
theorem dX5_release_0 : decode cX5_release 0 = .ok (.aload_n 0, 1) := by decide +kernel
theorem dX5_release_1 : decode cX5_release 1 = .ok (.getfield 12, 3) := by decide +kernel
theorem dX5_release_4 : decode cX5_release 4 = .ok (.getfield 181, 3) := by decide +kernel
theorem dX5_release_7 : decode cX5_release 7 = .ok (.iconst 1, 1) := by decide +kernel
theorem dX5_release_8 : decode cX5_release 8 = .ok (.if_icmp .eq 14, 3) := by decide +kernel
theorem dX5_release_11 : decode cX5_release 11 = .ok (.aload_n 0, 1) := by decide +kernel
theorem dX5_release_12 : decode cX5_release 12 = .ok (.getfield 12, 3) := by decide +kernel
theorem dX5_release_15 : decode cX5_release 15 = .ok (.getfield 181, 3) := by decide +kernel
theorem dX5_release_18 : decode cX5_release 18 = .ok (.iconst 2, 1) := by decide +kernel
theorem dX5_release_19 : decode cX5_release 19 = .ok (.if_icmp .ne 7, 3) := by decide +kernel
theorem dX5_release_22 : decode cX5_release 22 = .ok (.iconst 1, 1) := by decide +kernel
theorem dX5_release_23 : decode cX5_release 23 = .ok (.goto 4, 3) := by decide +kernel
theorem dX5_release_26 : decode cX5_release 26 = .ok (.iconst 0, 1) := by decide +kernel
theorem dX5_release_27 : decode cX5_release 27 = .ok (.istore_n 2, 1) := by decide +kernel
theorem dX5_release_28 : decode cX5_release 28 = .ok (.aload_n 0, 1) := by decide +kernel
theorem dX5_release_29 : decode cX5_release 29 = .ok (.getfield 20, 3) := by decide +kernel
theorem dX5_release_32 : decode cX5_release 32 = .ok (.bipush 20, 2) := by decide +kernel
theorem dX5_release_34 : decode cX5_release 34 = .ok (.iload_n 1, 1) := by decide +kernel
theorem dX5_release_35 : decode cX5_release 35 = .ok (.iadd, 1) := by decide +kernel
theorem dX5_release_36 : decode cX5_release 36 = .ok (.iload_n 2, 1) := by decide +kernel
theorem dX5_release_37 : decode cX5_release 37 = .ok (.ifCond .eq 7, 3) := by decide +kernel
theorem dX5_release_40 : decode cX5_release 40 = .ok (.iconst 0, 1) := by decide +kernel
theorem dX5_release_41 : decode cX5_release 41 = .ok (.goto 12, 3) := by decide +kernel
theorem dX5_release_44 : decode cX5_release 44 = .ok (.iconst 2, 1) := by decide +kernel
theorem dX5_release_45 : decode cX5_release 45 = .ok (.aload_n 0, 1) := by decide +kernel
theorem dX5_release_46 : decode cX5_release 46 = .ok (.getfield 20, 3) := by decide +kernel
theorem dX5_release_49 : decode cX5_release 49 = .ok (.bipush 26, 2) := by decide +kernel
theorem dX5_release_51 : decode cX5_release 51 = .ok (.iaload, 1) := by decide +kernel
theorem dX5_release_52 : decode cX5_release 52 = .ok (.iadd, 1) := by decide +kernel
theorem dX5_release_53 : decode cX5_release 53 = .ok (.iastore, 1) := by decide +kernel
theorem dX5_release_54 : decode cX5_release 54 = .ok (.return_, 1) := by decide +kernel
theorem dX5_resume_0 : decode cX5_resume 0 = .ok (.aload_n 0, 1) := by decide +kernel
theorem dX5_resume_1 : decode cX5_resume 1 = .ok (.getfield 12, 3) := by decide +kernel
theorem dX5_resume_4 : decode cX5_resume 4 = .ok (.aload_n 1, 1) := by decide +kernel
theorem dX5_resume_5 : decode cX5_resume 5 = .ok (.invokevirtual 28, 3) := by decide +kernel
theorem dX5_resume_8 : decode cX5_resume 8 = .ok (.aload_n 0, 1) := by decide +kernel
theorem dX5_resume_9 : decode cX5_resume 9 = .ok (.getfield 20, 3) := by decide +kernel
theorem dX5_resume_12 : decode cX5_resume 12 = .ok (.iconst 0, 1) := by decide +kernel
theorem dX5_resume_13 : decode cX5_resume 13 = .ok (.invokestatic 32, 3) := by decide +kernel
theorem dX5_resume_16 : decode cX5_resume 16 = .ok (.aload_n 2, 1) := by decide +kernel
theorem dX5_resume_17 : decode cX5_resume 17 = .ok (.iload_n 3, 1) := by decide +kernel
theorem dX5_resume_18 : decode cX5_resume 18 = .ok (.aload_n 0, 1) := by decide +kernel
theorem dX5_resume_19 : decode cX5_resume 19 = .ok (.getfield 20, 3) := by decide +kernel
theorem dX5_resume_22 : decode cX5_resume 22 = .ok (.iconst 0, 1) := by decide +kernel
theorem dX5_resume_23 : decode cX5_resume 23 = .ok (.bipush 100, 2) := by decide +kernel
theorem dX5_resume_25 : decode cX5_resume 25 = .ok (.invokestatic 52, 3) := by decide +kernel
theorem dX5_resume_28 : decode cX5_resume 28 = .ok (.aload_n 0, 1) := by decide +kernel
theorem dX5_resume_29 : decode cX5_resume 29 = .ok (.aload_n 0, 1) := by decide +kernel
theorem dX5_resume_30 : decode cX5_resume 30 = .ok (.getfield 12, 3) := by decide +kernel
theorem dX5_resume_33 : decode cX5_resume 33 = .ok (.getfield 49, 3) := by decide +kernel
theorem dX5_resume_36 : decode cX5_resume 36 = .ok (.putfield 24, 3) := by decide +kernel
theorem dX5_resume_39 : decode cX5_resume 39 = .ok (.return_, 1) := by decide +kernel
theorem dX5_seen_0 : decode cX5_seen 0 = .ok (.aload_n 0, 1) := by decide +kernel
theorem dX5_seen_1 : decode cX5_seen 1 = .ok (.getfield 20, 3) := by decide +kernel
theorem dX5_seen_4 : decode cX5_seen 4 = .ok (.iload_n 2, 1) := by decide +kernel
theorem dX5_seen_5 : decode cX5_seen 5 = .ok (.iaload, 1) := by decide +kernel
theorem dX5_seen_6 : decode cX5_seen 6 = .ok (.iconst 2, 1) := by decide +kernel
theorem dX5_seen_7 : decode cX5_seen 7 = .ok (.ishr, 1) := by decide +kernel
theorem dX5_seen_8 : decode cX5_seen 8 = .ok (.istore_n 3, 1) := by decide +kernel
theorem dX5_seen_9 : decode cX5_seen 9 = .ok (.iconst 0, 1) := by decide +kernel
theorem dX5_seen_10 : decode cX5_seen 10 = .ok (.istore 4, 2) := by decide +kernel
theorem dX5_seen_12 : decode cX5_seen 12 = .ok (.iload 4, 2) := by decide +kernel
theorem dX5_seen_14 : decode cX5_seen 14 = .ok (.iconst 4, 1) := by decide +kernel
theorem dX5_seen_15 : decode cX5_seen 15 = .ok (.if_icmp .ge 51, 3) := by decide +kernel
theorem dX5_seen_18 : decode cX5_seen 18 = .ok (.iload 4, 2) := by decide +kernel
theorem dX5_seen_20 : decode cX5_seen 20 = .ok (.aload_n 0, 1) := by decide +kernel
theorem dX5_seen_21 : decode cX5_seen 21 = .ok (.getfield 20, 3) := by decide +kernel
theorem dX5_seen_24 : decode cX5_seen 24 = .ok (.iload_n 1, 1) := by decide +kernel
theorem dX5_seen_25 : decode cX5_seen 25 = .ok (.bipush 13, 2) := by decide +kernel
theorem dX5_seen_27 : decode cX5_seen 27 = .ok (.iadd, 1) := by decide +kernel
theorem dX5_seen_28 : decode cX5_seen 28 = .ok (.iaload, 1) := by decide +kernel
theorem dX5_seen_29 : decode cX5_seen 29 = .ok (.if_icmp .ge 37, 3) := by decide +kernel
theorem dX5_seen_32 : decode cX5_seen 32 = .ok (.aload_n 0, 1) := by decide +kernel
theorem dX5_seen_33 : decode cX5_seen 33 = .ok (.getfield 20, 3) := by decide +kernel
theorem dX5_seen_36 : decode cX5_seen 36 = .ok (.iload_n 1, 1) := by decide +kernel
theorem dX5_seen_37 : decode cX5_seen 37 = .ok (.bipush 14, 2) := by decide +kernel
theorem dX5_seen_39 : decode cX5_seen 39 = .ok (.iadd, 1) := by decide +kernel
theorem dX5_seen_40 : decode cX5_seen 40 = .ok (.iload 4, 2) := by decide +kernel
theorem dX5_seen_42 : decode cX5_seen 42 = .ok (.iadd, 1) := by decide +kernel
theorem dX5_seen_43 : decode cX5_seen 43 = .ok (.iaload, 1) := by decide +kernel
theorem dX5_seen_44 : decode cX5_seen 44 = .ok (.istore 5, 2) := by decide +kernel
theorem dX5_seen_46 : decode cX5_seen 46 = .ok (.iload 5, 2) := by decide +kernel
theorem dX5_seen_48 : decode cX5_seen 48 = .ok (.bipush 31, 2) := by decide +kernel
theorem dX5_seen_50 : decode cX5_seen 50 = .ok (.iand, 1) := by decide +kernel
theorem dX5_seen_51 : decode cX5_seen 51 = .ok (.iload_n 2, 1) := by decide +kernel
theorem dX5_seen_52 : decode cX5_seen 52 = .ok (.if_icmp .ne 8, 3) := by decide +kernel
theorem dX5_seen_55 : decode cX5_seen 55 = .ok (.iload 5, 2) := by decide +kernel
theorem dX5_seen_57 : decode cX5_seen 57 = .ok (.iconst 5, 1) := by decide +kernel
theorem dX5_seen_58 : decode cX5_seen 58 = .ok (.ishr, 1) := by decide +kernel
theorem dX5_seen_59 : decode cX5_seen 59 = .ok (.istore_n 3, 1) := by decide +kernel
theorem dX5_seen_60 : decode cX5_seen 60 = .ok (.iinc 4 1, 3) := by decide +kernel
theorem dX5_seen_63 : decode cX5_seen 63 = .ok (.goto (-51), 3) := by decide +kernel
theorem dX5_seen_66 : decode cX5_seen 66 = .ok (.iload_n 3, 1) := by decide +kernel
theorem dX5_seen_67 : decode cX5_seen 67 = .ok (.iconst 2, 1) := by decide +kernel
theorem dX5_seen_68 : decode cX5_seen 68 = .ok (.ishl, 1) := by decide +kernel
theorem dX5_seen_69 : decode cX5_seen 69 = .ok (.aload_n 0, 1) := by decide +kernel
theorem dX5_seen_70 : decode cX5_seen 70 = .ok (.getfield 20, 3) := by decide +kernel
theorem dX5_seen_73 : decode cX5_seen 73 = .ok (.iload_n 2, 1) := by decide +kernel
theorem dX5_seen_74 : decode cX5_seen 74 = .ok (.iaload, 1) := by decide +kernel
theorem dX5_seen_75 : decode cX5_seen 75 = .ok (.iconst 3, 1) := by decide +kernel
theorem dX5_seen_76 : decode cX5_seen 76 = .ok (.iand, 1) := by decide +kernel
theorem dX5_seen_77 : decode cX5_seen 77 = .ok (.ior, 1) := by decide +kernel
theorem dX5_seen_78 : decode cX5_seen 78 = .ok (.ireturn, 1) := by decide +kernel
theorem dX5_settle_0 : decode cX5_settle 0 = .ok (.iload_n 1, 1) := by decide +kernel
theorem dX5_settle_1 : decode cX5_settle 1 = .ok (.bipush 9, 2) := by decide +kernel
theorem dX5_settle_3 : decode cX5_settle 3 = .ok (.if_icmp .eq 9, 3) := by decide +kernel
theorem dX5_settle_6 : decode cX5_settle 6 = .ok (.iload_n 1, 1) := by decide +kernel
theorem dX5_settle_7 : decode cX5_settle 7 = .ok (.bipush 13, 2) := by decide +kernel
theorem dX5_settle_9 : decode cX5_settle 9 = .ok (.if_icmp .ne 7, 3) := by decide +kernel
theorem dX5_settle_12 : decode cX5_settle 12 = .ok (.iconst 1, 1) := by decide +kernel
theorem dX5_settle_13 : decode cX5_settle 13 = .ok (.goto 4, 3) := by decide +kernel
theorem dX5_settle_16 : decode cX5_settle 16 = .ok (.iconst 0, 1) := by decide +kernel
theorem dX5_settle_17 : decode cX5_settle 17 = .ok (.istore_n 2, 1) := by decide +kernel
theorem dX5_settle_18 : decode cX5_settle 18 = .ok (.aload_n 0, 1) := by decide +kernel
theorem dX5_settle_19 : decode cX5_settle 19 = .ok (.getfield 12, 3) := by decide +kernel
theorem dX5_settle_22 : decode cX5_settle 22 = .ok (.getfield 181, 3) := by decide +kernel
theorem dX5_settle_25 : decode cX5_settle 25 = .ok (.iconst 3, 1) := by decide +kernel
theorem dX5_settle_26 : decode cX5_settle 26 = .ok (.if_icmp .ne 17, 3) := by decide +kernel
theorem dX5_settle_29 : decode cX5_settle 29 = .ok (.iload_n 2, 1) := by decide +kernel
theorem dX5_settle_30 : decode cX5_settle 30 = .ok (.ifCond .ne 9, 3) := by decide +kernel
theorem dX5_settle_33 : decode cX5_settle 33 = .ok (.iload_n 1, 1) := by decide +kernel
theorem dX5_settle_34 : decode cX5_settle 34 = .ok (.bipush 10, 2) := by decide +kernel
theorem dX5_settle_36 : decode cX5_settle 36 = .ok (.if_icmp .ne 7, 3) := by decide +kernel
theorem dX5_settle_39 : decode cX5_settle 39 = .ok (.aload_n 0, 1) := by decide +kernel
theorem dX5_settle_40 : decode cX5_settle 40 = .ok (.invokevirtual 188, 3) := by decide +kernel
theorem dX5_settle_43 : decode cX5_settle 43 = .ok (.aload_n 0, 1) := by decide +kernel
theorem dX5_settle_44 : decode cX5_settle 44 = .ok (.getfield 12, 3) := by decide +kernel
theorem dX5_settle_47 : decode cX5_settle 47 = .ok (.getfield 181, 3) := by decide +kernel
theorem dX5_settle_50 : decode cX5_settle 50 = .ok (.iconst 4, 1) := by decide +kernel
theorem dX5_settle_51 : decode cX5_settle 51 = .ok (.if_icmp .ne 23, 3) := by decide +kernel
theorem dX5_settle_54 : decode cX5_settle 54 = .ok (.iload_n 2, 1) := by decide +kernel
theorem dX5_settle_55 : decode cX5_settle 55 = .ok (.ifCond .ne 15, 3) := by decide +kernel
theorem dX5_settle_58 : decode cX5_settle 58 = .ok (.iload_n 1, 1) := by decide +kernel
theorem dX5_settle_59 : decode cX5_settle 59 = .ok (.bipush 11, 2) := by decide +kernel
theorem dX5_settle_61 : decode cX5_settle 61 = .ok (.if_icmp .eq 9, 3) := by decide +kernel
theorem dX5_settle_64 : decode cX5_settle 64 = .ok (.iload_n 1, 1) := by decide +kernel
theorem dX5_settle_65 : decode cX5_settle 65 = .ok (.bipush 12, 2) := by decide +kernel
theorem dX5_settle_67 : decode cX5_settle 67 = .ok (.if_icmp .ne 7, 3) := by decide +kernel
theorem dX5_settle_70 : decode cX5_settle 70 = .ok (.aload_n 0, 1) := by decide +kernel
theorem dX5_settle_71 : decode cX5_settle 71 = .ok (.invokevirtual 191, 3) := by decide +kernel
theorem dX5_settle_74 : decode cX5_settle 74 = .ok (.return_, 1) := by decide +kernel
theorem dX5_start_0 : decode cX5_start 0 = .ok (.aload_n 0, 1) := by decide +kernel
theorem dX5_start_1 : decode cX5_start 1 = .ok (.getfield 12, 3) := by decide +kernel
theorem dX5_start_4 : decode cX5_start 4 = .ok (.aload_n 1, 1) := by decide +kernel
theorem dX5_start_5 : decode cX5_start 5 = .ok (.invokevirtual 28, 3) := by decide +kernel
theorem dX5_start_8 : decode cX5_start 8 = .ok (.aload_n 0, 1) := by decide +kernel
theorem dX5_start_9 : decode cX5_start 9 = .ok (.getfield 20, 3) := by decide +kernel
theorem dX5_start_12 : decode cX5_start 12 = .ok (.iconst 0, 1) := by decide +kernel
theorem dX5_start_13 : decode cX5_start 13 = .ok (.invokestatic 32, 3) := by decide +kernel
theorem dX5_start_16 : decode cX5_start 16 = .ok (.aload_n 0, 1) := by decide +kernel
theorem dX5_start_17 : decode cX5_start 17 = .ok (.iconst 0, 1) := by decide +kernel
theorem dX5_start_18 : decode cX5_start 18 = .ok (.putfield 24, 3) := by decide +kernel
theorem dX5_start_21 : decode cX5_start 21 = .ok (.iconst 0, 1) := by decide +kernel
theorem dX5_start_22 : decode cX5_start 22 = .ok (.istore_n 2, 1) := by decide +kernel
theorem dX5_start_23 : decode cX5_start 23 = .ok (.iconst 0, 1) := by decide +kernel
theorem dX5_start_24 : decode cX5_start 24 = .ok (.istore_n 3, 1) := by decide +kernel
theorem dX5_start_25 : decode cX5_start 25 = .ok (.iload_n 3, 1) := by decide +kernel
theorem dX5_start_26 : decode cX5_start 26 = .ok (.aload_n 0, 1) := by decide +kernel
theorem dX5_start_27 : decode cX5_start 27 = .ok (.getfield 12, 3) := by decide +kernel
theorem dX5_start_30 : decode cX5_start 30 = .ok (.getfield 38, 3) := by decide +kernel
theorem dX5_start_33 : decode cX5_start 33 = .ok (.iconst 3, 1) := by decide +kernel
theorem dX5_start_34 : decode cX5_start 34 = .ok (.iaload, 1) := by decide +kernel
theorem dX5_start_35 : decode cX5_start 35 = .ok (.if_icmp .ge 39, 3) := by decide +kernel
theorem dX5_start_38 : decode cX5_start 38 = .ok (.iload_n 2, 1) := by decide +kernel
theorem dX5_start_39 : decode cX5_start 39 = .ok (.ifCond .ne 35, 3) := by decide +kernel
theorem dX5_start_42 : decode cX5_start 42 = .ok (.aload_n 0, 1) := by decide +kernel
theorem dX5_start_43 : decode cX5_start 43 = .ok (.iconst 3, 1) := by decide +kernel
theorem dX5_start_44 : decode cX5_start 44 = .ok (.invokevirtual 41, 3) := by decide +kernel
theorem dX5_start_47 : decode cX5_start 47 = .ok (.ifCond .eq 18, 3) := by decide +kernel
theorem dX5_start_50 : decode cX5_start 50 = .ok (.aload_n 0, 1) := by decide +kernel
theorem dX5_start_51 : decode cX5_start 51 = .ok (.getfield 20, 3) := by decide +kernel
theorem dX5_start_54 : decode cX5_start 54 = .ok (.iconst 3, 1) := by decide +kernel
theorem dX5_start_55 : decode cX5_start 55 = .ok (.invokestatic 45, 3) := by decide +kernel
theorem dX5_start_58 : decode cX5_start 58 = .ok (.bipush 12, 2) := by decide +kernel
theorem dX5_start_60 : decode cX5_start 60 = .ok (.iadd, 1) := by decide +kernel
theorem dX5_start_61 : decode cX5_start 61 = .ok (.iaload, 1) := by decide +kernel
theorem dX5_start_62 : decode cX5_start 62 = .ok (.goto 5, 3) := by decide +kernel
theorem dX5_start_65 : decode cX5_start 65 = .ok (.bipush 6, 2) := by decide +kernel
theorem dX5_start_67 : decode cX5_start 67 = .ok (.istore_n 2, 1) := by decide +kernel
theorem dX5_start_68 : decode cX5_start 68 = .ok (.iinc 3 1, 3) := by decide +kernel
theorem dX5_start_71 : decode cX5_start 71 = .ok (.goto (-46), 3) := by decide +kernel
theorem dX5_start_74 : decode cX5_start 74 = .ok (.aload_n 0, 1) := by decide +kernel
theorem dX5_start_75 : decode cX5_start 75 = .ok (.aload_n 0, 1) := by decide +kernel
theorem dX5_start_76 : decode cX5_start 76 = .ok (.getfield 12, 3) := by decide +kernel
theorem dX5_start_79 : decode cX5_start 79 = .ok (.getfield 49, 3) := by decide +kernel
theorem dX5_start_82 : decode cX5_start 82 = .ok (.putfield 24, 3) := by decide +kernel
theorem dX5_start_85 : decode cX5_start 85 = .ok (.iload_n 2, 1) := by decide +kernel
theorem dX5_start_86 : decode cX5_start 86 = .ok (.ireturn, 1) := by decide +kernel
theorem dX5_store_0 : decode cX5_store 0 = .ok (.aload_n 0, 1) := by decide +kernel
theorem dX5_store_1 : decode cX5_store 1 = .ok (.getfield 20, 3) := by decide +kernel
theorem dX5_store_4 : decode cX5_store 4 = .ok (.iload_n 1, 1) := by decide +kernel
theorem dX5_store_5 : decode cX5_store 5 = .ok (.iaload, 1) := by decide +kernel
theorem dX5_store_6 : decode cX5_store 6 = .ok (.iconst 3, 1) := by decide +kernel
theorem dX5_store_7 : decode cX5_store 7 = .ok (.iand, 1) := by decide +kernel
theorem dX5_store_8 : decode cX5_store 8 = .ok (.istore_n 3, 1) := by decide +kernel
theorem dX5_store_9 : decode cX5_store 9 = .ok (.aload_n 0, 1) := by decide +kernel
theorem dX5_store_10 : decode cX5_store 10 = .ok (.getfield 12, 3) := by decide +kernel
theorem dX5_store_13 : decode cX5_store 13 = .ok (.getfield 181, 3) := by decide +kernel
theorem dX5_store_16 : decode cX5_store 16 = .ok (.iconst 2, 1) := by decide +kernel
theorem dX5_store_17 : decode cX5_store 17 = .ok (.if_icmp .ne 9, 3) := by decide +kernel
theorem dX5_store_20 : decode cX5_store 20 = .ok (.iload_n 3, 1) := by decide +kernel
theorem dX5_store_21 : decode cX5_store 21 = .ok (.iconst 1, 1) := by decide +kernel
theorem dX5_store_22 : decode cX5_store 22 = .ok (.iadd, 1) := by decide +kernel
theorem dX5_store_23 : decode cX5_store 23 = .ok (.iconst 3, 1) := by decide +kernel
theorem dX5_store_24 : decode cX5_store 24 = .ok (.iand, 1) := by decide +kernel
theorem dX5_store_25 : decode cX5_store 25 = .ok (.istore_n 3, 1) := by decide +kernel
theorem dX5_store_26 : decode cX5_store 26 = .ok (.aload_n 0, 1) := by decide +kernel
theorem dX5_store_27 : decode cX5_store 27 = .ok (.getfield 20, 3) := by decide +kernel
theorem dX5_store_30 : decode cX5_store 30 = .ok (.iload_n 1, 1) := by decide +kernel
theorem dX5_store_31 : decode cX5_store 31 = .ok (.iload_n 2, 1) := by decide +kernel
theorem dX5_store_32 : decode cX5_store 32 = .ok (.iconst 2, 1) := by decide +kernel
theorem dX5_store_33 : decode cX5_store 33 = .ok (.ishl, 1) := by decide +kernel
theorem dX5_store_34 : decode cX5_store 34 = .ok (.iload_n 3, 1) := by decide +kernel
theorem dX5_store_35 : decode cX5_store 35 = .ok (.ior, 1) := by decide +kernel
theorem dX5_store_36 : decode cX5_store 36 = .ok (.iastore, 1) := by decide +kernel
theorem dX5_store_37 : decode cX5_store 37 = .ok (.return_, 1) := by decide +kernel
theorem dX5_swap_0 : decode cX5_swap 0 = .ok (.aload_n 0, 1) := by decide +kernel
theorem dX5_swap_1 : decode cX5_swap 1 = .ok (.getfield 20, 3) := by decide +kernel
theorem dX5_swap_4 : decode cX5_swap 4 = .ok (.iload_n 2, 1) := by decide +kernel
theorem dX5_swap_5 : decode cX5_swap 5 = .ok (.iaload, 1) := by decide +kernel
theorem dX5_swap_6 : decode cX5_swap 6 = .ok (.iload_n 3, 1) := by decide +kernel
theorem dX5_swap_7 : decode cX5_swap 7 = .ok (.if_icmp .ne 7, 3) := by decide +kernel
theorem dX5_swap_10 : decode cX5_swap 10 = .ok (.iconst 1, 1) := by decide +kernel
theorem dX5_swap_11 : decode cX5_swap 11 = .ok (.goto 4, 3) := by decide +kernel
theorem dX5_swap_14 : decode cX5_swap 14 = .ok (.iconst 0, 1) := by decide +kernel
theorem dX5_swap_15 : decode cX5_swap 15 = .ok (.istore 5, 2) := by decide +kernel
theorem dX5_swap_17 : decode cX5_swap 17 = .ok (.iload 5, 2) := by decide +kernel
theorem dX5_swap_19 : decode cX5_swap 19 = .ok (.ifCond .eq 12, 3) := by decide +kernel
theorem dX5_swap_22 : decode cX5_swap 22 = .ok (.aload_n 0, 1) := by decide +kernel
theorem dX5_swap_23 : decode cX5_swap 23 = .ok (.iload_n 2, 1) := by decide +kernel
theorem dX5_swap_24 : decode cX5_swap 24 = .ok (.iload 4, 2) := by decide +kernel
theorem dX5_swap_26 : decode cX5_swap 26 = .ok (.iconst 2, 1) := by decide +kernel
theorem dX5_swap_27 : decode cX5_swap 27 = .ok (.ishr, 1) := by decide +kernel
theorem dX5_swap_28 : decode cX5_swap 28 = .ok (.invokevirtual 163, 3) := by decide +kernel
theorem dX5_swap_31 : decode cX5_swap 31 = .ok (.aload_n 0, 1) := by decide +kernel
theorem dX5_swap_32 : decode cX5_swap 32 = .ok (.getfield 20, 3) := by decide +kernel
theorem dX5_swap_35 : decode cX5_swap 35 = .ok (.iload_n 1, 1) := by decide +kernel
theorem dX5_swap_36 : decode cX5_swap 36 = .ok (.iconst 5, 1) := by decide +kernel
theorem dX5_swap_37 : decode cX5_swap 37 = .ok (.iadd, 1) := by decide +kernel
theorem dX5_swap_38 : decode cX5_swap 38 = .ok (.iload 5, 2) := by decide +kernel
theorem dX5_swap_40 : decode cX5_swap 40 = .ok (.ifCond .eq 7, 3) := by decide +kernel
theorem dX5_swap_43 : decode cX5_swap 43 = .ok (.iconst 1, 1) := by decide +kernel
theorem dX5_swap_44 : decode cX5_swap 44 = .ok (.goto 4, 3) := by decide +kernel
theorem dX5_swap_47 : decode cX5_swap 47 = .ok (.iconst 0, 1) := by decide +kernel
theorem dX5_swap_48 : decode cX5_swap 48 = .ok (.invokestatic 111, 3) := by decide +kernel
theorem dX5_swap_51 : decode cX5_swap 51 = .ok (.iastore, 1) := by decide +kernel
theorem dX5_swap_52 : decode cX5_swap 52 = .ok (.return_, 1) := by decide +kernel
theorem dX5_takeNode_0 : decode cX5_takeNode 0 = .ok (.iconst 0, 1) := by decide +kernel
theorem dX5_takeNode_1 : decode cX5_takeNode 1 = .ok (.istore_n 1, 1) := by decide +kernel
theorem dX5_takeNode_2 : decode cX5_takeNode 2 = .ok (.iload_n 1, 1) := by decide +kernel
theorem dX5_takeNode_3 : decode cX5_takeNode 3 = .ok (.bipush 6, 2) := by decide +kernel
theorem dX5_takeNode_5 : decode cX5_takeNode 5 = .ok (.if_icmp .ge 67, 3) := by decide +kernel
theorem dX5_takeNode_8 : decode cX5_takeNode 8 = .ok (.aload_n 0, 1) := by decide +kernel
theorem dX5_takeNode_9 : decode cX5_takeNode 9 = .ok (.getfield 20, 3) := by decide +kernel
theorem dX5_takeNode_12 : decode cX5_takeNode 12 = .ok (.bipush 20, 2) := by decide +kernel
theorem dX5_takeNode_14 : decode cX5_takeNode 14 = .ok (.iload_n 1, 1) := by decide +kernel
theorem dX5_takeNode_15 : decode cX5_takeNode 15 = .ok (.iadd, 1) := by decide +kernel
theorem dX5_takeNode_16 : decode cX5_takeNode 16 = .ok (.iaload, 1) := by decide +kernel
theorem dX5_takeNode_17 : decode cX5_takeNode 17 = .ok (.ifCond .eq 6, 3) := by decide +kernel
theorem dX5_takeNode_20 : decode cX5_takeNode 20 = .ok (.goto 46, 3) := by decide +kernel
theorem dX5_takeNode_23 : decode cX5_takeNode 23 = .ok (.aload_n 0, 1) := by decide +kernel
theorem dX5_takeNode_24 : decode cX5_takeNode 24 = .ok (.getfield 20, 3) := by decide +kernel
theorem dX5_takeNode_27 : decode cX5_takeNode 27 = .ok (.bipush 20, 2) := by decide +kernel
theorem dX5_takeNode_29 : decode cX5_takeNode 29 = .ok (.iload_n 1, 1) := by decide +kernel
theorem dX5_takeNode_30 : decode cX5_takeNode 30 = .ok (.iadd, 1) := by decide +kernel
theorem dX5_takeNode_31 : decode cX5_takeNode 31 = .ok (.iconst 1, 1) := by decide +kernel
theorem dX5_takeNode_32 : decode cX5_takeNode 32 = .ok (.iastore, 1) := by decide +kernel
theorem dX5_takeNode_33 : decode cX5_takeNode 33 = .ok (.aload_n 0, 1) := by decide +kernel
theorem dX5_takeNode_34 : decode cX5_takeNode 34 = .ok (.getfield 20, 3) := by decide +kernel
theorem dX5_takeNode_37 : decode cX5_takeNode 37 = .ok (.iload_n 1, 1) := by decide +kernel
theorem dX5_takeNode_38 : decode cX5_takeNode 38 = .ok (.iconst 0, 1) := by decide +kernel
theorem dX5_takeNode_39 : decode cX5_takeNode 39 = .ok (.invokestatic 153, 3) := by decide +kernel
theorem dX5_takeNode_42 : decode cX5_takeNode 42 = .ok (.dup2, 1) := by decide +kernel
theorem dX5_takeNode_43 : decode cX5_takeNode 43 = .ok (.iaload, 1) := by decide +kernel
theorem dX5_takeNode_44 : decode cX5_takeNode 44 = .ok (.iconst 3, 1) := by decide +kernel
theorem dX5_takeNode_45 : decode cX5_takeNode 45 = .ok (.iand, 1) := by decide +kernel
theorem dX5_takeNode_46 : decode cX5_takeNode 46 = .ok (.iastore, 1) := by decide +kernel
theorem dX5_takeNode_47 : decode cX5_takeNode 47 = .ok (.aload_n 0, 1) := by decide +kernel
theorem dX5_takeNode_48 : decode cX5_takeNode 48 = .ok (.getfield 20, 3) := by decide +kernel
theorem dX5_takeNode_51 : decode cX5_takeNode 51 = .ok (.iload_n 1, 1) := by decide +kernel
theorem dX5_takeNode_52 : decode cX5_takeNode 52 = .ok (.iconst 1, 1) := by decide +kernel
theorem dX5_takeNode_53 : decode cX5_takeNode 53 = .ok (.invokestatic 153, 3) := by decide +kernel
theorem dX5_takeNode_56 : decode cX5_takeNode 56 = .ok (.dup2, 1) := by decide +kernel
theorem dX5_takeNode_57 : decode cX5_takeNode 57 = .ok (.iaload, 1) := by decide +kernel
theorem dX5_takeNode_58 : decode cX5_takeNode 58 = .ok (.iconst 3, 1) := by decide +kernel
theorem dX5_takeNode_59 : decode cX5_takeNode 59 = .ok (.iand, 1) := by decide +kernel
theorem dX5_takeNode_60 : decode cX5_takeNode 60 = .ok (.iastore, 1) := by decide +kernel
theorem dX5_takeNode_61 : decode cX5_takeNode 61 = .ok (.iload_n 1, 1) := by decide +kernel
theorem dX5_takeNode_62 : decode cX5_takeNode 62 = .ok (.invokestatic 185, 3) := by decide +kernel
theorem dX5_takeNode_65 : decode cX5_takeNode 65 = .ok (.ireturn, 1) := by decide +kernel
theorem dX5_takeNode_66 : decode cX5_takeNode 66 = .ok (.iinc 1 1, 3) := by decide +kernel
theorem dX5_takeNode_69 : decode cX5_takeNode 69 = .ok (.goto (-67), 3) := by decide +kernel
theorem dX5_takeNode_72 : decode cX5_takeNode 72 = .ok (.iconst 0, 1) := by decide +kernel
theorem dX5_takeNode_73 : decode cX5_takeNode 73 = .ok (.ireturn, 1) := by decide +kernel
theorem dX5_turnEpoch_0 : decode cX5_turnEpoch 0 = .ok (.aload_n 0, 1) := by decide +kernel
theorem dX5_turnEpoch_1 : decode cX5_turnEpoch 1 = .ok (.invokevirtual 197, 3) := by decide +kernel
theorem dX5_turnEpoch_4 : decode cX5_turnEpoch 4 = .ok (.ifCond .eq 10, 3) := by decide +kernel
theorem dX5_turnEpoch_7 : decode cX5_turnEpoch 7 = .ok (.aload_n 0, 1) := by decide +kernel
theorem dX5_turnEpoch_8 : decode cX5_turnEpoch 8 = .ok (.invokevirtual 200, 3) := by decide +kernel
theorem dX5_turnEpoch_11 : decode cX5_turnEpoch 11 = .ok (.ifCond .ne 4, 3) := by decide +kernel
theorem dX5_turnEpoch_14 : decode cX5_turnEpoch 14 = .ok (.return_, 1) := by decide +kernel
theorem dX5_turnEpoch_15 : decode cX5_turnEpoch 15 = .ok (.aload_n 0, 1) := by decide +kernel
theorem dX5_turnEpoch_16 : decode cX5_turnEpoch 16 = .ok (.getfield 20, 3) := by decide +kernel
theorem dX5_turnEpoch_19 : decode cX5_turnEpoch 19 = .ok (.bipush 26, 2) := by decide +kernel
theorem dX5_turnEpoch_21 : decode cX5_turnEpoch 21 = .ok (.dup2, 1) := by decide +kernel
theorem dX5_turnEpoch_22 : decode cX5_turnEpoch 22 = .ok (.iaload, 1) := by decide +kernel
theorem dX5_turnEpoch_23 : decode cX5_turnEpoch 23 = .ok (.iconst 1, 1) := by decide +kernel
theorem dX5_turnEpoch_24 : decode cX5_turnEpoch 24 = .ok (.iadd, 1) := by decide +kernel
theorem dX5_turnEpoch_25 : decode cX5_turnEpoch 25 = .ok (.dup_x2, 1) := by decide +kernel
theorem dX5_turnEpoch_26 : decode cX5_turnEpoch 26 = .ok (.iastore, 1) := by decide +kernel
theorem dX5_turnEpoch_27 : decode cX5_turnEpoch 27 = .ok (.istore_n 1, 1) := by decide +kernel
theorem dX5_turnEpoch_28 : decode cX5_turnEpoch 28 = .ok (.iconst 0, 1) := by decide +kernel
theorem dX5_turnEpoch_29 : decode cX5_turnEpoch 29 = .ok (.istore_n 2, 1) := by decide +kernel
theorem dX5_turnEpoch_30 : decode cX5_turnEpoch 30 = .ok (.iload_n 2, 1) := by decide +kernel
theorem dX5_turnEpoch_31 : decode cX5_turnEpoch 31 = .ok (.bipush 6, 2) := by decide +kernel
theorem dX5_turnEpoch_33 : decode cX5_turnEpoch 33 = .ok (.if_icmp .ge 55, 3) := by decide +kernel
theorem dX5_turnEpoch_36 : decode cX5_turnEpoch 36 = .ok (.aload_n 0, 1) := by decide +kernel
theorem dX5_turnEpoch_37 : decode cX5_turnEpoch 37 = .ok (.getfield 20, 3) := by decide +kernel
theorem dX5_turnEpoch_40 : decode cX5_turnEpoch 40 = .ok (.bipush 20, 2) := by decide +kernel
theorem dX5_turnEpoch_42 : decode cX5_turnEpoch 42 = .ok (.iload_n 2, 1) := by decide +kernel
theorem dX5_turnEpoch_43 : decode cX5_turnEpoch 43 = .ok (.iadd, 1) := by decide +kernel
theorem dX5_turnEpoch_44 : decode cX5_turnEpoch 44 = .ok (.iaload, 1) := by decide +kernel
theorem dX5_turnEpoch_45 : decode cX5_turnEpoch 45 = .ok (.istore_n 3, 1) := by decide +kernel
theorem dX5_turnEpoch_46 : decode cX5_turnEpoch 46 = .ok (.iload_n 3, 1) := by decide +kernel
theorem dX5_turnEpoch_47 : decode cX5_turnEpoch 47 = .ok (.iconst 2, 1) := by decide +kernel
theorem dX5_turnEpoch_48 : decode cX5_turnEpoch 48 = .ok (.isub, 1) := by decide +kernel
theorem dX5_turnEpoch_49 : decode cX5_turnEpoch 49 = .ok (.iconst 2, 1) := by decide +kernel
theorem dX5_turnEpoch_50 : decode cX5_turnEpoch 50 = .ok (.iadd, 1) := by decide +kernel
theorem dX5_turnEpoch_51 : decode cX5_turnEpoch 51 = .ok (.iload_n 1, 1) := by decide +kernel
theorem dX5_turnEpoch_52 : decode cX5_turnEpoch 52 = .ok (.if_icmp .gt 7, 3) := by decide +kernel
theorem dX5_turnEpoch_55 : decode cX5_turnEpoch 55 = .ok (.iconst 1, 1) := by decide +kernel
theorem dX5_turnEpoch_56 : decode cX5_turnEpoch 56 = .ok (.goto 4, 3) := by decide +kernel
theorem dX5_turnEpoch_59 : decode cX5_turnEpoch 59 = .ok (.iconst 0, 1) := by decide +kernel
theorem dX5_turnEpoch_60 : decode cX5_turnEpoch 60 = .ok (.istore 4, 2) := by decide +kernel
theorem dX5_turnEpoch_62 : decode cX5_turnEpoch 62 = .ok (.iload_n 3, 1) := by decide +kernel
theorem dX5_turnEpoch_63 : decode cX5_turnEpoch 63 = .ok (.iconst 2, 1) := by decide +kernel
theorem dX5_turnEpoch_64 : decode cX5_turnEpoch 64 = .ok (.if_icmp .lt 18, 3) := by decide +kernel
theorem dX5_turnEpoch_67 : decode cX5_turnEpoch 67 = .ok (.iload 4, 2) := by decide +kernel
theorem dX5_turnEpoch_69 : decode cX5_turnEpoch 69 = .ok (.ifCond .eq 13, 3) := by decide +kernel
theorem dX5_turnEpoch_72 : decode cX5_turnEpoch 72 = .ok (.aload_n 0, 1) := by decide +kernel
theorem dX5_turnEpoch_73 : decode cX5_turnEpoch 73 = .ok (.getfield 20, 3) := by decide +kernel
theorem dX5_turnEpoch_76 : decode cX5_turnEpoch 76 = .ok (.bipush 20, 2) := by decide +kernel
theorem dX5_turnEpoch_78 : decode cX5_turnEpoch 78 = .ok (.iload_n 2, 1) := by decide +kernel
theorem dX5_turnEpoch_79 : decode cX5_turnEpoch 79 = .ok (.iadd, 1) := by decide +kernel
theorem dX5_turnEpoch_80 : decode cX5_turnEpoch 80 = .ok (.iconst 0, 1) := by decide +kernel
theorem dX5_turnEpoch_81 : decode cX5_turnEpoch 81 = .ok (.iastore, 1) := by decide +kernel
theorem dX5_turnEpoch_82 : decode cX5_turnEpoch 82 = .ok (.iinc 2 1, 3) := by decide +kernel
theorem dX5_turnEpoch_85 : decode cX5_turnEpoch 85 = .ok (.goto (-55), 3) := by decide +kernel
theorem dX5_turnEpoch_88 : decode cX5_turnEpoch 88 = .ok (.return_, 1) := by decide +kernel
theorem dX5_waitingNodes_0 : decode cX5_waitingNodes 0 = .ok (.iconst 0, 1) := by decide +kernel
theorem dX5_waitingNodes_1 : decode cX5_waitingNodes 1 = .ok (.istore_n 1, 1) := by decide +kernel
theorem dX5_waitingNodes_2 : decode cX5_waitingNodes 2 = .ok (.iconst 0, 1) := by decide +kernel
theorem dX5_waitingNodes_3 : decode cX5_waitingNodes 3 = .ok (.istore_n 2, 1) := by decide +kernel
theorem dX5_waitingNodes_4 : decode cX5_waitingNodes 4 = .ok (.iload_n 2, 1) := by decide +kernel
theorem dX5_waitingNodes_5 : decode cX5_waitingNodes 5 = .ok (.bipush 6, 2) := by decide +kernel
theorem dX5_waitingNodes_7 : decode cX5_waitingNodes 7 = .ok (.if_icmp .ge 25, 3) := by decide +kernel
theorem dX5_waitingNodes_10 : decode cX5_waitingNodes 10 = .ok (.aload_n 0, 1) := by decide +kernel
theorem dX5_waitingNodes_11 : decode cX5_waitingNodes 11 = .ok (.getfield 20, 3) := by decide +kernel
theorem dX5_waitingNodes_14 : decode cX5_waitingNodes 14 = .ok (.bipush 20, 2) := by decide +kernel
theorem dX5_waitingNodes_16 : decode cX5_waitingNodes 16 = .ok (.iload_n 2, 1) := by decide +kernel
theorem dX5_waitingNodes_17 : decode cX5_waitingNodes 17 = .ok (.iadd, 1) := by decide +kernel
theorem dX5_waitingNodes_18 : decode cX5_waitingNodes 18 = .ok (.iaload, 1) := by decide +kernel
theorem dX5_waitingNodes_19 : decode cX5_waitingNodes 19 = .ok (.iconst 2, 1) := by decide +kernel
theorem dX5_waitingNodes_20 : decode cX5_waitingNodes 20 = .ok (.if_icmp .lt 6, 3) := by decide +kernel
theorem dX5_waitingNodes_23 : decode cX5_waitingNodes 23 = .ok (.iinc 1 1, 3) := by decide +kernel
theorem dX5_waitingNodes_26 : decode cX5_waitingNodes 26 = .ok (.iinc 2 1, 3) := by decide +kernel
theorem dX5_waitingNodes_29 : decode cX5_waitingNodes 29 = .ok (.goto (-25), 3) := by decide +kernel
theorem dX5_waitingNodes_32 : decode cX5_waitingNodes 32 = .ok (.iload_n 1, 1) := by decide +kernel
theorem dX5_waitingNodes_33 : decode cX5_waitingNodes 33 = .ok (.ireturn, 1) := by decide +kernel
theorem dX5_waitsForWrites_0 : decode cX5_waitsForWrites 0 = .ok (.iload_n 0, 1) := by decide +kernel
theorem dX5_waitsForWrites_1 : decode cX5_waitsForWrites 1 = .ok (.tableswitch 57 4 13 #[55, 55, 55, 55, 57, 55, 57, 57, 57, 55], 55) := by decide +kernel
theorem dX5_waitsForWrites_56 : decode cX5_waitsForWrites 56 = .ok (.iconst 1, 1) := by decide +kernel
theorem dX5_waitsForWrites_57 : decode cX5_waitsForWrites 57 = .ok (.ireturn, 1) := by decide +kernel
theorem dX5_waitsForWrites_58 : decode cX5_waitsForWrites 58 = .ok (.iconst 0, 1) := by decide +kernel
theorem dX5_waitsForWrites_59 : decode cX5_waitsForWrites 59 = .ok (.ireturn, 1) := by decide +kernel
theorem dX5_write_0 : decode cX5_write 0 = .ok (.aload_n 0, 1) := by decide +kernel
theorem dX5_write_1 : decode cX5_write 1 = .ok (.getfield 24, 3) := by decide +kernel
theorem dX5_write_4 : decode cX5_write 4 = .ok (.ifCond .ne 12, 3) := by decide +kernel
theorem dX5_write_7 : decode cX5_write 7 = .ok (.aload_n 0, 1) := by decide +kernel
theorem dX5_write_8 : decode cX5_write 8 = .ok (.iload_n 2, 1) := by decide +kernel
theorem dX5_write_9 : decode cX5_write 9 = .ok (.iload_n 3, 1) := by decide +kernel
theorem dX5_write_10 : decode cX5_write 10 = .ok (.iconst 2, 1) := by decide +kernel
theorem dX5_write_11 : decode cX5_write 11 = .ok (.ishr, 1) := by decide +kernel
theorem dX5_write_12 : decode cX5_write 12 = .ok (.invokevirtual 163, 3) := by decide +kernel
theorem dX5_write_15 : decode cX5_write 15 = .ok (.return_, 1) := by decide +kernel
theorem dX5_write_16 : decode cX5_write 16 = .ok (.aload_n 0, 1) := by decide +kernel
theorem dX5_write_17 : decode cX5_write 17 = .ok (.getfield 20, 3) := by decide +kernel
theorem dX5_write_20 : decode cX5_write 20 = .ok (.iload_n 1, 1) := by decide +kernel
theorem dX5_write_21 : decode cX5_write 21 = .ok (.bipush 13, 2) := by decide +kernel
theorem dX5_write_23 : decode cX5_write 23 = .ok (.iadd, 1) := by decide +kernel
theorem dX5_write_24 : decode cX5_write 24 = .ok (.iaload, 1) := by decide +kernel
theorem dX5_write_25 : decode cX5_write 25 = .ok (.iconst 4, 1) := by decide +kernel
theorem dX5_write_26 : decode cX5_write 26 = .ok (.if_icmp .lt 4, 3) := by decide +kernel
theorem dX5_write_29 : decode cX5_write 29 = .ok (.return_, 1) := by decide +kernel
theorem dX5_write_30 : decode cX5_write 30 = .ok (.aload_n 0, 1) := by decide +kernel
theorem dX5_write_31 : decode cX5_write 31 = .ok (.getfield 20, 3) := by decide +kernel
theorem dX5_write_34 : decode cX5_write 34 = .ok (.iload_n 1, 1) := by decide +kernel
theorem dX5_write_35 : decode cX5_write 35 = .ok (.bipush 14, 2) := by decide +kernel
theorem dX5_write_37 : decode cX5_write 37 = .ok (.iadd, 1) := by decide +kernel
theorem dX5_write_38 : decode cX5_write 38 = .ok (.aload_n 0, 1) := by decide +kernel
theorem dX5_write_39 : decode cX5_write 39 = .ok (.getfield 20, 3) := by decide +kernel
theorem dX5_write_42 : decode cX5_write 42 = .ok (.iload_n 1, 1) := by decide +kernel
theorem dX5_write_43 : decode cX5_write 43 = .ok (.bipush 13, 2) := by decide +kernel
theorem dX5_write_45 : decode cX5_write 45 = .ok (.iadd, 1) := by decide +kernel
theorem dX5_write_46 : decode cX5_write 46 = .ok (.iaload, 1) := by decide +kernel
theorem dX5_write_47 : decode cX5_write 47 = .ok (.iadd, 1) := by decide +kernel
theorem dX5_write_48 : decode cX5_write 48 = .ok (.iload_n 3, 1) := by decide +kernel
theorem dX5_write_49 : decode cX5_write 49 = .ok (.iconst 2, 1) := by decide +kernel
theorem dX5_write_50 : decode cX5_write 50 = .ok (.ishr, 1) := by decide +kernel
theorem dX5_write_51 : decode cX5_write 51 = .ok (.iconst 5, 1) := by decide +kernel
theorem dX5_write_52 : decode cX5_write 52 = .ok (.ishl, 1) := by decide +kernel
theorem dX5_write_53 : decode cX5_write 53 = .ok (.iload_n 2, 1) := by decide +kernel
theorem dX5_write_54 : decode cX5_write 54 = .ok (.ior, 1) := by decide +kernel
theorem dX5_write_55 : decode cX5_write 55 = .ok (.iastore, 1) := by decide +kernel
theorem dX5_write_56 : decode cX5_write 56 = .ok (.aload_n 0, 1) := by decide +kernel
theorem dX5_write_57 : decode cX5_write 57 = .ok (.getfield 20, 3) := by decide +kernel
theorem dX5_write_60 : decode cX5_write 60 = .ok (.iload_n 1, 1) := by decide +kernel
theorem dX5_write_61 : decode cX5_write 61 = .ok (.bipush 13, 2) := by decide +kernel
theorem dX5_write_63 : decode cX5_write 63 = .ok (.iadd, 1) := by decide +kernel
theorem dX5_write_64 : decode cX5_write 64 = .ok (.dup2, 1) := by decide +kernel
theorem dX5_write_65 : decode cX5_write 65 = .ok (.iaload, 1) := by decide +kernel
theorem dX5_write_66 : decode cX5_write 66 = .ok (.iconst 1, 1) := by decide +kernel
theorem dX5_write_67 : decode cX5_write 67 = .ok (.iadd, 1) := by decide +kernel
theorem dX5_write_68 : decode cX5_write 68 = .ok (.iastore, 1) := by decide +kernel
theorem dX5_write_69 : decode cX5_write 69 = .ok (.return_, 1) := by decide +kernel
theorem dX8_act_0 : decode cX8_act 0 = .ok (.iload_n 1, 1) := by decide +kernel
theorem dX8_act_1 : decode cX8_act 1 = .ok (.invokestatic 48, 3) := by decide +kernel
theorem dX8_act_4 : decode cX8_act 4 = .ok (.ifCond .eq 15, 3) := by decide +kernel
theorem dX8_act_7 : decode cX8_act 7 = .ok (.iload_n 2, 1) := by decide +kernel
theorem dX8_act_8 : decode cX8_act 8 = .ok (.iload_n 3, 1) := by decide +kernel
theorem dX8_act_9 : decode cX8_act 9 = .ok (.iload 4, 2) := by decide +kernel
theorem dX8_act_11 : decode cX8_act 11 = .ok (.iload 5, 2) := by decide +kernel
theorem dX8_act_13 : decode cX8_act 13 = .ok (.invokestatic 52, 3) := by decide +kernel
theorem dX8_act_16 : decode cX8_act 16 = .ok (.ifCond .ne 5, 3) := by decide +kernel
theorem dX8_act_19 : decode cX8_act 19 = .ok (.iconst (-1), 1) := by decide +kernel
theorem dX8_act_20 : decode cX8_act 20 = .ok (.ireturn, 1) := by decide +kernel
theorem dX8_act_21 : decode cX8_act 21 = .ok (.aload_n 0, 1) := by decide +kernel
theorem dX8_act_22 : decode cX8_act 22 = .ok (.getfield 12, 3) := by decide +kernel
theorem dX8_act_25 : decode cX8_act 25 = .ok (.iload_n 1, 1) := by decide +kernel
theorem dX8_act_26 : decode cX8_act 26 = .ok (.invokevirtual 58, 3) := by decide +kernel
theorem dX8_act_29 : decode cX8_act 29 = .ok (.bipush 30, 2) := by decide +kernel
theorem dX8_act_31 : decode cX8_act 31 = .ok (.if_icmp .lt 6, 3) := by decide +kernel
theorem dX8_act_34 : decode cX8_act 34 = .ok (.bipush (-3), 2) := by decide +kernel
theorem dX8_act_36 : decode cX8_act 36 = .ok (.ireturn, 1) := by decide +kernel
theorem dX8_act_37 : decode cX8_act 37 = .ok (.aload_n 0, 1) := by decide +kernel
theorem dX8_act_38 : decode cX8_act 38 = .ok (.getfield 12, 3) := by decide +kernel
theorem dX8_act_41 : decode cX8_act 41 = .ok (.iload_n 1, 1) := by decide +kernel
theorem dX8_act_42 : decode cX8_act 42 = .ok (.iload_n 2, 1) := by decide +kernel
theorem dX8_act_43 : decode cX8_act 43 = .ok (.iload_n 3, 1) := by decide +kernel
theorem dX8_act_44 : decode cX8_act 44 = .ok (.iload 4, 2) := by decide +kernel
theorem dX8_act_46 : decode cX8_act 46 = .ok (.iload 5, 2) := by decide +kernel
theorem dX8_act_48 : decode cX8_act 48 = .ok (.invokevirtual 62, 3) := by decide +kernel
theorem dX8_act_51 : decode cX8_act 51 = .ok (.ireturn, 1) := by decide +kernel
theorem dX8_agrees_0 : decode cX8_agrees 0 = .ok (.aload_n 0, 1) := by decide +kernel
theorem dX8_agrees_1 : decode cX8_agrees 1 = .ok (.getfield 34, 3) := by decide +kernel
theorem dX8_agrees_4 : decode cX8_agrees 4 = .ok (.ifCond .eq 13, 3) := by decide +kernel
theorem dX8_agrees_7 : decode cX8_agrees 7 = .ok (.aload_n 0, 1) := by decide +kernel
theorem dX8_agrees_8 : decode cX8_agrees 8 = .ok (.getfield 19, 3) := by decide +kernel
theorem dX8_agrees_11 : decode cX8_agrees 11 = .ok (.invokevirtual 153, 3) := by decide +kernel
theorem dX8_agrees_14 : decode cX8_agrees 14 = .ok (.ifCond .ne 6, 3) := by decide +kernel
theorem dX8_agrees_17 : decode cX8_agrees 17 = .ok (.bipush (-2), 2) := by decide +kernel
theorem dX8_agrees_19 : decode cX8_agrees 19 = .ok (.ireturn, 1) := by decide +kernel
theorem dX8_agrees_20 : decode cX8_agrees 20 = .ok (.aload_n 0, 1) := by decide +kernel
theorem dX8_agrees_21 : decode cX8_agrees 21 = .ok (.getfield 26, 3) := by decide +kernel
theorem dX8_agrees_24 : decode cX8_agrees 24 = .ok (.aload_n 0, 1) := by decide +kernel
theorem dX8_agrees_25 : decode cX8_agrees 25 = .ok (.getfield 19, 3) := by decide +kernel
theorem dX8_agrees_28 : decode cX8_agrees 28 = .ok (.invokevirtual 157, 3) := by decide +kernel
theorem dX8_agrees_31 : decode cX8_agrees 31 = .ok (.ifCond .eq 7, 3) := by decide +kernel
theorem dX8_agrees_34 : decode cX8_agrees 34 = .ok (.iconst 1, 1) := by decide +kernel
theorem dX8_agrees_35 : decode cX8_agrees 35 = .ok (.goto 4, 3) := by decide +kernel
theorem dX8_agrees_38 : decode cX8_agrees 38 = .ok (.iconst 0, 1) := by decide +kernel
theorem dX8_agrees_39 : decode cX8_agrees 39 = .ok (.ireturn, 1) := by decide +kernel
theorem dX8_answer_0 : decode cX8_answer 0 = .ok (.iload_n 1, 1) := by decide +kernel
theorem dX8_answer_1 : decode cX8_answer 1 = .ok (.invokestatic 139, 3) := by decide +kernel
theorem dX8_answer_4 : decode cX8_answer 4 = .ok (.ifCond .eq 12, 3) := by decide +kernel
theorem dX8_answer_7 : decode cX8_answer 7 = .ok (.iload_n 2, 1) := by decide +kernel
theorem dX8_answer_8 : decode cX8_answer 8 = .ok (.ifCond .lt 8, 3) := by decide +kernel
theorem dX8_answer_11 : decode cX8_answer 11 = .ok (.iload_n 2, 1) := by decide +kernel
theorem dX8_answer_12 : decode cX8_answer 12 = .ok (.iconst 3, 1) := by decide +kernel
theorem dX8_answer_13 : decode cX8_answer 13 = .ok (.if_icmp .lt 7, 3) := by decide +kernel
theorem dX8_answer_16 : decode cX8_answer 16 = .ok (.sipush (-1000), 3) := by decide +kernel
theorem dX8_answer_19 : decode cX8_answer 19 = .ok (.ireturn, 1) := by decide +kernel
theorem dX8_answer_20 : decode cX8_answer 20 = .ok (.aload_n 0, 1) := by decide +kernel
theorem dX8_answer_21 : decode cX8_answer 21 = .ok (.getfield 34, 3) := by decide +kernel
theorem dX8_answer_24 : decode cX8_answer 24 = .ok (.ifCond .ne 7, 3) := by decide +kernel
theorem dX8_answer_27 : decode cX8_answer 27 = .ok (.sipush (-2000), 3) := by decide +kernel
theorem dX8_answer_30 : decode cX8_answer 30 = .ok (.ireturn, 1) := by decide +kernel
theorem dX8_answer_31 : decode cX8_answer 31 = .ok (.iload_n 2, 1) := by decide +kernel
theorem dX8_answer_32 : decode cX8_answer 32 = .ok (.aload_n 0, 1) := by decide +kernel
theorem dX8_answer_33 : decode cX8_answer 33 = .ok (.getfield 19, 3) := by decide +kernel
theorem dX8_answer_36 : decode cX8_answer 36 = .ok (.getfield 131, 3) := by decide +kernel
theorem dX8_answer_39 : decode cX8_answer 39 = .ok (.iload_n 1, 1) := by decide +kernel
theorem dX8_answer_40 : decode cX8_answer 40 = .ok (.invokestatic 142, 3) := by decide +kernel
theorem dX8_answer_43 : decode cX8_answer 43 = .ok (.bipush 10, 2) := by decide +kernel
theorem dX8_answer_45 : decode cX8_answer 45 = .ok (.iadd, 1) := by decide +kernel
theorem dX8_answer_46 : decode cX8_answer 46 = .ok (.iaload, 1) := by decide +kernel
theorem dX8_answer_47 : decode cX8_answer 47 = .ok (.if_icmp .lt 6, 3) := by decide +kernel
theorem dX8_answer_50 : decode cX8_answer 50 = .ok (.bipush (-4), 2) := by decide +kernel
theorem dX8_answer_52 : decode cX8_answer 52 = .ok (.ireturn, 1) := by decide +kernel
theorem dX8_answer_53 : decode cX8_answer 53 = .ok (.aload_n 0, 1) := by decide +kernel
theorem dX8_answer_54 : decode cX8_answer 54 = .ok (.getfield 19, 3) := by decide +kernel
theorem dX8_answer_57 : decode cX8_answer 57 = .ok (.getfield 131, 3) := by decide +kernel
theorem dX8_answer_60 : decode cX8_answer 60 = .ok (.bipush 28, 2) := by decide +kernel
theorem dX8_answer_62 : decode cX8_answer 62 = .ok (.iload_n 1, 1) := by decide +kernel
theorem dX8_answer_63 : decode cX8_answer 63 = .ok (.iconst 3, 1) := by decide +kernel
theorem dX8_answer_64 : decode cX8_answer 64 = .ok (.imul, 1) := by decide +kernel
theorem dX8_answer_65 : decode cX8_answer 65 = .ok (.iadd, 1) := by decide +kernel
theorem dX8_answer_66 : decode cX8_answer 66 = .ok (.iload_n 2, 1) := by decide +kernel
theorem dX8_answer_67 : decode cX8_answer 67 = .ok (.iadd, 1) := by decide +kernel
theorem dX8_answer_68 : decode cX8_answer 68 = .ok (.iaload, 1) := by decide +kernel
theorem dX8_answer_69 : decode cX8_answer 69 = .ok (.ireturn, 1) := by decide +kernel
theorem dX8_answers_0 : decode cX8_answers 0 = .ok (.aload_n 0, 1) := by decide +kernel
theorem dX8_answers_1 : decode cX8_answers 1 = .ok (.getfield 30, 3) := by decide +kernel
theorem dX8_answers_4 : decode cX8_answers 4 = .ok (.ifnull 13, 3) := by decide +kernel
theorem dX8_answers_7 : decode cX8_answers 7 = .ok (.aload_n 0, 1) := by decide +kernel
theorem dX8_answers_8 : decode cX8_answers 8 = .ok (.getfield 30, 3) := by decide +kernel
theorem dX8_answers_11 : decode cX8_answers 11 = .ok (.getfield 173, 3) := by decide +kernel
theorem dX8_answers_14 : decode cX8_answers 14 = .ok (.ifCond .ne 6, 3) := by decide +kernel
theorem dX8_answers_17 : decode cX8_answers 17 = .ok (.bipush (-2), 2) := by decide +kernel
theorem dX8_answers_19 : decode cX8_answers 19 = .ok (.ireturn, 1) := by decide +kernel
theorem dX8_answers_20 : decode cX8_answers 20 = .ok (.aload_n 0, 1) := by decide +kernel
theorem dX8_answers_21 : decode cX8_answers 21 = .ok (.getfield 30, 3) := by decide +kernel
theorem dX8_answers_24 : decode cX8_answers 24 = .ok (.getfield 216, 3) := by decide +kernel
theorem dX8_answers_27 : decode cX8_answers 27 = .ok (.ireturn, 1) := by decide +kernel
theorem dX8_begin_0 : decode cX8_begin 0 = .ok (.aload_n 0, 1) := by decide +kernel
theorem dX8_begin_1 : decode cX8_begin 1 = .ok (.getfield 12, 3) := by decide +kernel
theorem dX8_begin_4 : decode cX8_begin 4 = .ok (.invokevirtual 87, 3) := by decide +kernel
theorem dX8_begin_7 : decode cX8_begin 7 = .ok (.ifCond .ne 6, 3) := by decide +kernel
theorem dX8_begin_10 : decode cX8_begin 10 = .ok (.bipush (-2), 2) := by decide +kernel
theorem dX8_begin_12 : decode cX8_begin 12 = .ok (.ireturn, 1) := by decide +kernel
theorem dX8_begin_13 : decode cX8_begin 13 = .ok (.aload_n 0, 1) := by decide +kernel
theorem dX8_begin_14 : decode cX8_begin 14 = .ok (.getfield 19, 3) := by decide +kernel
theorem dX8_begin_17 : decode cX8_begin 17 = .ok (.aload_n 0, 1) := by decide +kernel
theorem dX8_begin_18 : decode cX8_begin 18 = .ok (.getfield 12, 3) := by decide +kernel
theorem dX8_begin_21 : decode cX8_begin 21 = .ok (.invokevirtual 112, 3) := by decide +kernel
theorem dX8_begin_24 : decode cX8_begin 24 = .ok (.istore_n 1, 1) := by decide +kernel
theorem dX8_begin_25 : decode cX8_begin 25 = .ok (.aload_n 0, 1) := by decide +kernel
theorem dX8_begin_26 : decode cX8_begin 26 = .ok (.iload_n 1, 1) := by decide +kernel
theorem dX8_begin_27 : decode cX8_begin 27 = .ok (.ifCond .ne 7, 3) := by decide +kernel
theorem dX8_begin_30 : decode cX8_begin 30 = .ok (.iconst 1, 1) := by decide +kernel
theorem dX8_begin_31 : decode cX8_begin 31 = .ok (.goto 4, 3) := by decide +kernel
theorem dX8_begin_34 : decode cX8_begin 34 = .ok (.iconst 0, 1) := by decide +kernel
theorem dX8_begin_35 : decode cX8_begin 35 = .ok (.putfield 34, 3) := by decide +kernel
theorem dX8_begin_38 : decode cX8_begin 38 = .ok (.aload_n 0, 1) := by decide +kernel
theorem dX8_begin_39 : decode cX8_begin 39 = .ok (.iconst 0, 1) := by decide +kernel
theorem dX8_begin_40 : decode cX8_begin 40 = .ok (.putfield 38, 3) := by decide +kernel
theorem dX8_begin_43 : decode cX8_begin 43 = .ok (.aload_n 0, 1) := by decide +kernel
theorem dX8_begin_44 : decode cX8_begin 44 = .ok (.bipush (-4), 2) := by decide +kernel
theorem dX8_begin_46 : decode cX8_begin 46 = .ok (.putfield 42, 3) := by decide +kernel
theorem dX8_begin_49 : decode cX8_begin 49 = .ok (.aload_n 0, 1) := by decide +kernel
theorem dX8_begin_50 : decode cX8_begin 50 = .ok (.getfield 34, 3) := by decide +kernel
theorem dX8_begin_53 : decode cX8_begin 53 = .ok (.ifCond .eq 7, 3) := by decide +kernel
theorem dX8_begin_56 : decode cX8_begin 56 = .ok (.iconst 1, 1) := by decide +kernel
theorem dX8_begin_57 : decode cX8_begin 57 = .ok (.goto 7, 3) := by decide +kernel
theorem dX8_begin_60 : decode cX8_begin 60 = .ok (.bipush (-10), 2) := by decide +kernel
theorem dX8_begin_62 : decode cX8_begin 62 = .ok (.iload_n 1, 1) := by decide +kernel
theorem dX8_begin_63 : decode cX8_begin 63 = .ok (.isub, 1) := by decide +kernel
theorem dX8_begin_64 : decode cX8_begin 64 = .ok (.ireturn, 1) := by decide +kernel
theorem dX8_call_0 : decode cX8_call 0 = .ok (.iload_n 1, 1) := by decide +kernel
theorem dX8_call_1 : decode cX8_call 1 = .ok (.ifCond .lt 15, 3) := by decide +kernel
theorem dX8_call_4 : decode cX8_call 4 = .ok (.iload_n 1, 1) := by decide +kernel
theorem dX8_call_5 : decode cX8_call 5 = .ok (.iconst 3, 1) := by decide +kernel
theorem dX8_call_6 : decode cX8_call 6 = .ok (.if_icmp .gt 10, 3) := by decide +kernel
theorem dX8_call_9 : decode cX8_call 9 = .ok (.iload_n 2, 1) := by decide +kernel
theorem dX8_call_10 : decode cX8_call 10 = .ok (.invokestatic 48, 3) := by decide +kernel
theorem dX8_call_13 : decode cX8_call 13 = .ok (.ifCond .ne 5, 3) := by decide +kernel
theorem dX8_call_16 : decode cX8_call 16 = .ok (.iconst (-1), 1) := by decide +kernel
theorem dX8_call_17 : decode cX8_call 17 = .ok (.ireturn, 1) := by decide +kernel
theorem dX8_call_18 : decode cX8_call 18 = .ok (.iload_n 3, 1) := by decide +kernel
theorem dX8_call_19 : decode cX8_call 19 = .ok (.bipush (-99), 2) := by decide +kernel
theorem dX8_call_21 : decode cX8_call 21 = .ok (.if_icmp .lt 9, 3) := by decide +kernel
theorem dX8_call_24 : decode cX8_call 24 = .ok (.iload_n 3, 1) := by decide +kernel
theorem dX8_call_25 : decode cX8_call 25 = .ok (.bipush 99, 2) := by decide +kernel
theorem dX8_call_27 : decode cX8_call 27 = .ok (.if_icmp .le 5, 3) := by decide +kernel
theorem dX8_call_30 : decode cX8_call 30 = .ok (.iconst (-1), 1) := by decide +kernel
theorem dX8_call_31 : decode cX8_call 31 = .ok (.ireturn, 1) := by decide +kernel
theorem dX8_call_32 : decode cX8_call 32 = .ok (.aload_n 0, 1) := by decide +kernel
theorem dX8_call_33 : decode cX8_call 33 = .ok (.getfield 12, 3) := by decide +kernel
theorem dX8_call_36 : decode cX8_call 36 = .ok (.iload_n 1, 1) := by decide +kernel
theorem dX8_call_37 : decode cX8_call 37 = .ok (.invokevirtual 80, 3) := by decide +kernel
theorem dX8_call_40 : decode cX8_call 40 = .ok (.ifCond .eq 6, 3) := by decide +kernel
theorem dX8_call_43 : decode cX8_call 43 = .ok (.bipush (-3), 2) := by decide +kernel
theorem dX8_call_45 : decode cX8_call 45 = .ok (.ireturn, 1) := by decide +kernel
theorem dX8_call_46 : decode cX8_call 46 = .ok (.aload_n 0, 1) := by decide +kernel
theorem dX8_call_47 : decode cX8_call 47 = .ok (.getfield 12, 3) := by decide +kernel
theorem dX8_call_50 : decode cX8_call 50 = .ok (.iload_n 1, 1) := by decide +kernel
theorem dX8_call_51 : decode cX8_call 51 = .ok (.iload_n 2, 1) := by decide +kernel
theorem dX8_call_52 : decode cX8_call 52 = .ok (.iload_n 3, 1) := by decide +kernel
theorem dX8_call_53 : decode cX8_call 53 = .ok (.invokevirtual 83, 3) := by decide +kernel
theorem dX8_call_56 : decode cX8_call 56 = .ok (.ireturn, 1) := by decide +kernel
theorem dX8_choiceInTurn_0 : decode cX8_choiceInTurn 0 = .ok (.aload_n 0, 1) := by decide +kernel
theorem dX8_choiceInTurn_1 : decode cX8_choiceInTurn 1 = .ok (.getfield 42, 3) := by decide +kernel
theorem dX8_choiceInTurn_4 : decode cX8_choiceInTurn 4 = .ok (.bipush (-4), 2) := by decide +kernel
theorem dX8_choiceInTurn_6 : decode cX8_choiceInTurn 6 = .ok (.if_icmp .ne 7, 3) := by decide +kernel
theorem dX8_choiceInTurn_9 : decode cX8_choiceInTurn 9 = .ok (.iconst 0, 1) := by decide +kernel
theorem dX8_choiceInTurn_10 : decode cX8_choiceInTurn 10 = .ok (.goto 9, 3) := by decide +kernel
theorem dX8_choiceInTurn_13 : decode cX8_choiceInTurn 13 = .ok (.aload_n 0, 1) := by decide +kernel
theorem dX8_choiceInTurn_14 : decode cX8_choiceInTurn 14 = .ok (.getfield 42, 3) := by decide +kernel
theorem dX8_choiceInTurn_17 : decode cX8_choiceInTurn 17 = .ok (.iconst 1, 1) := by decide +kernel
theorem dX8_choiceInTurn_18 : decode cX8_choiceInTurn 18 = .ok (.iadd, 1) := by decide +kernel
theorem dX8_choiceInTurn_19 : decode cX8_choiceInTurn 19 = .ok (.istore_n 1, 1) := by decide +kernel
theorem dX8_choiceInTurn_20 : decode cX8_choiceInTurn 20 = .ok (.iconst 0, 1) := by decide +kernel
theorem dX8_choiceInTurn_21 : decode cX8_choiceInTurn 21 = .ok (.istore_n 2, 1) := by decide +kernel
theorem dX8_choiceInTurn_22 : decode cX8_choiceInTurn 22 = .ok (.iload_n 2, 1) := by decide +kernel
theorem dX8_choiceInTurn_23 : decode cX8_choiceInTurn 23 = .ok (.bipush 6, 2) := by decide +kernel
theorem dX8_choiceInTurn_25 : decode cX8_choiceInTurn 25 = .ok (.if_icmp .ge 29, 3) := by decide +kernel
theorem dX8_choiceInTurn_28 : decode cX8_choiceInTurn 28 = .ok (.iload_n 1, 1) := by decide +kernel
theorem dX8_choiceInTurn_29 : decode cX8_choiceInTurn 29 = .ok (.iload_n 2, 1) := by decide +kernel
theorem dX8_choiceInTurn_30 : decode cX8_choiceInTurn 30 = .ok (.iadd, 1) := by decide +kernel
theorem dX8_choiceInTurn_31 : decode cX8_choiceInTurn 31 = .ok (.bipush 6, 2) := by decide +kernel
theorem dX8_choiceInTurn_33 : decode cX8_choiceInTurn 33 = .ok (.irem, 1) := by decide +kernel
theorem dX8_choiceInTurn_34 : decode cX8_choiceInTurn 34 = .ok (.istore_n 3, 1) := by decide +kernel
theorem dX8_choiceInTurn_35 : decode cX8_choiceInTurn 35 = .ok (.aload_n 0, 1) := by decide +kernel
theorem dX8_choiceInTurn_36 : decode cX8_choiceInTurn 36 = .ok (.getfield 19, 3) := by decide +kernel
theorem dX8_choiceInTurn_39 : decode cX8_choiceInTurn 39 = .ok (.iload_n 3, 1) := by decide +kernel
theorem dX8_choiceInTurn_40 : decode cX8_choiceInTurn 40 = .ok (.invokevirtual 119, 3) := by decide +kernel
theorem dX8_choiceInTurn_43 : decode cX8_choiceInTurn 43 = .ok (.ifCond .eq 5, 3) := by decide +kernel
theorem dX8_choiceInTurn_46 : decode cX8_choiceInTurn 46 = .ok (.iload_n 3, 1) := by decide +kernel
theorem dX8_choiceInTurn_47 : decode cX8_choiceInTurn 47 = .ok (.ireturn, 1) := by decide +kernel
theorem dX8_choiceInTurn_48 : decode cX8_choiceInTurn 48 = .ok (.iinc 2 1, 3) := by decide +kernel
theorem dX8_choiceInTurn_51 : decode cX8_choiceInTurn 51 = .ok (.goto (-29), 3) := by decide +kernel
theorem dX8_choiceInTurn_54 : decode cX8_choiceInTurn 54 = .ok (.bipush (-4), 2) := by decide +kernel
theorem dX8_choiceInTurn_56 : decode cX8_choiceInTurn 56 = .ok (.ireturn, 1) := by decide +kernel
theorem dX8_choose_0 : decode cX8_choose 0 = .ok (.aload_n 0, 1) := by decide +kernel
theorem dX8_choose_1 : decode cX8_choose 1 = .ok (.getfield 19, 3) := by decide +kernel
theorem dX8_choose_4 : decode cX8_choose 4 = .ok (.iload_n 1, 1) := by decide +kernel
theorem dX8_choose_5 : decode cX8_choose 5 = .ok (.invokevirtual 222, 3) := by decide +kernel
theorem dX8_choose_8 : decode cX8_choose 8 = .ok (.aload_n 0, 1) := by decide +kernel
theorem dX8_choose_9 : decode cX8_choose 9 = .ok (.dup, 1) := by decide +kernel
theorem dX8_choose_10 : decode cX8_choose 10 = .ok (.getfield 38, 3) := by decide +kernel
theorem dX8_choose_13 : decode cX8_choose 13 = .ok (.iconst 1, 1) := by decide +kernel
theorem dX8_choose_14 : decode cX8_choose 14 = .ok (.iadd, 1) := by decide +kernel
theorem dX8_choose_15 : decode cX8_choose 15 = .ok (.putfield 38, 3) := by decide +kernel
theorem dX8_choose_18 : decode cX8_choose 18 = .ok (.aload_n 0, 1) := by decide +kernel
theorem dX8_choose_19 : decode cX8_choose 19 = .ok (.iload_n 1, 1) := by decide +kernel
theorem dX8_choose_20 : decode cX8_choose 20 = .ok (.putfield 42, 3) := by decide +kernel
theorem dX8_choose_23 : decode cX8_choose 23 = .ok (.return_, 1) := by decide +kernel
theorem dX8_clear_0 : decode cX8_clear 0 = .ok (.aload_n 0, 1) := by decide +kernel
theorem dX8_clear_1 : decode cX8_clear 1 = .ok (.getfield 12, 3) := by decide +kernel
theorem dX8_clear_4 : decode cX8_clear 4 = .ok (.invokevirtual 87, 3) := by decide +kernel
theorem dX8_clear_7 : decode cX8_clear 7 = .ok (.aload_n 0, 1) := by decide +kernel
theorem dX8_clear_8 : decode cX8_clear 8 = .ok (.getfield 12, 3) := by decide +kernel
theorem dX8_clear_11 : decode cX8_clear 11 = .ok (.getfield 91, 3) := by decide +kernel
theorem dX8_clear_14 : decode cX8_clear 14 = .ok (.iconst 3, 1) := by decide +kernel
theorem dX8_clear_15 : decode cX8_clear 15 = .ok (.iaload, 1) := by decide +kernel
theorem dX8_clear_16 : decode cX8_clear 16 = .ok (.iadd, 1) := by decide +kernel
theorem dX8_clear_17 : decode cX8_clear 17 = .ok (.istore_n 1, 1) := by decide +kernel
theorem dX8_clear_18 : decode cX8_clear 18 = .ok (.aload_n 0, 1) := by decide +kernel
theorem dX8_clear_19 : decode cX8_clear 19 = .ok (.getfield 12, 3) := by decide +kernel
theorem dX8_clear_22 : decode cX8_clear 22 = .ok (.getfield 91, 3) := by decide +kernel
theorem dX8_clear_25 : decode cX8_clear 25 = .ok (.iconst 0, 1) := by decide +kernel
theorem dX8_clear_26 : decode cX8_clear 26 = .ok (.invokestatic 94, 3) := by decide +kernel
theorem dX8_clear_29 : decode cX8_clear 29 = .ok (.iload_n 1, 1) := by decide +kernel
theorem dX8_clear_30 : decode cX8_clear 30 = .ok (.ireturn, 1) := by decide +kernel
theorem dX8_epoch_0 : decode cX8_epoch 0 = .ok (.aload_n 0, 1) := by decide +kernel
theorem dX8_epoch_1 : decode cX8_epoch 1 = .ok (.getfield 34, 3) := by decide +kernel
theorem dX8_epoch_4 : decode cX8_epoch 4 = .ok (.ifCond .eq 16, 3) := by decide +kernel
theorem dX8_epoch_7 : decode cX8_epoch 7 = .ok (.aload_n 0, 1) := by decide +kernel
theorem dX8_epoch_8 : decode cX8_epoch 8 = .ok (.getfield 19, 3) := by decide +kernel
theorem dX8_epoch_11 : decode cX8_epoch 11 = .ok (.getfield 131, 3) := by decide +kernel
theorem dX8_epoch_14 : decode cX8_epoch 14 = .ok (.bipush 26, 2) := by decide +kernel
theorem dX8_epoch_16 : decode cX8_epoch 16 = .ok (.iaload, 1) := by decide +kernel
theorem dX8_epoch_17 : decode cX8_epoch 17 = .ok (.goto 5, 3) := by decide +kernel
theorem dX8_epoch_20 : decode cX8_epoch 20 = .ok (.bipush (-2), 2) := by decide +kernel
theorem dX8_epoch_22 : decode cX8_epoch 22 = .ok (.ireturn, 1) := by decide +kernel
theorem dX8_explore_0 : decode cX8_explore 0 = .ok (.aload_n 0, 1) := by decide +kernel
theorem dX8_explore_1 : decode cX8_explore 1 = .ok (.getfield 12, 3) := by decide +kernel
theorem dX8_explore_4 : decode cX8_explore 4 = .ok (.invokevirtual 87, 3) := by decide +kernel
theorem dX8_explore_7 : decode cX8_explore 7 = .ok (.ifCond .ne 6, 3) := by decide +kernel
theorem dX8_explore_10 : decode cX8_explore 10 = .ok (.bipush (-2), 2) := by decide +kernel
theorem dX8_explore_12 : decode cX8_explore 12 = .ok (.ireturn, 1) := by decide +kernel
theorem dX8_explore_13 : decode cX8_explore 13 = .ok (.aload_n 0, 1) := by decide +kernel
theorem dX8_explore_14 : decode cX8_explore 14 = .ok (.getfield 45, 3) := by decide +kernel
theorem dX8_explore_17 : decode cX8_explore 17 = .ok (.bipush 12, 2) := by decide +kernel
theorem dX8_explore_19 : decode cX8_explore 19 = .ok (.if_icmp .lt 6, 3) := by decide +kernel
theorem dX8_explore_22 : decode cX8_explore 22 = .ok (.bipush (-3), 2) := by decide +kernel
theorem dX8_explore_24 : decode cX8_explore 24 = .ok (.ireturn, 1) := by decide +kernel
theorem dX8_explore_25 : decode cX8_explore 25 = .ok (.aload_n 0, 1) := by decide +kernel
theorem dX8_explore_26 : decode cX8_explore 26 = .ok (.dup, 1) := by decide +kernel
theorem dX8_explore_27 : decode cX8_explore 27 = .ok (.getfield 45, 3) := by decide +kernel
theorem dX8_explore_30 : decode cX8_explore 30 = .ok (.iconst 1, 1) := by decide +kernel
theorem dX8_explore_31 : decode cX8_explore 31 = .ok (.iadd, 1) := by decide +kernel
theorem dX8_explore_32 : decode cX8_explore 32 = .ok (.putfield 45, 3) := by decide +kernel
theorem dX8_explore_35 : decode cX8_explore 35 = .ok (.aload_n 0, 1) := by decide +kernel
theorem dX8_explore_36 : decode cX8_explore 36 = .ok (.getfield 30, 3) := by decide +kernel
theorem dX8_explore_39 : decode cX8_explore 39 = .ok (.ifnonnull 14, 3) := by decide +kernel
theorem dX8_explore_42 : decode cX8_explore 42 = .ok (.aload_n 0, 1) := by decide +kernel
theorem dX8_explore_43 : decode cX8_explore 43 = .ok (.new 167, 3) := by decide +kernel
theorem dX8_explore_46 : decode cX8_explore 46 = .ok (.dup, 1) := by decide +kernel
theorem dX8_explore_47 : decode cX8_explore 47 = .ok (.invokespecial 169, 3) := by decide +kernel
theorem dX8_explore_50 : decode cX8_explore 50 = .ok (.putfield 30, 3) := by decide +kernel
theorem dX8_explore_53 : decode cX8_explore 53 = .ok (.aload_n 0, 1) := by decide +kernel
theorem dX8_explore_54 : decode cX8_explore 54 = .ok (.getfield 30, 3) := by decide +kernel
theorem dX8_explore_57 : decode cX8_explore 57 = .ok (.getfield 170, 3) := by decide +kernel
theorem dX8_explore_60 : decode cX8_explore 60 = .ok (.aload_n 0, 1) := by decide +kernel
theorem dX8_explore_61 : decode cX8_explore 61 = .ok (.getfield 12, 3) := by decide +kernel
theorem dX8_explore_64 : decode cX8_explore 64 = .ok (.invokevirtual 112, 3) := by decide +kernel
theorem dX8_explore_67 : decode cX8_explore 67 = .ok (.istore_n 1, 1) := by decide +kernel
theorem dX8_explore_68 : decode cX8_explore 68 = .ok (.aload_n 0, 1) := by decide +kernel
theorem dX8_explore_69 : decode cX8_explore 69 = .ok (.getfield 30, 3) := by decide +kernel
theorem dX8_explore_72 : decode cX8_explore 72 = .ok (.iload_n 1, 1) := by decide +kernel
theorem dX8_explore_73 : decode cX8_explore 73 = .ok (.ifCond .ne 7, 3) := by decide +kernel
theorem dX8_explore_76 : decode cX8_explore 76 = .ok (.iconst 1, 1) := by decide +kernel
theorem dX8_explore_77 : decode cX8_explore 77 = .ok (.goto 4, 3) := by decide +kernel
theorem dX8_explore_80 : decode cX8_explore 80 = .ok (.iconst 0, 1) := by decide +kernel
theorem dX8_explore_81 : decode cX8_explore 81 = .ok (.putfield 173, 3) := by decide +kernel
theorem dX8_explore_84 : decode cX8_explore 84 = .ok (.iload_n 1, 1) := by decide +kernel
theorem dX8_explore_85 : decode cX8_explore 85 = .ok (.ifCond .eq 8, 3) := by decide +kernel
theorem dX8_explore_88 : decode cX8_explore 88 = .ok (.bipush (-10), 2) := by decide +kernel
theorem dX8_explore_90 : decode cX8_explore 90 = .ok (.iload_n 1, 1) := by decide +kernel
theorem dX8_explore_91 : decode cX8_explore 91 = .ok (.isub, 1) := by decide +kernel
theorem dX8_explore_92 : decode cX8_explore 92 = .ok (.ireturn, 1) := by decide +kernel
theorem dX8_explore_93 : decode cX8_explore 93 = .ok (.aload_n 0, 1) := by decide +kernel
theorem dX8_explore_94 : decode cX8_explore 94 = .ok (.getfield 30, 3) := by decide +kernel
theorem dX8_explore_97 : decode cX8_explore 97 = .ok (.aload_n 0, 1) := by decide +kernel
theorem dX8_explore_98 : decode cX8_explore 98 = .ok (.getfield 26, 3) := by decide +kernel
theorem dX8_explore_101 : decode cX8_explore 101 = .ok (.invokevirtual 176, 3) := by decide +kernel
theorem dX8_explore_104 : decode cX8_explore 104 = .ok (.aload_n 0, 1) := by decide +kernel
theorem dX8_explore_105 : decode cX8_explore 105 = .ok (.getfield 30, 3) := by decide +kernel
theorem dX8_explore_108 : decode cX8_explore 108 = .ok (.getfield 180, 3) := by decide +kernel
theorem dX8_explore_111 : decode cX8_explore 111 = .ok (.ifCond .eq 8, 3) := by decide +kernel
theorem dX8_explore_114 : decode cX8_explore 114 = .ok (.bipush (-5), 2) := by decide +kernel
theorem dX8_explore_116 : decode cX8_explore 116 = .ok (.goto 10, 3) := by decide +kernel
theorem dX8_explore_119 : decode cX8_explore 119 = .ok (.aload_n 0, 1) := by decide +kernel
theorem dX8_explore_120 : decode cX8_explore 120 = .ok (.getfield 30, 3) := by decide +kernel
theorem dX8_explore_123 : decode cX8_explore 123 = .ok (.getfield 183, 3) := by decide +kernel
theorem dX8_explore_126 : decode cX8_explore 126 = .ok (.ireturn, 1) := by decide +kernel
theorem dX8_explored_0 : decode cX8_explored 0 = .ok (.iload_n 1, 1) := by decide +kernel
theorem dX8_explored_1 : decode cX8_explored 1 = .ok (.ifCond .lt 9, 3) := by decide +kernel
theorem dX8_explored_4 : decode cX8_explored 4 = .ok (.iload_n 1, 1) := by decide +kernel
theorem dX8_explored_5 : decode cX8_explored 5 = .ok (.bipush 7, 2) := by decide +kernel
theorem dX8_explored_7 : decode cX8_explored 7 = .ok (.if_icmp .le 5, 3) := by decide +kernel
theorem dX8_explored_10 : decode cX8_explored 10 = .ok (.iconst (-1), 1) := by decide +kernel
theorem dX8_explored_11 : decode cX8_explored 11 = .ok (.ireturn, 1) := by decide +kernel
theorem dX8_explored_12 : decode cX8_explored 12 = .ok (.aload_n 0, 1) := by decide +kernel
theorem dX8_explored_13 : decode cX8_explored 13 = .ok (.getfield 30, 3) := by decide +kernel
theorem dX8_explored_16 : decode cX8_explored 16 = .ok (.ifnull 13, 3) := by decide +kernel
theorem dX8_explored_19 : decode cX8_explored 19 = .ok (.aload_n 0, 1) := by decide +kernel
theorem dX8_explored_20 : decode cX8_explored 20 = .ok (.getfield 30, 3) := by decide +kernel
theorem dX8_explored_23 : decode cX8_explored 23 = .ok (.getfield 173, 3) := by decide +kernel
theorem dX8_explored_26 : decode cX8_explored 26 = .ok (.ifCond .ne 6, 3) := by decide +kernel
theorem dX8_explored_29 : decode cX8_explored 29 = .ok (.bipush (-2), 2) := by decide +kernel
theorem dX8_explored_31 : decode cX8_explored 31 = .ok (.ireturn, 1) := by decide +kernel
theorem dX8_explored_32 : decode cX8_explored 32 = .ok (.aload_n 0, 1) := by decide +kernel
theorem dX8_explored_33 : decode cX8_explored 33 = .ok (.getfield 30, 3) := by decide +kernel
theorem dX8_explored_36 : decode cX8_explored 36 = .ok (.iload_n 1, 1) := by decide +kernel
theorem dX8_explored_37 : decode cX8_explored 37 = .ok (.invokevirtual 186, 3) := by decide +kernel
theorem dX8_explored_40 : decode cX8_explored 40 = .ok (.ireturn, 1) := by decide +kernel
theorem dX8_first_0 : decode cX8_first 0 = .ok (.iload_n 1, 1) := by decide +kernel
theorem dX8_first_1 : decode cX8_first 1 = .ok (.ifCond .ge 5, 3) := by decide +kernel
theorem dX8_first_4 : decode cX8_first 4 = .ok (.iconst (-1), 1) := by decide +kernel
theorem dX8_first_5 : decode cX8_first 5 = .ok (.ireturn, 1) := by decide +kernel
theorem dX8_first_6 : decode cX8_first 6 = .ok (.aload_n 0, 1) := by decide +kernel
theorem dX8_first_7 : decode cX8_first 7 = .ok (.getfield 30, 3) := by decide +kernel
theorem dX8_first_10 : decode cX8_first 10 = .ok (.ifnull 13, 3) := by decide +kernel
theorem dX8_first_13 : decode cX8_first 13 = .ok (.aload_n 0, 1) := by decide +kernel
theorem dX8_first_14 : decode cX8_first 14 = .ok (.getfield 30, 3) := by decide +kernel
theorem dX8_first_17 : decode cX8_first 17 = .ok (.getfield 173, 3) := by decide +kernel
theorem dX8_first_20 : decode cX8_first 20 = .ok (.ifCond .ne 6, 3) := by decide +kernel
theorem dX8_first_23 : decode cX8_first 23 = .ok (.bipush (-2), 2) := by decide +kernel
theorem dX8_first_25 : decode cX8_first 25 = .ok (.ireturn, 1) := by decide +kernel
theorem dX8_first_26 : decode cX8_first 26 = .ok (.iload_n 1, 1) := by decide +kernel
theorem dX8_first_27 : decode cX8_first 27 = .ok (.iconst 3, 1) := by decide +kernel
theorem dX8_first_28 : decode cX8_first 28 = .ok (.if_icmp .ne 13, 3) := by decide +kernel
theorem dX8_first_31 : decode cX8_first 31 = .ok (.aload_n 0, 1) := by decide +kernel
theorem dX8_first_32 : decode cX8_first 32 = .ok (.getfield 30, 3) := by decide +kernel
theorem dX8_first_35 : decode cX8_first 35 = .ok (.invokevirtual 189, 3) := by decide +kernel
theorem dX8_first_38 : decode cX8_first 38 = .ok (.goto 11, 3) := by decide +kernel
theorem dX8_first_41 : decode cX8_first 41 = .ok (.aload_n 0, 1) := by decide +kernel
theorem dX8_first_42 : decode cX8_first 42 = .ok (.getfield 30, 3) := by decide +kernel
theorem dX8_first_45 : decode cX8_first 45 = .ok (.iload_n 1, 1) := by decide +kernel
theorem dX8_first_46 : decode cX8_first 46 = .ok (.invokevirtual 192, 3) := by decide +kernel
theorem dX8_first_49 : decode cX8_first 49 = .ok (.ireturn, 1) := by decide +kernel
theorem dX8_go_0 : decode cX8_go 0 = .ok (.aload_n 0, 1) := by decide +kernel
theorem dX8_go_1 : decode cX8_go 1 = .ok (.getfield 30, 3) := by decide +kernel
theorem dX8_go_4 : decode cX8_go 4 = .ok (.ifnull 14, 3) := by decide +kernel
theorem dX8_go_7 : decode cX8_go 7 = .ok (.aload_n 0, 1) := by decide +kernel
theorem dX8_go_8 : decode cX8_go 8 = .ok (.getfield 30, 3) := by decide +kernel
theorem dX8_go_11 : decode cX8_go 11 = .ok (.iload_n 1, 1) := by decide +kernel
theorem dX8_go_12 : decode cX8_go 12 = .ok (.invokevirtual 194, 3) := by decide +kernel
theorem dX8_go_15 : decode cX8_go 15 = .ok (.ifCond .ne 6, 3) := by decide +kernel
theorem dX8_go_18 : decode cX8_go 18 = .ok (.bipush (-2), 2) := by decide +kernel
theorem dX8_go_20 : decode cX8_go 20 = .ok (.ireturn, 1) := by decide +kernel
theorem dX8_go_21 : decode cX8_go 21 = .ok (.aload_n 0, 1) := by decide +kernel
theorem dX8_go_22 : decode cX8_go 22 = .ok (.getfield 30, 3) := by decide +kernel
theorem dX8_go_25 : decode cX8_go 25 = .ok (.getfield 203, 3) := by decide +kernel
theorem dX8_go_28 : decode cX8_go 28 = .ok (.iload_n 1, 1) := by decide +kernel
theorem dX8_go_29 : decode cX8_go 29 = .ok (.iaload, 1) := by decide +kernel
theorem dX8_go_30 : decode cX8_go 30 = .ok (.istore_n 2, 1) := by decide +kernel
theorem dX8_go_31 : decode cX8_go 31 = .ok (.iload_n 2, 1) := by decide +kernel
theorem dX8_go_32 : decode cX8_go 32 = .ok (.bipush 100, 2) := by decide +kernel
theorem dX8_go_34 : decode cX8_go 34 = .ok (.if_icmp .le 6, 3) := by decide +kernel
theorem dX8_go_37 : decode cX8_go 37 = .ok (.bipush (-3), 2) := by decide +kernel
theorem dX8_go_39 : decode cX8_go 39 = .ok (.ireturn, 1) := by decide +kernel
theorem dX8_go_40 : decode cX8_go 40 = .ok (.aload_n 0, 1) := by decide +kernel
theorem dX8_go_41 : decode cX8_go 41 = .ok (.getfield 19, 3) := by decide +kernel
theorem dX8_go_44 : decode cX8_go 44 = .ok (.aload_n 0, 1) := by decide +kernel
theorem dX8_go_45 : decode cX8_go 45 = .ok (.getfield 30, 3) := by decide +kernel
theorem dX8_go_48 : decode cX8_go 48 = .ok (.getfield 170, 3) := by decide +kernel
theorem dX8_go_51 : decode cX8_go 51 = .ok (.getfield 161, 3) := by decide +kernel
theorem dX8_go_54 : decode cX8_go 54 = .ok (.aload_n 0, 1) := by decide +kernel
theorem dX8_go_55 : decode cX8_go 55 = .ok (.getfield 30, 3) := by decide +kernel
theorem dX8_go_58 : decode cX8_go 58 = .ok (.getfield 206, 3) := by decide +kernel
theorem dX8_go_61 : decode cX8_go 61 = .ok (.iload_n 1, 1) := by decide +kernel
theorem dX8_go_62 : decode cX8_go 62 = .ok (.bipush 100, 2) := by decide +kernel
theorem dX8_go_64 : decode cX8_go 64 = .ok (.imul, 1) := by decide +kernel
theorem dX8_go_65 : decode cX8_go 65 = .ok (.invokevirtual 209, 3) := by decide +kernel
theorem dX8_go_68 : decode cX8_go 68 = .ok (.aload_n 0, 1) := by decide +kernel
theorem dX8_go_69 : decode cX8_go 69 = .ok (.iconst 1, 1) := by decide +kernel
theorem dX8_go_70 : decode cX8_go 70 = .ok (.putfield 34, 3) := by decide +kernel
theorem dX8_go_73 : decode cX8_go 73 = .ok (.aload_n 0, 1) := by decide +kernel
theorem dX8_go_74 : decode cX8_go 74 = .ok (.iload_n 2, 1) := by decide +kernel
theorem dX8_go_75 : decode cX8_go 75 = .ok (.putfield 38, 3) := by decide +kernel
theorem dX8_go_78 : decode cX8_go 78 = .ok (.aload_n 0, 1) := by decide +kernel
theorem dX8_go_79 : decode cX8_go 79 = .ok (.iload_n 2, 1) := by decide +kernel
theorem dX8_go_80 : decode cX8_go 80 = .ok (.ifCond .ne 8, 3) := by decide +kernel
theorem dX8_go_83 : decode cX8_go 83 = .ok (.bipush (-4), 2) := by decide +kernel
theorem dX8_go_85 : decode cX8_go 85 = .ok (.goto 12, 3) := by decide +kernel
theorem dX8_go_88 : decode cX8_go 88 = .ok (.aload_n 0, 1) := by decide +kernel
theorem dX8_go_89 : decode cX8_go 89 = .ok (.getfield 30, 3) := by decide +kernel
theorem dX8_go_92 : decode cX8_go 92 = .ok (.getfield 213, 3) := by decide +kernel
theorem dX8_go_95 : decode cX8_go 95 = .ok (.iload_n 1, 1) := by decide +kernel
theorem dX8_go_96 : decode cX8_go 96 = .ok (.iaload, 1) := by decide +kernel
theorem dX8_go_97 : decode cX8_go 97 = .ok (.putfield 42, 3) := by decide +kernel
theorem dX8_go_100 : decode cX8_go 100 = .ok (.iload_n 2, 1) := by decide +kernel
theorem dX8_go_101 : decode cX8_go 101 = .ok (.ireturn, 1) := by decide +kernel
theorem dX8_isChoice_0 : decode cX8_isChoice 0 = .ok (.iload_n 0, 1) := by decide +kernel
theorem dX8_isChoice_1 : decode cX8_isChoice 1 = .ok (.ifCond .lt 13, 3) := by decide +kernel
theorem dX8_isChoice_4 : decode cX8_isChoice 4 = .ok (.iload_n 0, 1) := by decide +kernel
theorem dX8_isChoice_5 : decode cX8_isChoice 5 = .ok (.bipush 6, 2) := by decide +kernel
theorem dX8_isChoice_7 : decode cX8_isChoice 7 = .ok (.if_icmp .ge 7, 3) := by decide +kernel
theorem dX8_isChoice_10 : decode cX8_isChoice 10 = .ok (.iconst 1, 1) := by decide +kernel
theorem dX8_isChoice_11 : decode cX8_isChoice 11 = .ok (.goto 4, 3) := by decide +kernel
theorem dX8_isChoice_14 : decode cX8_isChoice 14 = .ok (.iconst 0, 1) := by decide +kernel
theorem dX8_isChoice_15 : decode cX8_isChoice 15 = .ok (.ireturn, 1) := by decide +kernel
theorem dX8_isRoutine_0 : decode cX8_isRoutine 0 = .ok (.iload_n 0, 1) := by decide +kernel
theorem dX8_isRoutine_1 : decode cX8_isRoutine 1 = .ok (.ifCond .lt 13, 3) := by decide +kernel
theorem dX8_isRoutine_4 : decode cX8_isRoutine 4 = .ok (.iload_n 0, 1) := by decide +kernel
theorem dX8_isRoutine_5 : decode cX8_isRoutine 5 = .ok (.bipush 6, 2) := by decide +kernel
theorem dX8_isRoutine_7 : decode cX8_isRoutine 7 = .ok (.if_icmp .ge 7, 3) := by decide +kernel
theorem dX8_isRoutine_10 : decode cX8_isRoutine 10 = .ok (.iconst 1, 1) := by decide +kernel
theorem dX8_isRoutine_11 : decode cX8_isRoutine 11 = .ok (.goto 4, 3) := by decide +kernel
theorem dX8_isRoutine_14 : decode cX8_isRoutine 14 = .ok (.iconst 0, 1) := by decide +kernel
theorem dX8_isRoutine_15 : decode cX8_isRoutine 15 = .ok (.ireturn, 1) := by decide +kernel
theorem dX8_isThread_0 : decode cX8_isThread 0 = .ok (.iload_n 0, 1) := by decide +kernel
theorem dX8_isThread_1 : decode cX8_isThread 1 = .ok (.ifCond .lt 12, 3) := by decide +kernel
theorem dX8_isThread_4 : decode cX8_isThread 4 = .ok (.iload_n 0, 1) := by decide +kernel
theorem dX8_isThread_5 : decode cX8_isThread 5 = .ok (.iconst 3, 1) := by decide +kernel
theorem dX8_isThread_6 : decode cX8_isThread 6 = .ok (.if_icmp .ge 7, 3) := by decide +kernel
theorem dX8_isThread_9 : decode cX8_isThread 9 = .ok (.iconst 1, 1) := by decide +kernel
theorem dX8_isThread_10 : decode cX8_isThread 10 = .ok (.goto 4, 3) := by decide +kernel
theorem dX8_isThread_13 : decode cX8_isThread 13 = .ok (.iconst 0, 1) := by decide +kernel
theorem dX8_isThread_14 : decode cX8_isThread 14 = .ok (.ireturn, 1) := by decide +kernel
theorem dX8_keeps_0 : decode cX8_keeps 0 = .ok (.aload_n 0, 1) := by decide +kernel
theorem dX8_keeps_1 : decode cX8_keeps 1 = .ok (.getfield 34, 3) := by decide +kernel
theorem dX8_keeps_4 : decode cX8_keeps 4 = .ok (.ifCond .eq 26, 3) := by decide +kernel
theorem dX8_keeps_7 : decode cX8_keeps 7 = .ok (.aload_n 0, 1) := by decide +kernel
theorem dX8_keeps_8 : decode cX8_keeps 8 = .ok (.getfield 19, 3) := by decide +kernel
theorem dX8_keeps_11 : decode cX8_keeps 11 = .ok (.invokevirtual 153, 3) := by decide +kernel
theorem dX8_keeps_14 : decode cX8_keeps 14 = .ok (.ifCond .eq 16, 3) := by decide +kernel
theorem dX8_keeps_17 : decode cX8_keeps 17 = .ok (.aload_n 0, 1) := by decide +kernel
theorem dX8_keeps_18 : decode cX8_keeps 18 = .ok (.getfield 19, 3) := by decide +kernel
theorem dX8_keeps_21 : decode cX8_keeps 21 = .ok (.getfield 161, 3) := by decide +kernel
theorem dX8_keeps_24 : decode cX8_keeps 24 = .ok (.getfield 106, 3) := by decide +kernel
theorem dX8_keeps_27 : decode cX8_keeps 27 = .ok (.ifCond .ne 6, 3) := by decide +kernel
theorem dX8_keeps_30 : decode cX8_keeps 30 = .ok (.bipush (-2), 2) := by decide +kernel
theorem dX8_keeps_32 : decode cX8_keeps 32 = .ok (.ireturn, 1) := by decide +kernel
theorem dX8_keeps_33 : decode cX8_keeps 33 = .ok (.aload_n 0, 1) := by decide +kernel
theorem dX8_keeps_34 : decode cX8_keeps 34 = .ok (.getfield 26, 3) := by decide +kernel
theorem dX8_keeps_37 : decode cX8_keeps 37 = .ok (.aload_n 0, 1) := by decide +kernel
theorem dX8_keeps_38 : decode cX8_keeps 38 = .ok (.getfield 19, 3) := by decide +kernel
theorem dX8_keeps_41 : decode cX8_keeps 41 = .ok (.invokevirtual 164, 3) := by decide +kernel
theorem dX8_keeps_44 : decode cX8_keeps 44 = .ok (.ifCond .eq 7, 3) := by decide +kernel
theorem dX8_keeps_47 : decode cX8_keeps 47 = .ok (.iconst 1, 1) := by decide +kernel
theorem dX8_keeps_48 : decode cX8_keeps 48 = .ok (.goto 4, 3) := by decide +kernel
theorem dX8_keeps_51 : decode cX8_keeps 51 = .ok (.iconst 0, 1) := by decide +kernel
theorem dX8_keeps_52 : decode cX8_keeps 52 = .ok (.ireturn, 1) := by decide +kernel
theorem dX8_late_0 : decode cX8_late 0 = .ok (.aload_n 0, 1) := by decide +kernel
theorem dX8_late_1 : decode cX8_late 1 = .ok (.getfield 12, 3) := by decide +kernel
theorem dX8_late_4 : decode cX8_late 4 = .ok (.getfield 103, 3) := by decide +kernel
theorem dX8_late_7 : decode cX8_late 7 = .ok (.ifCond .eq 7, 3) := by decide +kernel
theorem dX8_late_10 : decode cX8_late 10 = .ok (.iconst 1, 1) := by decide +kernel
theorem dX8_late_11 : decode cX8_late 11 = .ok (.goto 4, 3) := by decide +kernel
theorem dX8_late_14 : decode cX8_late 14 = .ok (.iconst 0, 1) := by decide +kernel
theorem dX8_late_15 : decode cX8_late 15 = .ok (.istore_n 2, 1) := by decide +kernel
theorem dX8_late_16 : decode cX8_late 16 = .ok (.aload_n 0, 1) := by decide +kernel
theorem dX8_late_17 : decode cX8_late 17 = .ok (.getfield 12, 3) := by decide +kernel
theorem dX8_late_20 : decode cX8_late 20 = .ok (.iload_n 1, 1) := by decide +kernel
theorem dX8_late_21 : decode cX8_late 21 = .ok (.putfield 103, 3) := by decide +kernel
theorem dX8_late_24 : decode cX8_late 24 = .ok (.iload_n 2, 1) := by decide +kernel
theorem dX8_late_25 : decode cX8_late 25 = .ok (.ireturn, 1) := by decide +kernel
theorem dX8_lessOne_0 : decode cX8_lessOne 0 = .ok (.iload_n 0, 1) := by decide +kernel
theorem dX8_lessOne_1 : decode cX8_lessOne 1 = .ok (.ifCond .ne 8, 3) := by decide +kernel
theorem dX8_lessOne_4 : decode cX8_lessOne 4 = .ok (.bipush (-4), 2) := by decide +kernel
theorem dX8_lessOne_6 : decode cX8_lessOne 6 = .ok (.goto 6, 3) := by decide +kernel
theorem dX8_lessOne_9 : decode cX8_lessOne 9 = .ok (.iload_n 0, 1) := by decide +kernel
theorem dX8_lessOne_10 : decode cX8_lessOne 10 = .ok (.iconst 1, 1) := by decide +kernel
theorem dX8_lessOne_11 : decode cX8_lessOne 11 = .ok (.isub, 1) := by decide +kernel
theorem dX8_lessOne_12 : decode cX8_lessOne 12 = .ok (.ireturn, 1) := by decide +kernel
theorem dX8_local_0 : decode cX8_local 0 = .ok (.iload_n 1, 1) := by decide +kernel
theorem dX8_local_1 : decode cX8_local 1 = .ok (.invokestatic 139, 3) := by decide +kernel
theorem dX8_local_4 : decode cX8_local 4 = .ok (.ifCond .eq 22, 3) := by decide +kernel
theorem dX8_local_7 : decode cX8_local 7 = .ok (.iload_n 2, 1) := by decide +kernel
theorem dX8_local_8 : decode cX8_local 8 = .ok (.ifCond .lt 18, 3) := by decide +kernel
theorem dX8_local_11 : decode cX8_local 11 = .ok (.iload_n 2, 1) := by decide +kernel
theorem dX8_local_12 : decode cX8_local 12 = .ok (.bipush 6, 2) := by decide +kernel
theorem dX8_local_14 : decode cX8_local 14 = .ok (.if_icmp .ge 12, 3) := by decide +kernel
theorem dX8_local_17 : decode cX8_local 17 = .ok (.iload_n 3, 1) := by decide +kernel
theorem dX8_local_18 : decode cX8_local 18 = .ok (.ifCond .lt 8, 3) := by decide +kernel
theorem dX8_local_21 : decode cX8_local 21 = .ok (.iload_n 3, 1) := by decide +kernel
theorem dX8_local_22 : decode cX8_local 22 = .ok (.iconst 3, 1) := by decide +kernel
theorem dX8_local_23 : decode cX8_local 23 = .ok (.if_icmp .le 7, 3) := by decide +kernel
theorem dX8_local_26 : decode cX8_local 26 = .ok (.sipush (-1000), 3) := by decide +kernel
theorem dX8_local_29 : decode cX8_local 29 = .ok (.ireturn, 1) := by decide +kernel
theorem dX8_local_30 : decode cX8_local 30 = .ok (.aload_n 0, 1) := by decide +kernel
theorem dX8_local_31 : decode cX8_local 31 = .ok (.getfield 34, 3) := by decide +kernel
theorem dX8_local_34 : decode cX8_local 34 = .ok (.ifCond .ne 7, 3) := by decide +kernel
theorem dX8_local_37 : decode cX8_local 37 = .ok (.sipush (-2000), 3) := by decide +kernel
theorem dX8_local_40 : decode cX8_local 40 = .ok (.ireturn, 1) := by decide +kernel
theorem dX8_local_41 : decode cX8_local 41 = .ok (.aload_n 0, 1) := by decide +kernel
theorem dX8_local_42 : decode cX8_local 42 = .ok (.getfield 19, 3) := by decide +kernel
theorem dX8_local_45 : decode cX8_local 45 = .ok (.getfield 131, 3) := by decide +kernel
theorem dX8_local_48 : decode cX8_local 48 = .ok (.iload_n 1, 1) := by decide +kernel
theorem dX8_local_49 : decode cX8_local 49 = .ok (.invokestatic 142, 3) := by decide +kernel
theorem dX8_local_52 : decode cX8_local 52 = .ok (.iload_n 2, 1) := by decide +kernel
theorem dX8_local_53 : decode cX8_local 53 = .ok (.iadd, 1) := by decide +kernel
theorem dX8_local_54 : decode cX8_local 54 = .ok (.iaload, 1) := by decide +kernel
theorem dX8_local_55 : decode cX8_local 55 = .ok (.iload_n 3, 1) := by decide +kernel
theorem dX8_local_56 : decode cX8_local 56 = .ok (.invokestatic 134, 3) := by decide +kernel
theorem dX8_local_59 : decode cX8_local 59 = .ok (.ireturn, 1) := by decide +kernel
theorem dX8_manner_0 : decode cX8_manner 0 = .ok (.iload_n 1, 1) := by decide +kernel
theorem dX8_manner_1 : decode cX8_manner 1 = .ok (.ifCond .lt 8, 3) := by decide +kernel
theorem dX8_manner_4 : decode cX8_manner 4 = .ok (.iload_n 1, 1) := by decide +kernel
theorem dX8_manner_5 : decode cX8_manner 5 = .ok (.iconst 4, 1) := by decide +kernel
theorem dX8_manner_6 : decode cX8_manner 6 = .ok (.if_icmp .le 5, 3) := by decide +kernel
theorem dX8_manner_9 : decode cX8_manner 9 = .ok (.iconst (-1), 1) := by decide +kernel
theorem dX8_manner_10 : decode cX8_manner 10 = .ok (.ireturn, 1) := by decide +kernel
theorem dX8_manner_11 : decode cX8_manner 11 = .ok (.aload_n 0, 1) := by decide +kernel
theorem dX8_manner_12 : decode cX8_manner 12 = .ok (.getfield 12, 3) := by decide +kernel
theorem dX8_manner_15 : decode cX8_manner 15 = .ok (.getfield 100, 3) := by decide +kernel
theorem dX8_manner_18 : decode cX8_manner 18 = .ok (.istore_n 2, 1) := by decide +kernel
theorem dX8_manner_19 : decode cX8_manner 19 = .ok (.aload_n 0, 1) := by decide +kernel
theorem dX8_manner_20 : decode cX8_manner 20 = .ok (.getfield 12, 3) := by decide +kernel
theorem dX8_manner_23 : decode cX8_manner 23 = .ok (.iload_n 1, 1) := by decide +kernel
theorem dX8_manner_24 : decode cX8_manner 24 = .ok (.putfield 100, 3) := by decide +kernel
theorem dX8_manner_27 : decode cX8_manner 27 = .ok (.iload_n 2, 1) := by decide +kernel
theorem dX8_manner_28 : decode cX8_manner 28 = .ok (.ireturn, 1) := by decide +kernel
theorem dX8_may_0 : decode cX8_may 0 = .ok (.iload_n 1, 1) := by decide +kernel
theorem dX8_may_1 : decode cX8_may 1 = .ok (.invokestatic 116, 3) := by decide +kernel
theorem dX8_may_4 : decode cX8_may 4 = .ok (.ifCond .ne 5, 3) := by decide +kernel
theorem dX8_may_7 : decode cX8_may 7 = .ok (.iconst (-1), 1) := by decide +kernel
theorem dX8_may_8 : decode cX8_may 8 = .ok (.ireturn, 1) := by decide +kernel
theorem dX8_may_9 : decode cX8_may 9 = .ok (.aload_n 0, 1) := by decide +kernel
theorem dX8_may_10 : decode cX8_may 10 = .ok (.getfield 34, 3) := by decide +kernel
theorem dX8_may_13 : decode cX8_may 13 = .ok (.ifCond .ne 6, 3) := by decide +kernel
theorem dX8_may_16 : decode cX8_may 16 = .ok (.bipush (-2), 2) := by decide +kernel
theorem dX8_may_18 : decode cX8_may 18 = .ok (.ireturn, 1) := by decide +kernel
theorem dX8_may_19 : decode cX8_may 19 = .ok (.aload_n 0, 1) := by decide +kernel
theorem dX8_may_20 : decode cX8_may 20 = .ok (.getfield 19, 3) := by decide +kernel
theorem dX8_may_23 : decode cX8_may 23 = .ok (.iload_n 1, 1) := by decide +kernel
theorem dX8_may_24 : decode cX8_may 24 = .ok (.invokevirtual 119, 3) := by decide +kernel
theorem dX8_may_27 : decode cX8_may 27 = .ok (.ifCond .eq 7, 3) := by decide +kernel
theorem dX8_may_30 : decode cX8_may 30 = .ok (.iconst 1, 1) := by decide +kernel
theorem dX8_may_31 : decode cX8_may 31 = .ok (.goto 4, 3) := by decide +kernel
theorem dX8_may_34 : decode cX8_may 34 = .ok (.iconst 0, 1) := by decide +kernel
theorem dX8_may_35 : decode cX8_may 35 = .ok (.ireturn, 1) := by decide +kernel
theorem dX8_means_0 : decode cX8_means 0 = .ok (.iload_n 1, 1) := by decide +kernel
theorem dX8_means_1 : decode cX8_means 1 = .ok (.invokestatic 48, 3) := by decide +kernel
theorem dX8_means_4 : decode cX8_means 4 = .ok (.ifCond .eq 12, 3) := by decide +kernel
theorem dX8_means_7 : decode cX8_means 7 = .ok (.iload_n 2, 1) := by decide +kernel
theorem dX8_means_8 : decode cX8_means 8 = .ok (.ifCond .lt 8, 3) := by decide +kernel
theorem dX8_means_11 : decode cX8_means 11 = .ok (.iload_n 2, 1) := by decide +kernel
theorem dX8_means_12 : decode cX8_means 12 = .ok (.iconst 2, 1) := by decide +kernel
theorem dX8_means_13 : decode cX8_means 13 = .ok (.if_icmp .le 5, 3) := by decide +kernel
theorem dX8_means_16 : decode cX8_means 16 = .ok (.iconst (-1), 1) := by decide +kernel
theorem dX8_means_17 : decode cX8_means 17 = .ok (.ireturn, 1) := by decide +kernel
theorem dX8_means_18 : decode cX8_means 18 = .ok (.aload_n 0, 1) := by decide +kernel
theorem dX8_means_19 : decode cX8_means 19 = .ok (.getfield 12, 3) := by decide +kernel
theorem dX8_means_22 : decode cX8_means 22 = .ok (.getfield 70, 3) := by decide +kernel
theorem dX8_means_25 : decode cX8_means 25 = .ok (.iload_n 1, 1) := by decide +kernel
theorem dX8_means_26 : decode cX8_means 26 = .ok (.iaload, 1) := by decide +kernel
theorem dX8_means_27 : decode cX8_means 27 = .ok (.istore_n 3, 1) := by decide +kernel
theorem dX8_means_28 : decode cX8_means 28 = .ok (.aload_n 0, 1) := by decide +kernel
theorem dX8_means_29 : decode cX8_means 29 = .ok (.getfield 12, 3) := by decide +kernel
theorem dX8_means_32 : decode cX8_means 32 = .ok (.getfield 70, 3) := by decide +kernel
theorem dX8_means_35 : decode cX8_means 35 = .ok (.iload_n 1, 1) := by decide +kernel
theorem dX8_means_36 : decode cX8_means 36 = .ok (.iload_n 2, 1) := by decide +kernel
theorem dX8_means_37 : decode cX8_means 37 = .ok (.iastore, 1) := by decide +kernel
theorem dX8_means_38 : decode cX8_means 38 = .ok (.iload_n 3, 1) := by decide +kernel
theorem dX8_means_39 : decode cX8_means 39 = .ok (.ireturn, 1) := by decide +kernel
theorem dX8_model_0 : decode cX8_model 0 = .ok (.iload_n 1, 1) := by decide +kernel
theorem dX8_model_1 : decode cX8_model 1 = .ok (.ifCond .lt 8, 3) := by decide +kernel
theorem dX8_model_4 : decode cX8_model 4 = .ok (.iload_n 1, 1) := by decide +kernel
theorem dX8_model_5 : decode cX8_model 5 = .ok (.iconst 4, 1) := by decide +kernel
theorem dX8_model_6 : decode cX8_model 6 = .ok (.if_icmp .le 5, 3) := by decide +kernel
theorem dX8_model_9 : decode cX8_model 9 = .ok (.iconst (-1), 1) := by decide +kernel
theorem dX8_model_10 : decode cX8_model 10 = .ok (.ireturn, 1) := by decide +kernel
theorem dX8_model_11 : decode cX8_model 11 = .ok (.aload_n 0, 1) := by decide +kernel
theorem dX8_model_12 : decode cX8_model 12 = .ok (.getfield 12, 3) := by decide +kernel
theorem dX8_model_15 : decode cX8_model 15 = .ok (.getfield 106, 3) := by decide +kernel
theorem dX8_model_18 : decode cX8_model 18 = .ok (.istore_n 2, 1) := by decide +kernel
theorem dX8_model_19 : decode cX8_model 19 = .ok (.aload_n 0, 1) := by decide +kernel
theorem dX8_model_20 : decode cX8_model 20 = .ok (.getfield 12, 3) := by decide +kernel
theorem dX8_model_23 : decode cX8_model 23 = .ok (.iload_n 1, 1) := by decide +kernel
theorem dX8_model_24 : decode cX8_model 24 = .ok (.putfield 106, 3) := by decide +kernel
theorem dX8_model_27 : decode cX8_model 27 = .ok (.iload_n 2, 1) := by decide +kernel
theorem dX8_model_28 : decode cX8_model 28 = .ok (.ireturn, 1) := by decide +kernel
theorem dX8_moment_0 : decode cX8_moment 0 = .ok (.iload_n 1, 1) := by decide +kernel
theorem dX8_moment_1 : decode cX8_moment 1 = .ok (.invokestatic 48, 3) := by decide +kernel
theorem dX8_moment_4 : decode cX8_moment 4 = .ok (.ifCond .eq 15, 3) := by decide +kernel
theorem dX8_moment_7 : decode cX8_moment 7 = .ok (.aload_n 0, 1) := by decide +kernel
theorem dX8_moment_8 : decode cX8_moment 8 = .ok (.getfield 12, 3) := by decide +kernel
theorem dX8_moment_11 : decode cX8_moment 11 = .ok (.iload_n 1, 1) := by decide +kernel
theorem dX8_moment_12 : decode cX8_moment 12 = .ok (.iload_n 2, 1) := by decide +kernel
theorem dX8_moment_13 : decode cX8_moment 13 = .ok (.invokevirtual 73, 3) := by decide +kernel
theorem dX8_moment_16 : decode cX8_moment 16 = .ok (.goto 4, 3) := by decide +kernel
theorem dX8_moment_19 : decode cX8_moment 19 = .ok (.iconst (-1), 1) := by decide +kernel
theorem dX8_moment_20 : decode cX8_moment 20 = .ok (.istore 4, 2) := by decide +kernel
theorem dX8_moment_22 : decode cX8_moment 22 = .ok (.iload 4, 2) := by decide +kernel
theorem dX8_moment_24 : decode cX8_moment 24 = .ok (.ifCond .lt 18, 3) := by decide +kernel
theorem dX8_moment_27 : decode cX8_moment 27 = .ok (.aload_n 0, 1) := by decide +kernel
theorem dX8_moment_28 : decode cX8_moment 28 = .ok (.getfield 12, 3) := by decide +kernel
theorem dX8_moment_31 : decode cX8_moment 31 = .ok (.getfield 77, 3) := by decide +kernel
theorem dX8_moment_34 : decode cX8_moment 34 = .ok (.iload 4, 2) := by decide +kernel
theorem dX8_moment_36 : decode cX8_moment 36 = .ok (.iaload, 1) := by decide +kernel
theorem dX8_moment_37 : decode cX8_moment 37 = .ok (.bipush 6, 2) := by decide +kernel
theorem dX8_moment_39 : decode cX8_moment 39 = .ok (.if_icmp .le 5, 3) := by decide +kernel
theorem dX8_moment_42 : decode cX8_moment 42 = .ok (.iconst (-1), 1) := by decide +kernel
theorem dX8_moment_43 : decode cX8_moment 43 = .ok (.ireturn, 1) := by decide +kernel
theorem dX8_moment_44 : decode cX8_moment 44 = .ok (.aload_n 0, 1) := by decide +kernel
theorem dX8_moment_45 : decode cX8_moment 45 = .ok (.getfield 12, 3) := by decide +kernel
theorem dX8_moment_48 : decode cX8_moment 48 = .ok (.getfield 77, 3) := by decide +kernel
theorem dX8_moment_51 : decode cX8_moment 51 = .ok (.iload 4, 2) := by decide +kernel
theorem dX8_moment_53 : decode cX8_moment 53 = .ok (.iconst 4, 1) := by decide +kernel
theorem dX8_moment_54 : decode cX8_moment 54 = .ok (.iadd, 1) := by decide +kernel
theorem dX8_moment_55 : decode cX8_moment 55 = .ok (.iaload, 1) := by decide +kernel
theorem dX8_moment_56 : decode cX8_moment 56 = .ok (.istore 5, 2) := by decide +kernel
theorem dX8_moment_58 : decode cX8_moment 58 = .ok (.aload_n 0, 1) := by decide +kernel
theorem dX8_moment_59 : decode cX8_moment 59 = .ok (.getfield 12, 3) := by decide +kernel
theorem dX8_moment_62 : decode cX8_moment 62 = .ok (.getfield 77, 3) := by decide +kernel
theorem dX8_moment_65 : decode cX8_moment 65 = .ok (.iload 4, 2) := by decide +kernel
theorem dX8_moment_67 : decode cX8_moment 67 = .ok (.iconst 4, 1) := by decide +kernel
theorem dX8_moment_68 : decode cX8_moment 68 = .ok (.iadd, 1) := by decide +kernel
theorem dX8_moment_69 : decode cX8_moment 69 = .ok (.iload_n 3, 1) := by decide +kernel
theorem dX8_moment_70 : decode cX8_moment 70 = .ok (.ifCond .eq 7, 3) := by decide +kernel
theorem dX8_moment_73 : decode cX8_moment 73 = .ok (.iconst 1, 1) := by decide +kernel
theorem dX8_moment_74 : decode cX8_moment 74 = .ok (.goto 4, 3) := by decide +kernel
theorem dX8_moment_77 : decode cX8_moment 77 = .ok (.iconst 0, 1) := by decide +kernel
theorem dX8_moment_78 : decode cX8_moment 78 = .ok (.iastore, 1) := by decide +kernel
theorem dX8_moment_79 : decode cX8_moment 79 = .ok (.iload 5, 2) := by decide +kernel
theorem dX8_moment_81 : decode cX8_moment 81 = .ok (.ireturn, 1) := by decide +kernel
theorem dX8_next_0 : decode cX8_next 0 = .ok (.iload_n 2, 1) := by decide +kernel
theorem dX8_next_1 : decode cX8_next 1 = .ok (.invokestatic 116, 3) := by decide +kernel
theorem dX8_next_4 : decode cX8_next 4 = .ok (.ifCond .ne 5, 3) := by decide +kernel
theorem dX8_next_7 : decode cX8_next 7 = .ok (.iconst (-1), 1) := by decide +kernel
theorem dX8_next_8 : decode cX8_next 8 = .ok (.ireturn, 1) := by decide +kernel
theorem dX8_next_9 : decode cX8_next 9 = .ok (.aload_n 0, 1) := by decide +kernel
theorem dX8_next_10 : decode cX8_next 10 = .ok (.getfield 30, 3) := by decide +kernel
theorem dX8_next_13 : decode cX8_next 13 = .ok (.ifnull 14, 3) := by decide +kernel
theorem dX8_next_16 : decode cX8_next 16 = .ok (.aload_n 0, 1) := by decide +kernel
theorem dX8_next_17 : decode cX8_next 17 = .ok (.getfield 30, 3) := by decide +kernel
theorem dX8_next_20 : decode cX8_next 20 = .ok (.iload_n 1, 1) := by decide +kernel
theorem dX8_next_21 : decode cX8_next 21 = .ok (.invokevirtual 194, 3) := by decide +kernel
theorem dX8_next_24 : decode cX8_next 24 = .ok (.ifCond .ne 6, 3) := by decide +kernel
theorem dX8_next_27 : decode cX8_next 27 = .ok (.bipush (-2), 2) := by decide +kernel
theorem dX8_next_29 : decode cX8_next 29 = .ok (.ireturn, 1) := by decide +kernel
theorem dX8_next_30 : decode cX8_next 30 = .ok (.aload_n 0, 1) := by decide +kernel
theorem dX8_next_31 : decode cX8_next 31 = .ok (.getfield 30, 3) := by decide +kernel
theorem dX8_next_34 : decode cX8_next 34 = .ok (.getfield 200, 3) := by decide +kernel
theorem dX8_next_37 : decode cX8_next 37 = .ok (.iload_n 1, 1) := by decide +kernel
theorem dX8_next_38 : decode cX8_next 38 = .ok (.bipush 6, 2) := by decide +kernel
theorem dX8_next_40 : decode cX8_next 40 = .ok (.imul, 1) := by decide +kernel
theorem dX8_next_41 : decode cX8_next 41 = .ok (.iload_n 2, 1) := by decide +kernel
theorem dX8_next_42 : decode cX8_next 42 = .ok (.iadd, 1) := by decide +kernel
theorem dX8_next_43 : decode cX8_next 43 = .ok (.iaload, 1) := by decide +kernel
theorem dX8_next_44 : decode cX8_next 44 = .ok (.ireturn, 1) := by decide +kernel
theorem dX8_node_0 : decode cX8_node 0 = .ok (.iload_n 1, 1) := by decide +kernel
theorem dX8_node_1 : decode cX8_node 1 = .ok (.ifCond .lt 9, 3) := by decide +kernel
theorem dX8_node_4 : decode cX8_node 4 = .ok (.iload_n 1, 1) := by decide +kernel
theorem dX8_node_5 : decode cX8_node 5 = .ok (.bipush 6, 2) := by decide +kernel
theorem dX8_node_7 : decode cX8_node 7 = .ok (.if_icmp .lt 5, 3) := by decide +kernel
theorem dX8_node_10 : decode cX8_node 10 = .ok (.iconst (-1), 1) := by decide +kernel
theorem dX8_node_11 : decode cX8_node 11 = .ok (.ireturn, 1) := by decide +kernel
theorem dX8_node_12 : decode cX8_node 12 = .ok (.aload_n 0, 1) := by decide +kernel
theorem dX8_node_13 : decode cX8_node 13 = .ok (.getfield 34, 3) := by decide +kernel
theorem dX8_node_16 : decode cX8_node 16 = .ok (.ifCond .ne 6, 3) := by decide +kernel
theorem dX8_node_19 : decode cX8_node 19 = .ok (.bipush (-2), 2) := by decide +kernel
theorem dX8_node_21 : decode cX8_node 21 = .ok (.ireturn, 1) := by decide +kernel
theorem dX8_node_22 : decode cX8_node 22 = .ok (.aload_n 0, 1) := by decide +kernel
theorem dX8_node_23 : decode cX8_node 23 = .ok (.getfield 19, 3) := by decide +kernel
theorem dX8_node_26 : decode cX8_node 26 = .ok (.getfield 131, 3) := by decide +kernel
theorem dX8_node_29 : decode cX8_node 29 = .ok (.bipush 20, 2) := by decide +kernel
theorem dX8_node_31 : decode cX8_node 31 = .ok (.iload_n 1, 1) := by decide +kernel
theorem dX8_node_32 : decode cX8_node 32 = .ok (.iadd, 1) := by decide +kernel
theorem dX8_node_33 : decode cX8_node 33 = .ok (.iaload, 1) := by decide +kernel
theorem dX8_node_34 : decode cX8_node 34 = .ok (.iconst 2, 1) := by decide +kernel
theorem dX8_node_35 : decode cX8_node 35 = .ok (.invokestatic 145, 3) := by decide +kernel
theorem dX8_node_38 : decode cX8_node 38 = .ok (.ireturn, 1) := by decide +kernel
theorem dX8_run_0 : decode cX8_run 0 = .ok (.iload_n 1, 1) := by decide +kernel
theorem dX8_run_1 : decode cX8_run 1 = .ok (.iconst 1, 1) := by decide +kernel
theorem dX8_run_2 : decode cX8_run 2 = .ok (.if_icmp .lt 9, 3) := by decide +kernel
theorem dX8_run_5 : decode cX8_run 5 = .ok (.iload_n 1, 1) := by decide +kernel
theorem dX8_run_6 : decode cX8_run 6 = .ok (.bipush 100, 2) := by decide +kernel
theorem dX8_run_8 : decode cX8_run 8 = .ok (.if_icmp .le 5, 3) := by decide +kernel
theorem dX8_run_11 : decode cX8_run 11 = .ok (.iconst (-1), 1) := by decide +kernel
theorem dX8_run_12 : decode cX8_run 12 = .ok (.ireturn, 1) := by decide +kernel
theorem dX8_run_13 : decode cX8_run 13 = .ok (.aload_n 0, 1) := by decide +kernel
theorem dX8_run_14 : decode cX8_run 14 = .ok (.getfield 34, 3) := by decide +kernel
theorem dX8_run_17 : decode cX8_run 17 = .ok (.ifCond .ne 6, 3) := by decide +kernel
theorem dX8_run_20 : decode cX8_run 20 = .ok (.bipush (-2), 2) := by decide +kernel
theorem dX8_run_22 : decode cX8_run 22 = .ok (.ireturn, 1) := by decide +kernel
theorem dX8_run_23 : decode cX8_run 23 = .ok (.aload_n 0, 1) := by decide +kernel
theorem dX8_run_24 : decode cX8_run 24 = .ok (.getfield 38, 3) := by decide +kernel
theorem dX8_run_27 : decode cX8_run 27 = .ok (.istore_n 2, 1) := by decide +kernel
theorem dX8_run_28 : decode cX8_run 28 = .ok (.iconst 0, 1) := by decide +kernel
theorem dX8_run_29 : decode cX8_run 29 = .ok (.istore_n 3, 1) := by decide +kernel
theorem dX8_run_30 : decode cX8_run 30 = .ok (.iload_n 3, 1) := by decide +kernel
theorem dX8_run_31 : decode cX8_run 31 = .ok (.iload_n 1, 1) := by decide +kernel
theorem dX8_run_32 : decode cX8_run 32 = .ok (.if_icmp .ge 40, 3) := by decide +kernel
theorem dX8_run_35 : decode cX8_run 35 = .ok (.aload_n 0, 1) := by decide +kernel
theorem dX8_run_36 : decode cX8_run 36 = .ok (.getfield 38, 3) := by decide +kernel
theorem dX8_run_39 : decode cX8_run 39 = .ok (.bipush 100, 2) := by decide +kernel
theorem dX8_run_41 : decode cX8_run 41 = .ok (.if_icmp .ge 31, 3) := by decide +kernel
theorem dX8_run_44 : decode cX8_run 44 = .ok (.aload_n 0, 1) := by decide +kernel
theorem dX8_run_45 : decode cX8_run 45 = .ok (.invokevirtual 126, 3) := by decide +kernel
theorem dX8_run_48 : decode cX8_run 48 = .ok (.istore 4, 2) := by decide +kernel
theorem dX8_run_50 : decode cX8_run 50 = .ok (.iload 4, 2) := by decide +kernel
theorem dX8_run_52 : decode cX8_run 52 = .ok (.bipush (-4), 2) := by decide +kernel
theorem dX8_run_54 : decode cX8_run 54 = .ok (.if_icmp .ne 6, 3) := by decide +kernel
theorem dX8_run_57 : decode cX8_run 57 = .ok (.goto 15, 3) := by decide +kernel
theorem dX8_run_60 : decode cX8_run 60 = .ok (.aload_n 0, 1) := by decide +kernel
theorem dX8_run_61 : decode cX8_run 61 = .ok (.iload 4, 2) := by decide +kernel
theorem dX8_run_63 : decode cX8_run 63 = .ok (.invokevirtual 122, 3) := by decide +kernel
theorem dX8_run_66 : decode cX8_run 66 = .ok (.iinc 3 1, 3) := by decide +kernel
theorem dX8_run_69 : decode cX8_run 69 = .ok (.goto (-39), 3) := by decide +kernel
theorem dX8_run_72 : decode cX8_run 72 = .ok (.aload_n 0, 1) := by decide +kernel
theorem dX8_run_73 : decode cX8_run 73 = .ok (.getfield 38, 3) := by decide +kernel
theorem dX8_run_76 : decode cX8_run 76 = .ok (.iload_n 2, 1) := by decide +kernel
theorem dX8_run_77 : decode cX8_run 77 = .ok (.isub, 1) := by decide +kernel
theorem dX8_run_78 : decode cX8_run 78 = .ok (.ireturn, 1) := by decide +kernel
theorem dX8_step_0 : decode cX8_step 0 = .ok (.iload_n 1, 1) := by decide +kernel
theorem dX8_step_1 : decode cX8_step 1 = .ok (.invokestatic 116, 3) := by decide +kernel
theorem dX8_step_4 : decode cX8_step 4 = .ok (.ifCond .ne 5, 3) := by decide +kernel
theorem dX8_step_7 : decode cX8_step 7 = .ok (.iconst (-1), 1) := by decide +kernel
theorem dX8_step_8 : decode cX8_step 8 = .ok (.ireturn, 1) := by decide +kernel
theorem dX8_step_9 : decode cX8_step 9 = .ok (.aload_n 0, 1) := by decide +kernel
theorem dX8_step_10 : decode cX8_step 10 = .ok (.getfield 34, 3) := by decide +kernel
theorem dX8_step_13 : decode cX8_step 13 = .ok (.ifCond .eq 14, 3) := by decide +kernel
theorem dX8_step_16 : decode cX8_step 16 = .ok (.aload_n 0, 1) := by decide +kernel
theorem dX8_step_17 : decode cX8_step 17 = .ok (.getfield 19, 3) := by decide +kernel
theorem dX8_step_20 : decode cX8_step 20 = .ok (.iload_n 1, 1) := by decide +kernel
theorem dX8_step_21 : decode cX8_step 21 = .ok (.invokevirtual 119, 3) := by decide +kernel
theorem dX8_step_24 : decode cX8_step 24 = .ok (.ifCond .ne 6, 3) := by decide +kernel
theorem dX8_step_27 : decode cX8_step 27 = .ok (.bipush (-2), 2) := by decide +kernel
theorem dX8_step_29 : decode cX8_step 29 = .ok (.ireturn, 1) := by decide +kernel
theorem dX8_step_30 : decode cX8_step 30 = .ok (.aload_n 0, 1) := by decide +kernel
theorem dX8_step_31 : decode cX8_step 31 = .ok (.getfield 38, 3) := by decide +kernel
theorem dX8_step_34 : decode cX8_step 34 = .ok (.bipush 100, 2) := by decide +kernel
theorem dX8_step_36 : decode cX8_step 36 = .ok (.if_icmp .lt 6, 3) := by decide +kernel
theorem dX8_step_39 : decode cX8_step 39 = .ok (.bipush (-3), 2) := by decide +kernel
theorem dX8_step_41 : decode cX8_step 41 = .ok (.ireturn, 1) := by decide +kernel
theorem dX8_step_42 : decode cX8_step 42 = .ok (.aload_n 0, 1) := by decide +kernel
theorem dX8_step_43 : decode cX8_step 43 = .ok (.iload_n 1, 1) := by decide +kernel
theorem dX8_step_44 : decode cX8_step 44 = .ok (.invokevirtual 122, 3) := by decide +kernel
theorem dX8_step_47 : decode cX8_step 47 = .ok (.aload_n 0, 1) := by decide +kernel
theorem dX8_step_48 : decode cX8_step 48 = .ok (.getfield 38, 3) := by decide +kernel
theorem dX8_step_51 : decode cX8_step 51 = .ok (.ireturn, 1) := by decide +kernel
theorem dX8_tear_0 : decode cX8_tear 0 = .ok (.iload_n 1, 1) := by decide +kernel
theorem dX8_tear_1 : decode cX8_tear 1 = .ok (.invokestatic 48, 3) := by decide +kernel
theorem dX8_tear_4 : decode cX8_tear 4 = .ok (.ifCond .eq 20, 3) := by decide +kernel
theorem dX8_tear_7 : decode cX8_tear 7 = .ok (.iload_n 2, 1) := by decide +kernel
theorem dX8_tear_8 : decode cX8_tear 8 = .ok (.iconst (-1), 1) := by decide +kernel
theorem dX8_tear_9 : decode cX8_tear 9 = .ok (.if_icmp .lt 15, 3) := by decide +kernel
theorem dX8_tear_12 : decode cX8_tear 12 = .ok (.iload_n 2, 1) := by decide +kernel
theorem dX8_tear_13 : decode cX8_tear 13 = .ok (.aload_n 0, 1) := by decide +kernel
theorem dX8_tear_14 : decode cX8_tear 14 = .ok (.getfield 12, 3) := by decide +kernel
theorem dX8_tear_17 : decode cX8_tear 17 = .ok (.iload_n 1, 1) := by decide +kernel
theorem dX8_tear_18 : decode cX8_tear 18 = .ok (.invokevirtual 58, 3) := by decide +kernel
theorem dX8_tear_21 : decode cX8_tear 21 = .ok (.if_icmp .le 5, 3) := by decide +kernel
theorem dX8_tear_24 : decode cX8_tear 24 = .ok (.iconst (-1), 1) := by decide +kernel
theorem dX8_tear_25 : decode cX8_tear 25 = .ok (.ireturn, 1) := by decide +kernel
theorem dX8_tear_26 : decode cX8_tear 26 = .ok (.aload_n 0, 1) := by decide +kernel
theorem dX8_tear_27 : decode cX8_tear 27 = .ok (.getfield 12, 3) := by decide +kernel
theorem dX8_tear_30 : decode cX8_tear 30 = .ok (.iload_n 1, 1) := by decide +kernel
theorem dX8_tear_31 : decode cX8_tear 31 = .ok (.invokevirtual 58, 3) := by decide +kernel
theorem dX8_tear_34 : decode cX8_tear 34 = .ok (.istore_n 3, 1) := by decide +kernel
theorem dX8_tear_35 : decode cX8_tear 35 = .ok (.aload_n 0, 1) := by decide +kernel
theorem dX8_tear_36 : decode cX8_tear 36 = .ok (.getfield 12, 3) := by decide +kernel
theorem dX8_tear_39 : decode cX8_tear 39 = .ok (.getfield 66, 3) := by decide +kernel
theorem dX8_tear_42 : decode cX8_tear 42 = .ok (.iload_n 1, 1) := by decide +kernel
theorem dX8_tear_43 : decode cX8_tear 43 = .ok (.iload_n 2, 1) := by decide +kernel
theorem dX8_tear_44 : decode cX8_tear 44 = .ok (.iastore, 1) := by decide +kernel
theorem dX8_tear_45 : decode cX8_tear 45 = .ok (.iload_n 3, 1) := by decide +kernel
theorem dX8_tear_46 : decode cX8_tear 46 = .ok (.ireturn, 1) := by decide +kernel
theorem dX8_thread_0 : decode cX8_thread 0 = .ok (.iload_n 1, 1) := by decide +kernel
theorem dX8_thread_1 : decode cX8_thread 1 = .ok (.invokestatic 139, 3) := by decide +kernel
theorem dX8_thread_4 : decode cX8_thread 4 = .ok (.ifCond .eq 13, 3) := by decide +kernel
theorem dX8_thread_7 : decode cX8_thread 7 = .ok (.iload_n 2, 1) := by decide +kernel
theorem dX8_thread_8 : decode cX8_thread 8 = .ok (.ifCond .lt 9, 3) := by decide +kernel
theorem dX8_thread_11 : decode cX8_thread 11 = .ok (.iload_n 2, 1) := by decide +kernel
theorem dX8_thread_12 : decode cX8_thread 12 = .ok (.bipush 7, 2) := by decide +kernel
theorem dX8_thread_14 : decode cX8_thread 14 = .ok (.if_icmp .le 5, 3) := by decide +kernel
theorem dX8_thread_17 : decode cX8_thread 17 = .ok (.iconst (-1), 1) := by decide +kernel
theorem dX8_thread_18 : decode cX8_thread 18 = .ok (.ireturn, 1) := by decide +kernel
theorem dX8_thread_19 : decode cX8_thread 19 = .ok (.aload_n 0, 1) := by decide +kernel
theorem dX8_thread_20 : decode cX8_thread 20 = .ok (.getfield 34, 3) := by decide +kernel
theorem dX8_thread_23 : decode cX8_thread 23 = .ok (.ifCond .ne 6, 3) := by decide +kernel
theorem dX8_thread_26 : decode cX8_thread 26 = .ok (.bipush (-2), 2) := by decide +kernel
theorem dX8_thread_28 : decode cX8_thread 28 = .ok (.ireturn, 1) := by decide +kernel
theorem dX8_thread_29 : decode cX8_thread 29 = .ok (.aload_n 0, 1) := by decide +kernel
theorem dX8_thread_30 : decode cX8_thread 30 = .ok (.iload_n 1, 1) := by decide +kernel
theorem dX8_thread_31 : decode cX8_thread 31 = .ok (.invokestatic 142, 3) := by decide +kernel
theorem dX8_thread_34 : decode cX8_thread 34 = .ok (.iload_n 2, 1) := by decide +kernel
theorem dX8_thread_35 : decode cX8_thread 35 = .ok (.invokevirtual 150, 3) := by decide +kernel
theorem dX8_thread_38 : decode cX8_thread 38 = .ok (.ireturn, 1) := by decide +kernel
theorem dX8_told_0 : decode cX8_told 0 = .ok (.iload_n 1, 1) := by decide +kernel
theorem dX8_told_1 : decode cX8_told 1 = .ok (.invokestatic 48, 3) := by decide +kernel
theorem dX8_told_4 : decode cX8_told 4 = .ok (.ifCond .ne 7, 3) := by decide +kernel
theorem dX8_told_7 : decode cX8_told 7 = .ok (.sipush (-1000), 3) := by decide +kernel
theorem dX8_told_10 : decode cX8_told 10 = .ok (.ireturn, 1) := by decide +kernel
theorem dX8_told_11 : decode cX8_told 11 = .ok (.iload_n 2, 1) := by decide +kernel
theorem dX8_told_12 : decode cX8_told 12 = .ok (.iconst (-1), 1) := by decide +kernel
theorem dX8_told_13 : decode cX8_told 13 = .ok (.if_icmp .ne 10, 3) := by decide +kernel
theorem dX8_told_16 : decode cX8_told 16 = .ok (.aload_n 0, 1) := by decide +kernel
theorem dX8_told_17 : decode cX8_told 17 = .ok (.iload_n 1, 1) := by decide +kernel
theorem dX8_told_18 : decode cX8_told 18 = .ok (.iload_n 3, 1) := by decide +kernel
theorem dX8_told_19 : decode cX8_told 19 = .ok (.invokevirtual 109, 3) := by decide +kernel
theorem dX8_told_22 : decode cX8_told 22 = .ok (.ireturn, 1) := by decide +kernel
theorem dX8_told_23 : decode cX8_told 23 = .ok (.aload_n 0, 1) := by decide +kernel
theorem dX8_told_24 : decode cX8_told 24 = .ok (.getfield 12, 3) := by decide +kernel
theorem dX8_told_27 : decode cX8_told 27 = .ok (.iload_n 1, 1) := by decide +kernel
theorem dX8_told_28 : decode cX8_told 28 = .ok (.iload_n 2, 1) := by decide +kernel
theorem dX8_told_29 : decode cX8_told 29 = .ok (.invokevirtual 73, 3) := by decide +kernel
theorem dX8_told_32 : decode cX8_told 32 = .ok (.istore 4, 2) := by decide +kernel
theorem dX8_told_34 : decode cX8_told 34 = .ok (.iload 4, 2) := by decide +kernel
theorem dX8_told_36 : decode cX8_told 36 = .ok (.ifCond .lt 12, 3) := by decide +kernel
theorem dX8_told_39 : decode cX8_told 39 = .ok (.iload_n 3, 1) := by decide +kernel
theorem dX8_told_40 : decode cX8_told 40 = .ok (.ifCond .lt 8, 3) := by decide +kernel
theorem dX8_told_43 : decode cX8_told 43 = .ok (.iload_n 3, 1) := by decide +kernel
theorem dX8_told_44 : decode cX8_told 44 = .ok (.iconst 4, 1) := by decide +kernel
theorem dX8_told_45 : decode cX8_told 45 = .ok (.if_icmp .le 7, 3) := by decide +kernel
theorem dX8_told_48 : decode cX8_told 48 = .ok (.sipush (-1000), 3) := by decide +kernel
theorem dX8_told_51 : decode cX8_told 51 = .ok (.ireturn, 1) := by decide +kernel
theorem dX8_told_52 : decode cX8_told 52 = .ok (.aload_n 0, 1) := by decide +kernel
theorem dX8_told_53 : decode cX8_told 53 = .ok (.getfield 12, 3) := by decide +kernel
theorem dX8_told_56 : decode cX8_told 56 = .ok (.getfield 77, 3) := by decide +kernel
theorem dX8_told_59 : decode cX8_told 59 = .ok (.iload 4, 2) := by decide +kernel
theorem dX8_told_61 : decode cX8_told 61 = .ok (.iload_n 3, 1) := by decide +kernel
theorem dX8_told_62 : decode cX8_told 62 = .ok (.iadd, 1) := by decide +kernel
theorem dX8_told_63 : decode cX8_told 63 = .ok (.iaload, 1) := by decide +kernel
theorem dX8_told_64 : decode cX8_told 64 = .ok (.ireturn, 1) := by decide +kernel
theorem dX8_toldOfRoutine_0 : decode cX8_toldOfRoutine 0 = .ok (.iload_n 2, 1) := by decide +kernel
theorem dX8_toldOfRoutine_1 : decode cX8_toldOfRoutine 1 = .ok (.ifCond .ne 30, 3) := by decide +kernel
theorem dX8_toldOfRoutine_4 : decode cX8_toldOfRoutine 4 = .ok (.aload_n 0, 1) := by decide +kernel
theorem dX8_toldOfRoutine_5 : decode cX8_toldOfRoutine 5 = .ok (.getfield 12, 3) := by decide +kernel
theorem dX8_toldOfRoutine_8 : decode cX8_toldOfRoutine 8 = .ok (.getfield 66, 3) := by decide +kernel
theorem dX8_toldOfRoutine_11 : decode cX8_toldOfRoutine 11 = .ok (.iload_n 1, 1) := by decide +kernel
theorem dX8_toldOfRoutine_12 : decode cX8_toldOfRoutine 12 = .ok (.iaload, 1) := by decide +kernel
theorem dX8_toldOfRoutine_13 : decode cX8_toldOfRoutine 13 = .ok (.ifCond .ge 8, 3) := by decide +kernel
theorem dX8_toldOfRoutine_16 : decode cX8_toldOfRoutine 16 = .ok (.bipush (-4), 2) := by decide +kernel
theorem dX8_toldOfRoutine_18 : decode cX8_toldOfRoutine 18 = .ok (.goto 12, 3) := by decide +kernel
theorem dX8_toldOfRoutine_21 : decode cX8_toldOfRoutine 21 = .ok (.aload_n 0, 1) := by decide +kernel
theorem dX8_toldOfRoutine_22 : decode cX8_toldOfRoutine 22 = .ok (.getfield 12, 3) := by decide +kernel
theorem dX8_toldOfRoutine_25 : decode cX8_toldOfRoutine 25 = .ok (.getfield 66, 3) := by decide +kernel
theorem dX8_toldOfRoutine_28 : decode cX8_toldOfRoutine 28 = .ok (.iload_n 1, 1) := by decide +kernel
theorem dX8_toldOfRoutine_29 : decode cX8_toldOfRoutine 29 = .ok (.iaload, 1) := by decide +kernel
theorem dX8_toldOfRoutine_30 : decode cX8_toldOfRoutine 30 = .ok (.ireturn, 1) := by decide +kernel
theorem dX8_toldOfRoutine_31 : decode cX8_toldOfRoutine 31 = .ok (.iload_n 2, 1) := by decide +kernel
theorem dX8_toldOfRoutine_32 : decode cX8_toldOfRoutine 32 = .ok (.iconst 1, 1) := by decide +kernel
theorem dX8_toldOfRoutine_33 : decode cX8_toldOfRoutine 33 = .ok (.if_icmp .ne 15, 3) := by decide +kernel
theorem dX8_toldOfRoutine_36 : decode cX8_toldOfRoutine 36 = .ok (.aload_n 0, 1) := by decide +kernel
theorem dX8_toldOfRoutine_37 : decode cX8_toldOfRoutine 37 = .ok (.getfield 12, 3) := by decide +kernel
theorem dX8_toldOfRoutine_40 : decode cX8_toldOfRoutine 40 = .ok (.getfield 70, 3) := by decide +kernel
theorem dX8_toldOfRoutine_43 : decode cX8_toldOfRoutine 43 = .ok (.iload_n 1, 1) := by decide +kernel
theorem dX8_toldOfRoutine_44 : decode cX8_toldOfRoutine 44 = .ok (.iaload, 1) := by decide +kernel
theorem dX8_toldOfRoutine_45 : decode cX8_toldOfRoutine 45 = .ok (.goto 6, 3) := by decide +kernel
theorem dX8_toldOfRoutine_48 : decode cX8_toldOfRoutine 48 = .ok (.sipush (-1000), 3) := by decide +kernel
theorem dX8_toldOfRoutine_51 : decode cX8_toldOfRoutine 51 = .ok (.ireturn, 1) := by decide +kernel
theorem dX8_toldOfThread_0 : decode cX8_toldOfThread 0 = .ok (.aload_n 0, 1) := by decide +kernel
theorem dX8_toldOfThread_1 : decode cX8_toldOfThread 1 = .ok (.getfield 19, 3) := by decide +kernel
theorem dX8_toldOfThread_4 : decode cX8_toldOfThread 4 = .ok (.getfield 131, 3) := by decide +kernel
theorem dX8_toldOfThread_7 : decode cX8_toldOfThread 7 = .ok (.astore_n 3, 1) := by decide +kernel
theorem dX8_toldOfThread_8 : decode cX8_toldOfThread 8 = .ok (.iload_n 2, 1) := by decide +kernel
theorem dX8_toldOfThread_9 : decode cX8_toldOfThread 9 = .ok (.tableswitch 100 0 6 #[43, 50, 57, 64, 71, 78, 88], 43) := by decide +kernel
theorem dX8_toldOfThread_52 : decode cX8_toldOfThread 52 = .ok (.aload_n 3, 1) := by decide +kernel
theorem dX8_toldOfThread_53 : decode cX8_toldOfThread 53 = .ok (.iload_n 1, 1) := by decide +kernel
theorem dX8_toldOfThread_54 : decode cX8_toldOfThread 54 = .ok (.bipush 10, 2) := by decide +kernel
theorem dX8_toldOfThread_56 : decode cX8_toldOfThread 56 = .ok (.iadd, 1) := by decide +kernel
theorem dX8_toldOfThread_57 : decode cX8_toldOfThread 57 = .ok (.iaload, 1) := by decide +kernel
theorem dX8_toldOfThread_58 : decode cX8_toldOfThread 58 = .ok (.ireturn, 1) := by decide +kernel
theorem dX8_toldOfThread_59 : decode cX8_toldOfThread 59 = .ok (.aload_n 3, 1) := by decide +kernel
theorem dX8_toldOfThread_60 : decode cX8_toldOfThread 60 = .ok (.iload_n 1, 1) := by decide +kernel
theorem dX8_toldOfThread_61 : decode cX8_toldOfThread 61 = .ok (.bipush 11, 2) := by decide +kernel
theorem dX8_toldOfThread_63 : decode cX8_toldOfThread 63 = .ok (.iadd, 1) := by decide +kernel
theorem dX8_toldOfThread_64 : decode cX8_toldOfThread 64 = .ok (.iaload, 1) := by decide +kernel
theorem dX8_toldOfThread_65 : decode cX8_toldOfThread 65 = .ok (.ireturn, 1) := by decide +kernel
theorem dX8_toldOfThread_66 : decode cX8_toldOfThread 66 = .ok (.aload_n 3, 1) := by decide +kernel
theorem dX8_toldOfThread_67 : decode cX8_toldOfThread 67 = .ok (.iload_n 1, 1) := by decide +kernel
theorem dX8_toldOfThread_68 : decode cX8_toldOfThread 68 = .ok (.bipush 9, 2) := by decide +kernel
theorem dX8_toldOfThread_70 : decode cX8_toldOfThread 70 = .ok (.iadd, 1) := by decide +kernel
theorem dX8_toldOfThread_71 : decode cX8_toldOfThread 71 = .ok (.iaload, 1) := by decide +kernel
theorem dX8_toldOfThread_72 : decode cX8_toldOfThread 72 = .ok (.ireturn, 1) := by decide +kernel
theorem dX8_toldOfThread_73 : decode cX8_toldOfThread 73 = .ok (.aload_n 3, 1) := by decide +kernel
theorem dX8_toldOfThread_74 : decode cX8_toldOfThread 74 = .ok (.iload_n 1, 1) := by decide +kernel
theorem dX8_toldOfThread_75 : decode cX8_toldOfThread 75 = .ok (.bipush 12, 2) := by decide +kernel
theorem dX8_toldOfThread_77 : decode cX8_toldOfThread 77 = .ok (.iadd, 1) := by decide +kernel
theorem dX8_toldOfThread_78 : decode cX8_toldOfThread 78 = .ok (.iaload, 1) := by decide +kernel
theorem dX8_toldOfThread_79 : decode cX8_toldOfThread 79 = .ok (.ireturn, 1) := by decide +kernel
theorem dX8_toldOfThread_80 : decode cX8_toldOfThread 80 = .ok (.aload_n 3, 1) := by decide +kernel
theorem dX8_toldOfThread_81 : decode cX8_toldOfThread 81 = .ok (.iload_n 1, 1) := by decide +kernel
theorem dX8_toldOfThread_82 : decode cX8_toldOfThread 82 = .ok (.bipush 13, 2) := by decide +kernel
theorem dX8_toldOfThread_84 : decode cX8_toldOfThread 84 = .ok (.iadd, 1) := by decide +kernel
theorem dX8_toldOfThread_85 : decode cX8_toldOfThread 85 = .ok (.iaload, 1) := by decide +kernel
theorem dX8_toldOfThread_86 : decode cX8_toldOfThread 86 = .ok (.ireturn, 1) := by decide +kernel
theorem dX8_toldOfThread_87 : decode cX8_toldOfThread 87 = .ok (.aload_n 3, 1) := by decide +kernel
theorem dX8_toldOfThread_88 : decode cX8_toldOfThread 88 = .ok (.iload_n 1, 1) := by decide +kernel
theorem dX8_toldOfThread_89 : decode cX8_toldOfThread 89 = .ok (.bipush 6, 2) := by decide +kernel
theorem dX8_toldOfThread_91 : decode cX8_toldOfThread 91 = .ok (.iadd, 1) := by decide +kernel
theorem dX8_toldOfThread_92 : decode cX8_toldOfThread 92 = .ok (.iaload, 1) := by decide +kernel
theorem dX8_toldOfThread_93 : decode cX8_toldOfThread 93 = .ok (.invokestatic 219, 3) := by decide +kernel
theorem dX8_toldOfThread_96 : decode cX8_toldOfThread 96 = .ok (.ireturn, 1) := by decide +kernel
theorem dX8_toldOfThread_97 : decode cX8_toldOfThread 97 = .ok (.aload_n 3, 1) := by decide +kernel
theorem dX8_toldOfThread_98 : decode cX8_toldOfThread 98 = .ok (.iload_n 1, 1) := by decide +kernel
theorem dX8_toldOfThread_99 : decode cX8_toldOfThread 99 = .ok (.bipush 6, 2) := by decide +kernel
theorem dX8_toldOfThread_101 : decode cX8_toldOfThread 101 = .ok (.iadd, 1) := by decide +kernel
theorem dX8_toldOfThread_102 : decode cX8_toldOfThread 102 = .ok (.iconst 1, 1) := by decide +kernel
theorem dX8_toldOfThread_103 : decode cX8_toldOfThread 103 = .ok (.iadd, 1) := by decide +kernel
theorem dX8_toldOfThread_104 : decode cX8_toldOfThread 104 = .ok (.iaload, 1) := by decide +kernel
theorem dX8_toldOfThread_105 : decode cX8_toldOfThread 105 = .ok (.invokestatic 219, 3) := by decide +kernel
theorem dX8_toldOfThread_108 : decode cX8_toldOfThread 108 = .ok (.ireturn, 1) := by decide +kernel
theorem dX8_toldOfThread_109 : decode cX8_toldOfThread 109 = .ok (.aload_n 3, 1) := by decide +kernel
theorem dX8_toldOfThread_110 : decode cX8_toldOfThread 110 = .ok (.iload_n 1, 1) := by decide +kernel
theorem dX8_toldOfThread_111 : decode cX8_toldOfThread 111 = .ok (.bipush 8, 2) := by decide +kernel
theorem dX8_toldOfThread_113 : decode cX8_toldOfThread 113 = .ok (.iadd, 1) := by decide +kernel
theorem dX8_toldOfThread_114 : decode cX8_toldOfThread 114 = .ok (.iaload, 1) := by decide +kernel
theorem dX8_toldOfThread_115 : decode cX8_toldOfThread 115 = .ok (.invokestatic 219, 3) := by decide +kernel
theorem dX8_toldOfThread_118 : decode cX8_toldOfThread 118 = .ok (.ireturn, 1) := by decide +kernel
theorem dX8_walk_0 : decode cX8_walk 0 = .ok (.iload_n 2, 1) := by decide +kernel
theorem dX8_walk_1 : decode cX8_walk 1 = .ok (.ifCond .ge 5, 3) := by decide +kernel
theorem dX8_walk_4 : decode cX8_walk 4 = .ok (.iconst (-1), 1) := by decide +kernel
theorem dX8_walk_5 : decode cX8_walk 5 = .ok (.ireturn, 1) := by decide +kernel
theorem dX8_walk_6 : decode cX8_walk 6 = .ok (.aload_n 0, 1) := by decide +kernel
theorem dX8_walk_7 : decode cX8_walk 7 = .ok (.getfield 30, 3) := by decide +kernel
theorem dX8_walk_10 : decode cX8_walk 10 = .ok (.ifnull 14, 3) := by decide +kernel
theorem dX8_walk_13 : decode cX8_walk 13 = .ok (.aload_n 0, 1) := by decide +kernel
theorem dX8_walk_14 : decode cX8_walk 14 = .ok (.getfield 30, 3) := by decide +kernel
theorem dX8_walk_17 : decode cX8_walk 17 = .ok (.iload_n 1, 1) := by decide +kernel
theorem dX8_walk_18 : decode cX8_walk 18 = .ok (.invokevirtual 194, 3) := by decide +kernel
theorem dX8_walk_21 : decode cX8_walk 21 = .ok (.ifCond .ne 6, 3) := by decide +kernel
theorem dX8_walk_24 : decode cX8_walk 24 = .ok (.bipush (-2), 2) := by decide +kernel
theorem dX8_walk_26 : decode cX8_walk 26 = .ok (.ireturn, 1) := by decide +kernel
theorem dX8_walk_27 : decode cX8_walk 27 = .ok (.aload_n 0, 1) := by decide +kernel
theorem dX8_walk_28 : decode cX8_walk 28 = .ok (.getfield 30, 3) := by decide +kernel
theorem dX8_walk_31 : decode cX8_walk 31 = .ok (.iload_n 1, 1) := by decide +kernel
theorem dX8_walk_32 : decode cX8_walk 32 = .ok (.iload_n 2, 1) := by decide +kernel
theorem dX8_walk_33 : decode cX8_walk 33 = .ok (.invokevirtual 197, 3) := by decide +kernel
theorem dX8_walk_36 : decode cX8_walk 36 = .ok (.ireturn, 1) := by decide +kernel
theorem dX8_word_0 : decode cX8_word 0 = .ok (.iload_n 1, 1) := by decide +kernel
theorem dX8_word_1 : decode cX8_word 1 = .ok (.ifCond .lt 18, 3) := by decide +kernel
theorem dX8_word_4 : decode cX8_word 4 = .ok (.iload_n 1, 1) := by decide +kernel
theorem dX8_word_5 : decode cX8_word 5 = .ok (.bipush 20, 2) := by decide +kernel
theorem dX8_word_7 : decode cX8_word 7 = .ok (.if_icmp .ge 12, 3) := by decide +kernel
theorem dX8_word_10 : decode cX8_word 10 = .ok (.iload_n 2, 1) := by decide +kernel
theorem dX8_word_11 : decode cX8_word 11 = .ok (.ifCond .lt 8, 3) := by decide +kernel
theorem dX8_word_14 : decode cX8_word 14 = .ok (.iload_n 2, 1) := by decide +kernel
theorem dX8_word_15 : decode cX8_word 15 = .ok (.iconst 3, 1) := by decide +kernel
theorem dX8_word_16 : decode cX8_word 16 = .ok (.if_icmp .le 7, 3) := by decide +kernel
theorem dX8_word_19 : decode cX8_word 19 = .ok (.sipush (-1000), 3) := by decide +kernel
theorem dX8_word_22 : decode cX8_word 22 = .ok (.ireturn, 1) := by decide +kernel
theorem dX8_word_23 : decode cX8_word 23 = .ok (.aload_n 0, 1) := by decide +kernel
theorem dX8_word_24 : decode cX8_word 24 = .ok (.getfield 34, 3) := by decide +kernel
theorem dX8_word_27 : decode cX8_word 27 = .ok (.ifCond .ne 7, 3) := by decide +kernel
theorem dX8_word_30 : decode cX8_word 30 = .ok (.sipush (-2000), 3) := by decide +kernel
theorem dX8_word_33 : decode cX8_word 33 = .ok (.ireturn, 1) := by decide +kernel
theorem dX8_word_34 : decode cX8_word 34 = .ok (.aload_n 0, 1) := by decide +kernel
theorem dX8_word_35 : decode cX8_word 35 = .ok (.getfield 19, 3) := by decide +kernel
theorem dX8_word_38 : decode cX8_word 38 = .ok (.getfield 131, 3) := by decide +kernel
theorem dX8_word_41 : decode cX8_word 41 = .ok (.iload_n 1, 1) := by decide +kernel
theorem dX8_word_42 : decode cX8_word 42 = .ok (.iaload, 1) := by decide +kernel
theorem dX8_word_43 : decode cX8_word 43 = .ok (.iload_n 2, 1) := by decide +kernel
theorem dX8_word_44 : decode cX8_word 44 = .ok (.invokestatic 134, 3) := by decide +kernel
theorem dX8_word_47 : decode cX8_word 47 = .ok (.ireturn, 1) := by decide +kernel
