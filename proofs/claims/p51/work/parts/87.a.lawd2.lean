theorem dL_type_0 : decode cL_type 0 = .ok (.iconst 0, 1) := by decide +kernel
theorem dL_type_1 : decode cL_type 1 = .ok (.istore_n 2, 1) := by decide +kernel
theorem dL_type_2 : decode cL_type 2 = .ok (.iload_n 2, 1) := by decide +kernel
theorem dL_type_3 : decode cL_type 3 = .ok (.aload_n 1, 1) := by decide +kernel
theorem dL_type_4 : decode cL_type 4 = .ok (.invokevirtual 45, 3) := by decide +kernel
theorem dL_type_7 : decode cL_type 7 = .ok (.if_icmp .ge 61, 3) := by decide +kernel
theorem dL_type_10 : decode cL_type 10 = .ok (.lconst 0, 1) := by decide +kernel
theorem dL_type_11 : decode cL_type 11 = .ok (.lstore_n 3, 1) := by decide +kernel
theorem dL_type_12 : decode cL_type 12 = .ok (.iload_n 2, 1) := by decide +kernel
theorem dL_type_13 : decode cL_type 13 = .ok (.istore 5, 2) := by decide +kernel
theorem dL_type_15 : decode cL_type 15 = .ok (.iload 5, 2) := by decide +kernel
theorem dL_type_17 : decode cL_type 17 = .ok (.aload_n 1, 1) := by decide +kernel
theorem dL_type_18 : decode cL_type 18 = .ok (.invokevirtual 45, 3) := by decide +kernel
theorem dL_type_21 : decode cL_type 21 = .ok (.if_icmp .ge 31, 3) := by decide +kernel
theorem dL_type_24 : decode cL_type 24 = .ok (.iload 5, 2) := by decide +kernel
theorem dL_type_26 : decode cL_type 26 = .ok (.iload_n 2, 1) := by decide +kernel
theorem dL_type_27 : decode cL_type 27 = .ok (.bipush 8, 2) := by decide +kernel
theorem dL_type_29 : decode cL_type 29 = .ok (.iadd, 1) := by decide +kernel
theorem dL_type_30 : decode cL_type 30 = .ok (.if_icmp .ge 22, 3) := by decide +kernel
theorem dL_type_33 : decode cL_type 33 = .ok (.lload_n 3, 1) := by decide +kernel
theorem dL_type_34 : decode cL_type 34 = .ok (.bipush 8, 2) := by decide +kernel
theorem dL_type_36 : decode cL_type 36 = .ok (.lshl, 1) := by decide +kernel
theorem dL_type_37 : decode cL_type 37 = .ok (.aload_n 1, 1) := by decide +kernel
theorem dL_type_38 : decode cL_type 38 = .ok (.iload 5, 2) := by decide +kernel
theorem dL_type_40 : decode cL_type 40 = .ok (.invokevirtual 51, 3) := by decide +kernel
theorem dL_type_43 : decode cL_type 43 = .ok (.i2l, 1) := by decide +kernel
theorem dL_type_44 : decode cL_type 44 = .ok (.lor, 1) := by decide +kernel
theorem dL_type_45 : decode cL_type 45 = .ok (.lstore_n 3, 1) := by decide +kernel
theorem dL_type_46 : decode cL_type 46 = .ok (.iinc 5 1, 3) := by decide +kernel
theorem dL_type_49 : decode cL_type 49 = .ok (.goto (-34), 3) := by decide +kernel
theorem dL_type_52 : decode cL_type 52 = .ok (.aload_n 0, 1) := by decide +kernel
theorem dL_type_53 : decode cL_type 53 = .ok (.getfield 10, 3) := by decide +kernel
theorem dL_type_56 : decode cL_type 56 = .ok (.lload_n 3, 1) := by decide +kernel
theorem dL_type_57 : decode cL_type 57 = .ok (.invokevirtual 55, 3) := by decide +kernel
theorem dL_type_60 : decode cL_type 60 = .ok (.istore 5, 2) := by decide +kernel
theorem dL_type_62 : decode cL_type 62 = .ok (.iinc 2 8, 3) := by decide +kernel
theorem dL_type_65 : decode cL_type 65 = .ok (.goto (-63), 3) := by decide +kernel
theorem dL_type_68 : decode cL_type 68 = .ok (.return_, 1) := by decide +kernel
theorem dL_areMade_0 : decode cL_areMade 0 = .ok (.aload_n 0, 1) := by decide +kernel
theorem dL_areMade_1 : decode cL_areMade 1 = .ok (.iconst 1, 1) := by decide +kernel
theorem dL_areMade_2 : decode cL_areMade 2 = .ok (.aload_n 0, 1) := by decide +kernel
theorem dL_areMade_3 : decode cL_areMade 3 = .ok (.getfield 34, 3) := by decide +kernel
theorem dL_areMade_6 : decode cL_areMade 6 = .ok (.iconst 4, 1) := by decide +kernel
theorem dL_areMade_7 : decode cL_areMade 7 = .ok (.invokevirtual 59, 3) := by decide +kernel
theorem dL_areMade_10 : decode cL_areMade 10 = .ok (.iadd, 1) := by decide +kernel
theorem dL_areMade_11 : decode cL_areMade 11 = .ok (.putfield 62, 3) := by decide +kernel
theorem dL_areMade_14 : decode cL_areMade 14 = .ok (.iconst 0, 1) := by decide +kernel
theorem dL_areMade_15 : decode cL_areMade 15 = .ok (.istore_n 1, 1) := by decide +kernel
theorem dL_areMade_16 : decode cL_areMade 16 = .ok (.iload_n 1, 1) := by decide +kernel
theorem dL_areMade_17 : decode cL_areMade 17 = .ok (.aload_n 0, 1) := by decide +kernel
theorem dL_areMade_18 : decode cL_areMade 18 = .ok (.getfield 62, 3) := by decide +kernel
theorem dL_areMade_21 : decode cL_areMade 21 = .ok (.if_icmp .ge 450, 3) := by decide +kernel
theorem dL_areMade_24 : decode cL_areMade 24 = .ok (.aload_n 0, 1) := by decide +kernel
theorem dL_areMade_25 : decode cL_areMade 25 = .ok (.getfield 16, 3) := by decide +kernel
theorem dL_areMade_28 : decode cL_areMade 28 = .ok (.iload_n 1, 1) := by decide +kernel
theorem dL_areMade_29 : decode cL_areMade 29 = .ok (.iconst 1, 1) := by decide +kernel
theorem dL_areMade_30 : decode cL_areMade 30 = .ok (.aload_n 0, 1) := by decide +kernel
theorem dL_areMade_31 : decode cL_areMade 31 = .ok (.getfield 34, 3) := by decide +kernel
theorem dL_areMade_34 : decode cL_areMade 34 = .ok (.bipush 30, 2) := by decide +kernel
theorem dL_areMade_36 : decode cL_areMade 36 = .ok (.invokevirtual 59, 3) := by decide +kernel
theorem dL_areMade_39 : decode cL_areMade 39 = .ok (.iadd, 1) := by decide +kernel
theorem dL_areMade_40 : decode cL_areMade 40 = .ok (.iastore, 1) := by decide +kernel
theorem dL_areMade_41 : decode cL_areMade 41 = .ok (.aload_n 0, 1) := by decide +kernel
theorem dL_areMade_42 : decode cL_areMade 42 = .ok (.getfield 20, 3) := by decide +kernel
theorem dL_areMade_45 : decode cL_areMade 45 = .ok (.iload_n 1, 1) := by decide +kernel
theorem dL_areMade_46 : decode cL_areMade 46 = .ok (.aload_n 0, 1) := by decide +kernel
theorem dL_areMade_47 : decode cL_areMade 47 = .ok (.getfield 16, 3) := by decide +kernel
theorem dL_areMade_50 : decode cL_areMade 50 = .ok (.iload_n 1, 1) := by decide +kernel
theorem dL_areMade_51 : decode cL_areMade 51 = .ok (.iaload, 1) := by decide +kernel
theorem dL_areMade_52 : decode cL_areMade 52 = .ok (.aload_n 0, 1) := by decide +kernel
theorem dL_areMade_53 : decode cL_areMade 53 = .ok (.getfield 34, 3) := by decide +kernel
theorem dL_areMade_56 : decode cL_areMade 56 = .ok (.bipush 40, 2) := by decide +kernel
theorem dL_areMade_58 : decode cL_areMade 58 = .ok (.invokevirtual 59, 3) := by decide +kernel
theorem dL_areMade_61 : decode cL_areMade 61 = .ok (.iadd, 1) := by decide +kernel
theorem dL_areMade_62 : decode cL_areMade 62 = .ok (.iastore, 1) := by decide +kernel
theorem dL_areMade_63 : decode cL_areMade 63 = .ok (.aload_n 0, 1) := by decide +kernel
theorem dL_areMade_64 : decode cL_areMade 64 = .ok (.getfield 26, 3) := by decide +kernel
theorem dL_areMade_67 : decode cL_areMade 67 = .ok (.iload_n 1, 1) := by decide +kernel
theorem dL_areMade_68 : decode cL_areMade 68 = .ok (.aload_n 0, 1) := by decide +kernel
theorem dL_areMade_69 : decode cL_areMade 69 = .ok (.getfield 34, 3) := by decide +kernel
theorem dL_areMade_72 : decode cL_areMade 72 = .ok (.bipush 16, 2) := by decide +kernel
theorem dL_areMade_74 : decode cL_areMade 74 = .ok (.invokevirtual 59, 3) := by decide +kernel
theorem dL_areMade_77 : decode cL_areMade 77 = .ok (.iastore, 1) := by decide +kernel
theorem dL_areMade_78 : decode cL_areMade 78 = .ok (.aload_n 0, 1) := by decide +kernel
theorem dL_areMade_79 : decode cL_areMade 79 = .ok (.getfield 23, 3) := by decide +kernel
theorem dL_areMade_82 : decode cL_areMade 82 = .ok (.iload_n 1, 1) := by decide +kernel
theorem dL_areMade_83 : decode cL_areMade 83 = .ok (.iconst 5, 1) := by decide +kernel
theorem dL_areMade_84 : decode cL_areMade 84 = .ok (.aload_n 0, 1) := by decide +kernel
theorem dL_areMade_85 : decode cL_areMade 85 = .ok (.getfield 34, 3) := by decide +kernel
theorem dL_areMade_88 : decode cL_areMade 88 = .ok (.bipush 40, 2) := by decide +kernel
theorem dL_areMade_90 : decode cL_areMade 90 = .ok (.invokevirtual 59, 3) := by decide +kernel
theorem dL_areMade_93 : decode cL_areMade 93 = .ok (.iadd, 1) := by decide +kernel
theorem dL_areMade_94 : decode cL_areMade 94 = .ok (.iastore, 1) := by decide +kernel
theorem dL_areMade_95 : decode cL_areMade 95 = .ok (.aload_n 0, 1) := by decide +kernel
theorem dL_areMade_96 : decode cL_areMade 96 = .ok (.getfield 10, 3) := by decide +kernel
theorem dL_areMade_99 : decode cL_areMade 99 = .ok (.bipush 50, 2) := by decide +kernel
theorem dL_areMade_101 : decode cL_areMade 101 = .ok (.aload_n 0, 1) := by decide +kernel
theorem dL_areMade_102 : decode cL_areMade 102 = .ok (.getfield 34, 3) := by decide +kernel
theorem dL_areMade_105 : decode cL_areMade 105 = .ok (.bipush 60, 2) := by decide +kernel
theorem dL_areMade_107 : decode cL_areMade 107 = .ok (.invokevirtual 59, 3) := by decide +kernel
theorem dL_areMade_110 : decode cL_areMade 110 = .ok (.iadd, 1) := by decide +kernel
theorem dL_areMade_111 : decode cL_areMade 111 = .ok (.aload_n 0, 1) := by decide +kernel
theorem dL_areMade_112 : decode cL_areMade 112 = .ok (.getfield 16, 3) := by decide +kernel
theorem dL_areMade_115 : decode cL_areMade 115 = .ok (.iload_n 1, 1) := by decide +kernel
theorem dL_areMade_116 : decode cL_areMade 116 = .ok (.iaload, 1) := by decide +kernel
theorem dL_areMade_117 : decode cL_areMade 117 = .ok (.aload_n 0, 1) := by decide +kernel
theorem dL_areMade_118 : decode cL_areMade 118 = .ok (.getfield 20, 3) := by decide +kernel
theorem dL_areMade_121 : decode cL_areMade 121 = .ok (.iload_n 1, 1) := by decide +kernel
theorem dL_areMade_122 : decode cL_areMade 122 = .ok (.iaload, 1) := by decide +kernel
theorem dL_areMade_123 : decode cL_areMade 123 = .ok (.bipush 100, 2) := by decide +kernel
theorem dL_areMade_125 : decode cL_areMade 125 = .ok (.aload_n 0, 1) := by decide +kernel
theorem dL_areMade_126 : decode cL_areMade 126 = .ok (.getfield 26, 3) := by decide +kernel
theorem dL_areMade_129 : decode cL_areMade 129 = .ok (.iload_n 1, 1) := by decide +kernel
theorem dL_areMade_130 : decode cL_areMade 130 = .ok (.iaload, 1) := by decide +kernel
theorem dL_areMade_131 : decode cL_areMade 131 = .ok (.invokevirtual 66, 3) := by decide +kernel
theorem dL_areMade_134 : decode cL_areMade 134 = .ok (.iload_n 1, 1) := by decide +kernel
theorem dL_areMade_135 : decode cL_areMade 135 = .ok (.if_icmp .ne 22, 3) := by decide +kernel
theorem dL_areMade_138 : decode cL_areMade 138 = .ok (.aload_n 0, 1) := by decide +kernel
theorem dL_areMade_139 : decode cL_areMade 139 = .ok (.getfield 10, 3) := by decide +kernel
theorem dL_areMade_142 : decode cL_areMade 142 = .ok (.iload_n 1, 1) := by decide +kernel
theorem dL_areMade_143 : decode cL_areMade 143 = .ok (.aload_n 0, 1) := by decide +kernel
theorem dL_areMade_144 : decode cL_areMade 144 = .ok (.getfield 23, 3) := by decide +kernel
theorem dL_areMade_147 : decode cL_areMade 147 = .ok (.iload_n 1, 1) := by decide +kernel
theorem dL_areMade_148 : decode cL_areMade 148 = .ok (.iaload, 1) := by decide +kernel
theorem dL_areMade_149 : decode cL_areMade 149 = .ok (.invokevirtual 70, 3) := by decide +kernel
theorem dL_areMade_152 : decode cL_areMade 152 = .ok (.bipush 20, 2) := by decide +kernel
theorem dL_areMade_154 : decode cL_areMade 154 = .ok (.if_icmp .eq 5, 3) := by decide +kernel
theorem dL_areMade_157 : decode cL_areMade 157 = .ok (.iconst 0, 1) := by decide +kernel
theorem dL_areMade_158 : decode cL_areMade 158 = .ok (.ireturn, 1) := by decide +kernel
theorem dL_areMade_159 : decode cL_areMade 159 = .ok (.bipush 8, 2) := by decide +kernel
theorem dL_areMade_161 : decode cL_areMade 161 = .ok (.newarray .int, 2) := by decide +kernel
theorem dL_areMade_163 : decode cL_areMade 163 = .ok (.astore_n 2, 1) := by decide +kernel
theorem dL_areMade_164 : decode cL_areMade 164 = .ok (.iconst 0, 1) := by decide +kernel
theorem dL_areMade_165 : decode cL_areMade 165 = .ok (.istore_n 3, 1) := by decide +kernel
theorem dL_areMade_166 : decode cL_areMade 166 = .ok (.new 74, 3) := by decide +kernel
theorem dL_areMade_169 : decode cL_areMade 169 = .ok (.dup, 1) := by decide +kernel
theorem dL_areMade_170 : decode cL_areMade 170 = .ok (.invokespecial 76, 3) := by decide +kernel
theorem dL_areMade_173 : decode cL_areMade 173 = .ok (.astore 4, 2) := by decide +kernel
theorem dL_areMade_175 : decode cL_areMade 175 = .ok (.iconst 0, 1) := by decide +kernel
theorem dL_areMade_176 : decode cL_areMade 176 = .ok (.istore 5, 2) := by decide +kernel
theorem dL_areMade_178 : decode cL_areMade 178 = .ok (.iload 5, 2) := by decide +kernel
theorem dL_areMade_180 : decode cL_areMade 180 = .ok (.bipush 8, 2) := by decide +kernel
theorem dL_areMade_182 : decode cL_areMade 182 = .ok (.if_icmp .ge 149, 3) := by decide +kernel
theorem dL_areMade_185 : decode cL_areMade 185 = .ok (.aload_n 2, 1) := by decide +kernel
theorem dL_areMade_186 : decode cL_areMade 186 = .ok (.iload 5, 2) := by decide +kernel
theorem dL_areMade_188 : decode cL_areMade 188 = .ok (.aload_n 0, 1) := by decide +kernel
theorem dL_areMade_189 : decode cL_areMade 189 = .ok (.getfield 34, 3) := by decide +kernel
theorem dL_areMade_192 : decode cL_areMade 192 = .ok (.iconst 3, 1) := by decide +kernel
theorem dL_areMade_193 : decode cL_areMade 193 = .ok (.invokevirtual 59, 3) := by decide +kernel
theorem dL_areMade_196 : decode cL_areMade 196 = .ok (.ifCond .ne 7, 3) := by decide +kernel
theorem dL_areMade_199 : decode cL_areMade 199 = .ok (.iconst 0, 1) := by decide +kernel
theorem dL_areMade_200 : decode cL_areMade 200 = .ok (.goto 14, 3) := by decide +kernel
theorem dL_areMade_203 : decode cL_areMade 203 = .ok (.iconst 1, 1) := by decide +kernel
theorem dL_areMade_204 : decode cL_areMade 204 = .ok (.aload_n 0, 1) := by decide +kernel
theorem dL_areMade_205 : decode cL_areMade 205 = .ok (.getfield 34, 3) := by decide +kernel
theorem dL_areMade_208 : decode cL_areMade 208 = .ok (.bipush 60, 2) := by decide +kernel
theorem dL_areMade_210 : decode cL_areMade 210 = .ok (.invokevirtual 59, 3) := by decide +kernel
theorem dL_areMade_213 : decode cL_areMade 213 = .ok (.iadd, 1) := by decide +kernel
theorem dL_areMade_214 : decode cL_areMade 214 = .ok (.iastore, 1) := by decide +kernel
theorem dL_areMade_215 : decode cL_areMade 215 = .ok (.iload 5, 2) := by decide +kernel
theorem dL_areMade_217 : decode cL_areMade 217 = .ok (.iconst 4, 1) := by decide +kernel
theorem dL_areMade_218 : decode cL_areMade 218 = .ok (.if_icmp .ne 18, 3) := by decide +kernel
theorem dL_areMade_221 : decode cL_areMade 221 = .ok (.aload_n 2, 1) := by decide +kernel
theorem dL_areMade_222 : decode cL_areMade 222 = .ok (.iload 5, 2) := by decide +kernel
theorem dL_areMade_224 : decode cL_areMade 224 = .ok (.iconst 1, 1) := by decide +kernel
theorem dL_areMade_225 : decode cL_areMade 225 = .ok (.aload_n 0, 1) := by decide +kernel
theorem dL_areMade_226 : decode cL_areMade 226 = .ok (.getfield 34, 3) := by decide +kernel
theorem dL_areMade_229 : decode cL_areMade 229 = .ok (.bipush 90, 2) := by decide +kernel
theorem dL_areMade_231 : decode cL_areMade 231 = .ok (.invokevirtual 59, 3) := by decide +kernel
theorem dL_areMade_234 : decode cL_areMade 234 = .ok (.iadd, 1) := by decide +kernel
theorem dL_areMade_235 : decode cL_areMade 235 = .ok (.iastore, 1) := by decide +kernel
theorem dL_areMade_236 : decode cL_areMade 236 = .ok (.iload 5, 2) := by decide +kernel
theorem dL_areMade_238 : decode cL_areMade 238 = .ok (.bipush 7, 2) := by decide +kernel
theorem dL_areMade_240 : decode cL_areMade 240 = .ok (.if_icmp .ne 33, 3) := by decide +kernel
theorem dL_areMade_243 : decode cL_areMade 243 = .ok (.aload_n 2, 1) := by decide +kernel
theorem dL_areMade_244 : decode cL_areMade 244 = .ok (.iload 5, 2) := by decide +kernel
theorem dL_areMade_246 : decode cL_areMade 246 = .ok (.aload_n 0, 1) := by decide +kernel
theorem dL_areMade_247 : decode cL_areMade 247 = .ok (.getfield 34, 3) := by decide +kernel
theorem dL_areMade_250 : decode cL_areMade 250 = .ok (.bipush 12, 2) := by decide +kernel
theorem dL_areMade_252 : decode cL_areMade 252 = .ok (.invokevirtual 59, 3) := by decide +kernel
theorem dL_areMade_255 : decode cL_areMade 255 = .ok (.ifCond .ne 16, 3) := by decide +kernel
theorem dL_areMade_258 : decode cL_areMade 258 = .ok (.iconst 1, 1) := by decide +kernel
theorem dL_areMade_259 : decode cL_areMade 259 = .ok (.aload_n 0, 1) := by decide +kernel
theorem dL_areMade_260 : decode cL_areMade 260 = .ok (.getfield 34, 3) := by decide +kernel
theorem dL_areMade_263 : decode cL_areMade 263 = .ok (.iconst 5, 1) := by decide +kernel
theorem dL_areMade_264 : decode cL_areMade 264 = .ok (.invokevirtual 59, 3) := by decide +kernel
theorem dL_areMade_267 : decode cL_areMade 267 = .ok (.iadd, 1) := by decide +kernel
theorem dL_areMade_268 : decode cL_areMade 268 = .ok (.goto 4, 3) := by decide +kernel
theorem dL_areMade_271 : decode cL_areMade 271 = .ok (.iconst 0, 1) := by decide +kernel
theorem dL_areMade_272 : decode cL_areMade 272 = .ok (.iastore, 1) := by decide +kernel
theorem dL_areMade_273 : decode cL_areMade 273 = .ok (.iload_n 3, 1) := by decide +kernel
theorem dL_areMade_274 : decode cL_areMade 274 = .ok (.aload_n 2, 1) := by decide +kernel
theorem dL_areMade_275 : decode cL_areMade 275 = .ok (.iload 5, 2) := by decide +kernel
theorem dL_areMade_277 : decode cL_areMade 277 = .ok (.iaload, 1) := by decide +kernel
theorem dL_areMade_278 : decode cL_areMade 278 = .ok (.iadd, 1) := by decide +kernel
theorem dL_areMade_279 : decode cL_areMade 279 = .ok (.istore_n 3, 1) := by decide +kernel
theorem dL_areMade_280 : decode cL_areMade 280 = .ok (.aload_n 2, 1) := by decide +kernel
theorem dL_areMade_281 : decode cL_areMade 281 = .ok (.iload 5, 2) := by decide +kernel
theorem dL_areMade_283 : decode cL_areMade 283 = .ok (.iaload, 1) := by decide +kernel
theorem dL_areMade_284 : decode cL_areMade 284 = .ok (.ifCond .le 41, 3) := by decide +kernel
theorem dL_areMade_287 : decode cL_areMade 287 = .ok (.aload 4, 2) := by decide +kernel
theorem dL_areMade_289 : decode cL_areMade 289 = .ok (.aload 4, 2) := by decide +kernel
theorem dL_areMade_291 : decode cL_areMade 291 = .ok (.invokevirtual 77, 3) := by decide +kernel
theorem dL_areMade_294 : decode cL_areMade 294 = .ok (.ifCond .ne 8, 3) := by decide +kernel
theorem dL_areMade_297 : decode cL_areMade 297 = .ok (.ldc 78, 2) := by decide +kernel
theorem dL_areMade_299 : decode cL_areMade 299 = .ok (.goto 5, 3) := by decide +kernel
theorem dL_areMade_302 : decode cL_areMade 302 = .ok (.ldc 80, 2) := by decide +kernel
theorem dL_areMade_304 : decode cL_areMade 304 = .ok (.invokevirtual 82, 3) := by decide +kernel
theorem dL_areMade_307 : decode cL_areMade 307 = .ok (.iload 5, 2) := by decide +kernel
theorem dL_areMade_309 : decode cL_areMade 309 = .ok (.invokevirtual 86, 3) := by decide +kernel
theorem dL_areMade_312 : decode cL_areMade 312 = .ok (.bipush 58, 2) := by decide +kernel
theorem dL_areMade_314 : decode cL_areMade 314 = .ok (.invokevirtual 89, 3) := by decide +kernel
theorem dL_areMade_317 : decode cL_areMade 317 = .ok (.aload_n 2, 1) := by decide +kernel
theorem dL_areMade_318 : decode cL_areMade 318 = .ok (.iload 5, 2) := by decide +kernel
theorem dL_areMade_320 : decode cL_areMade 320 = .ok (.iaload, 1) := by decide +kernel
theorem dL_areMade_321 : decode cL_areMade 321 = .ok (.invokevirtual 86, 3) := by decide +kernel
theorem dL_areMade_324 : decode cL_areMade 324 = .ok (.pop, 1) := by decide +kernel
theorem dL_areMade_325 : decode cL_areMade 325 = .ok (.iinc 5 1, 3) := by decide +kernel
theorem dL_areMade_328 : decode cL_areMade 328 = .ok (.goto (-150), 3) := by decide +kernel
theorem dL_areMade_331 : decode cL_areMade 331 = .ok (.aload_n 0, 1) := by decide +kernel
theorem dL_areMade_332 : decode cL_areMade 332 = .ok (.aload 4, 2) := by decide +kernel
theorem dL_areMade_334 : decode cL_areMade 334 = .ok (.invokevirtual 92, 3) := by decide +kernel
theorem dL_areMade_337 : decode cL_areMade 337 = .ok (.invokevirtual 96, 3) := by decide +kernel
theorem dL_areMade_340 : decode cL_areMade 340 = .ok (.aload_n 0, 1) := by decide +kernel
theorem dL_areMade_341 : decode cL_areMade 341 = .ok (.getfield 10, 3) := by decide +kernel
theorem dL_areMade_344 : decode cL_areMade 344 = .ok (.invokevirtual 99, 3) := by decide +kernel
theorem dL_areMade_347 : decode cL_areMade 347 = .ok (.iconst (-1), 1) := by decide +kernel
theorem dL_areMade_348 : decode cL_areMade 348 = .ok (.if_icmp .ne 25, 3) := by decide +kernel
theorem dL_areMade_351 : decode cL_areMade 351 = .ok (.aload_n 0, 1) := by decide +kernel
theorem dL_areMade_352 : decode cL_areMade 352 = .ok (.getfield 10, 3) := by decide +kernel
theorem dL_areMade_355 : decode cL_areMade 355 = .ok (.iload_n 1, 1) := by decide +kernel
theorem dL_areMade_356 : decode cL_areMade 356 = .ok (.invokevirtual 102, 3) := by decide +kernel
theorem dL_areMade_359 : decode cL_areMade 359 = .ok (.iload_n 3, 1) := by decide +kernel
theorem dL_areMade_360 : decode cL_areMade 360 = .ok (.if_icmp .ne 13, 3) := by decide +kernel
theorem dL_areMade_363 : decode cL_areMade 363 = .ok (.aload_n 0, 1) := by decide +kernel
theorem dL_areMade_364 : decode cL_areMade 364 = .ok (.getfield 10, 3) := by decide +kernel
theorem dL_areMade_367 : decode cL_areMade 367 = .ok (.invokevirtual 99, 3) := by decide +kernel
theorem dL_areMade_370 : decode cL_areMade 370 = .ok (.ifCond .eq 5, 3) := by decide +kernel
theorem dL_areMade_373 : decode cL_areMade 373 = .ok (.iconst 0, 1) := by decide +kernel
theorem dL_areMade_374 : decode cL_areMade 374 = .ok (.ireturn, 1) := by decide +kernel
theorem dL_areMade_375 : decode cL_areMade 375 = .ok (.iconst 1, 1) := by decide +kernel
theorem dL_areMade_376 : decode cL_areMade 376 = .ok (.aload_n 0, 1) := by decide +kernel
theorem dL_areMade_377 : decode cL_areMade 377 = .ok (.getfield 34, 3) := by decide +kernel
theorem dL_areMade_380 : decode cL_areMade 380 = .ok (.sipush 5000, 3) := by decide +kernel
theorem dL_areMade_383 : decode cL_areMade 383 = .ok (.invokevirtual 59, 3) := by decide +kernel
theorem dL_areMade_386 : decode cL_areMade 386 = .ok (.iadd, 1) := by decide +kernel
theorem dL_areMade_387 : decode cL_areMade 387 = .ok (.istore 5, 2) := by decide +kernel
theorem dL_areMade_389 : decode cL_areMade 389 = .ok (.iconst 0, 1) := by decide +kernel
theorem dL_areMade_390 : decode cL_areMade 390 = .ok (.istore 6, 2) := by decide +kernel
theorem dL_areMade_392 : decode cL_areMade 392 = .ok (.iconst 0, 1) := by decide +kernel
theorem dL_areMade_393 : decode cL_areMade 393 = .ok (.istore 7, 2) := by decide +kernel
theorem dL_areMade_395 : decode cL_areMade 395 = .ok (.iload 7, 2) := by decide +kernel
theorem dL_areMade_397 : decode cL_areMade 397 = .ok (.bipush 8, 2) := by decide +kernel
theorem dL_areMade_399 : decode cL_areMade 399 = .ok (.if_icmp .ge 57, 3) := by decide +kernel
theorem dL_areMade_402 : decode cL_areMade 402 = .ok (.aload_n 0, 1) := by decide +kernel
theorem dL_areMade_403 : decode cL_areMade 403 = .ok (.getfield 10, 3) := by decide +kernel
theorem dL_areMade_406 : decode cL_areMade 406 = .ok (.iload_n 1, 1) := by decide +kernel
theorem dL_areMade_407 : decode cL_areMade 407 = .ok (.iload 5, 2) := by decide +kernel
theorem dL_areMade_409 : decode cL_areMade 409 = .ok (.iload 7, 2) := by decide +kernel
theorem dL_areMade_411 : decode cL_areMade 411 = .ok (.invokevirtual 105, 3) := by decide +kernel
theorem dL_areMade_414 : decode cL_areMade 414 = .ok (.istore 8, 2) := by decide +kernel
theorem dL_areMade_416 : decode cL_areMade 416 = .ok (.iload 8, 2) := by decide +kernel
theorem dL_areMade_418 : decode cL_areMade 418 = .ok (.i2l, 1) := by decide +kernel
theorem dL_areMade_419 : decode cL_areMade 419 = .ok (.iload_n 3, 1) := by decide +kernel
theorem dL_areMade_420 : decode cL_areMade 420 = .ok (.i2l, 1) := by decide +kernel
theorem dL_areMade_421 : decode cL_areMade 421 = .ok (.lmul, 1) := by decide +kernel
theorem dL_areMade_422 : decode cL_areMade 422 = .ok (.iload 5, 2) := by decide +kernel
theorem dL_areMade_424 : decode cL_areMade 424 = .ok (.i2l, 1) := by decide +kernel
theorem dL_areMade_425 : decode cL_areMade 425 = .ok (.aload_n 2, 1) := by decide +kernel
theorem dL_areMade_426 : decode cL_areMade 426 = .ok (.iload 7, 2) := by decide +kernel
theorem dL_areMade_428 : decode cL_areMade 428 = .ok (.iaload, 1) := by decide +kernel
theorem dL_areMade_429 : decode cL_areMade 429 = .ok (.i2l, 1) := by decide +kernel
theorem dL_areMade_430 : decode cL_areMade 430 = .ok (.lmul, 1) := by decide +kernel
theorem dL_areMade_431 : decode cL_areMade 431 = .ok (.lsub, 1) := by decide +kernel
theorem dL_areMade_432 : decode cL_areMade 432 = .ok (.invokestatic 109, 3) := by decide +kernel
theorem dL_areMade_435 : decode cL_areMade 435 = .ok (.iload_n 3, 1) := by decide +kernel
theorem dL_areMade_436 : decode cL_areMade 436 = .ok (.i2l, 1) := by decide +kernel
theorem dL_areMade_437 : decode cL_areMade 437 = .ok (.lcmp, 1) := by decide +kernel
theorem dL_areMade_438 : decode cL_areMade 438 = .ok (.ifCond .lt 5, 3) := by decide +kernel
theorem dL_areMade_441 : decode cL_areMade 441 = .ok (.iconst 0, 1) := by decide +kernel
theorem dL_areMade_442 : decode cL_areMade 442 = .ok (.ireturn, 1) := by decide +kernel
theorem dL_areMade_443 : decode cL_areMade 443 = .ok (.iload 6, 2) := by decide +kernel
theorem dL_areMade_445 : decode cL_areMade 445 = .ok (.iload 8, 2) := by decide +kernel
theorem dL_areMade_447 : decode cL_areMade 447 = .ok (.iadd, 1) := by decide +kernel
theorem dL_areMade_448 : decode cL_areMade 448 = .ok (.istore 6, 2) := by decide +kernel
theorem dL_areMade_450 : decode cL_areMade 450 = .ok (.iinc 7 1, 3) := by decide +kernel
theorem dL_areMade_453 : decode cL_areMade 453 = .ok (.goto (-58), 3) := by decide +kernel
theorem dL_areMade_456 : decode cL_areMade 456 = .ok (.iload 6, 2) := by decide +kernel
theorem dL_areMade_458 : decode cL_areMade 458 = .ok (.iload 5, 2) := by decide +kernel
theorem dL_areMade_460 : decode cL_areMade 460 = .ok (.if_icmp .eq 5, 3) := by decide +kernel
theorem dL_areMade_463 : decode cL_areMade 463 = .ok (.iconst 0, 1) := by decide +kernel
theorem dL_areMade_464 : decode cL_areMade 464 = .ok (.ireturn, 1) := by decide +kernel
theorem dL_areMade_465 : decode cL_areMade 465 = .ok (.iinc 1 1, 3) := by decide +kernel
theorem dL_areMade_468 : decode cL_areMade 468 = .ok (.goto (-452), 3) := by decide +kernel
theorem dL_areMade_471 : decode cL_areMade 471 = .ok (.iconst 0, 1) := by decide +kernel
theorem dL_areMade_472 : decode cL_areMade 472 = .ok (.istore_n 1, 1) := by decide +kernel
theorem dL_areMade_473 : decode cL_areMade 473 = .ok (.iload_n 1, 1) := by decide +kernel
theorem dL_areMade_474 : decode cL_areMade 474 = .ok (.bipush 7, 2) := by decide +kernel
theorem dL_areMade_476 : decode cL_areMade 476 = .ok (.if_icmp .ge 28, 3) := by decide +kernel
theorem dL_areMade_479 : decode cL_areMade 479 = .ok (.aload_n 0, 1) := by decide +kernel
theorem dL_areMade_480 : decode cL_areMade 480 = .ok (.getfield 10, 3) := by decide +kernel
theorem dL_areMade_483 : decode cL_areMade 483 = .ok (.iload_n 1, 1) := by decide +kernel
theorem dL_areMade_484 : decode cL_areMade 484 = .ok (.sipush 20000, 3) := by decide +kernel
theorem dL_areMade_487 : decode cL_areMade 487 = .ok (.invokevirtual 115, 3) := by decide +kernel
theorem dL_areMade_490 : decode cL_areMade 490 = .ok (.sipush 20000, 3) := by decide +kernel
theorem dL_areMade_493 : decode cL_areMade 493 = .ok (.if_icmp .eq 5, 3) := by decide +kernel
theorem dL_areMade_496 : decode cL_areMade 496 = .ok (.iconst 0, 1) := by decide +kernel
theorem dL_areMade_497 : decode cL_areMade 497 = .ok (.ireturn, 1) := by decide +kernel
theorem dL_areMade_498 : decode cL_areMade 498 = .ok (.iinc 1 1, 3) := by decide +kernel
theorem dL_areMade_501 : decode cL_areMade 501 = .ok (.goto (-28), 3) := by decide +kernel
theorem dL_areMade_504 : decode cL_areMade 504 = .ok (.aload_n 0, 1) := by decide +kernel
theorem dL_areMade_505 : decode cL_areMade 505 = .ok (.invokevirtual 118, 3) := by decide +kernel
theorem dL_areMade_508 : decode cL_areMade 508 = .ok (.ireturn, 1) := by decide +kernel
theorem dL_isMixed_0 : decode cL_isMixed 0 = .ok (.iconst 4, 1) := by decide +kernel
theorem dL_isMixed_1 : decode cL_isMixed 1 = .ok (.newarray .int, 2) := by decide +kernel
theorem dL_isMixed_3 : decode cL_isMixed 3 = .ok (.astore_n 1, 1) := by decide +kernel
theorem dL_isMixed_4 : decode cL_isMixed 4 = .ok (.iconst 4, 1) := by decide +kernel
theorem dL_isMixed_5 : decode cL_isMixed 5 = .ok (.newarray .int, 2) := by decide +kernel
theorem dL_isMixed_7 : decode cL_isMixed 7 = .ok (.astore_n 2, 1) := by decide +kernel
theorem dL_isMixed_8 : decode cL_isMixed 8 = .ok (.iconst 4, 1) := by decide +kernel
theorem dL_isMixed_9 : decode cL_isMixed 9 = .ok (.newarray .int, 2) := by decide +kernel
theorem dL_isMixed_11 : decode cL_isMixed 11 = .ok (.astore_n 3, 1) := by decide +kernel
theorem dL_isMixed_12 : decode cL_isMixed 12 = .ok (.iconst 0, 1) := by decide +kernel
theorem dL_isMixed_13 : decode cL_isMixed 13 = .ok (.istore 4, 2) := by decide +kernel
theorem dL_isMixed_15 : decode cL_isMixed 15 = .ok (.iload 4, 2) := by decide +kernel
theorem dL_isMixed_17 : decode cL_isMixed 17 = .ok (.iconst 4, 1) := by decide +kernel
theorem dL_isMixed_18 : decode cL_isMixed 18 = .ok (.if_icmp .ge 96, 3) := by decide +kernel
theorem dL_isMixed_21 : decode cL_isMixed 21 = .ok (.aload_n 1, 1) := by decide +kernel
theorem dL_isMixed_22 : decode cL_isMixed 22 = .ok (.iload 4, 2) := by decide +kernel
theorem dL_isMixed_24 : decode cL_isMixed 24 = .ok (.aload_n 0, 1) := by decide +kernel
theorem dL_isMixed_25 : decode cL_isMixed 25 = .ok (.getfield 34, 3) := by decide +kernel
theorem dL_isMixed_28 : decode cL_isMixed 28 = .ok (.sipush 201, 3) := by decide +kernel
theorem dL_isMixed_31 : decode cL_isMixed 31 = .ok (.invokevirtual 59, 3) := by decide +kernel
theorem dL_isMixed_34 : decode cL_isMixed 34 = .ok (.iastore, 1) := by decide +kernel
theorem dL_isMixed_35 : decode cL_isMixed 35 = .ok (.aload_n 2, 1) := by decide +kernel
theorem dL_isMixed_36 : decode cL_isMixed 36 = .ok (.iload 4, 2) := by decide +kernel
theorem dL_isMixed_38 : decode cL_isMixed 38 = .ok (.aload_n 0, 1) := by decide +kernel
theorem dL_isMixed_39 : decode cL_isMixed 39 = .ok (.getfield 34, 3) := by decide +kernel
theorem dL_isMixed_42 : decode cL_isMixed 42 = .ok (.bipush 100, 2) := by decide +kernel
theorem dL_isMixed_44 : decode cL_isMixed 44 = .ok (.invokevirtual 59, 3) := by decide +kernel
theorem dL_isMixed_47 : decode cL_isMixed 47 = .ok (.iastore, 1) := by decide +kernel
theorem dL_isMixed_48 : decode cL_isMixed 48 = .ok (.aload_n 3, 1) := by decide +kernel
theorem dL_isMixed_49 : decode cL_isMixed 49 = .ok (.iload 4, 2) := by decide +kernel
theorem dL_isMixed_51 : decode cL_isMixed 51 = .ok (.aload_n 0, 1) := by decide +kernel
theorem dL_isMixed_52 : decode cL_isMixed 52 = .ok (.getfield 34, 3) := by decide +kernel
theorem dL_isMixed_55 : decode cL_isMixed 55 = .ok (.iconst 3, 1) := by decide +kernel
theorem dL_isMixed_56 : decode cL_isMixed 56 = .ok (.invokevirtual 59, 3) := by decide +kernel
theorem dL_isMixed_59 : decode cL_isMixed 59 = .ok (.ifCond .ne 8, 3) := by decide +kernel
theorem dL_isMixed_62 : decode cL_isMixed 62 = .ok (.bipush 100, 2) := by decide +kernel
theorem dL_isMixed_64 : decode cL_isMixed 64 = .ok (.goto 15, 3) := by decide +kernel
theorem dL_isMixed_67 : decode cL_isMixed 67 = .ok (.bipush 10, 2) := by decide +kernel
theorem dL_isMixed_69 : decode cL_isMixed 69 = .ok (.aload_n 0, 1) := by decide +kernel
theorem dL_isMixed_70 : decode cL_isMixed 70 = .ok (.getfield 34, 3) := by decide +kernel
theorem dL_isMixed_73 : decode cL_isMixed 73 = .ok (.bipush 11, 2) := by decide +kernel
theorem dL_isMixed_75 : decode cL_isMixed 75 = .ok (.invokevirtual 59, 3) := by decide +kernel
theorem dL_isMixed_78 : decode cL_isMixed 78 = .ok (.imul, 1) := by decide +kernel
theorem dL_isMixed_79 : decode cL_isMixed 79 = .ok (.iastore, 1) := by decide +kernel
theorem dL_isMixed_80 : decode cL_isMixed 80 = .ok (.aload_n 0, 1) := by decide +kernel
theorem dL_isMixed_81 : decode cL_isMixed 81 = .ok (.getfield 10, 3) := by decide +kernel
theorem dL_isMixed_84 : decode cL_isMixed 84 = .ok (.iload 4, 2) := by decide +kernel
theorem dL_isMixed_86 : decode cL_isMixed 86 = .ok (.aload_n 1, 1) := by decide +kernel
theorem dL_isMixed_87 : decode cL_isMixed 87 = .ok (.iload 4, 2) := by decide +kernel
theorem dL_isMixed_89 : decode cL_isMixed 89 = .ok (.iaload, 1) := by decide +kernel
theorem dL_isMixed_90 : decode cL_isMixed 90 = .ok (.aload_n 2, 1) := by decide +kernel
theorem dL_isMixed_91 : decode cL_isMixed 91 = .ok (.iload 4, 2) := by decide +kernel
theorem dL_isMixed_93 : decode cL_isMixed 93 = .ok (.iaload, 1) := by decide +kernel
theorem dL_isMixed_94 : decode cL_isMixed 94 = .ok (.aload_n 3, 1) := by decide +kernel
theorem dL_isMixed_95 : decode cL_isMixed 95 = .ok (.iload 4, 2) := by decide +kernel
theorem dL_isMixed_97 : decode cL_isMixed 97 = .ok (.iaload, 1) := by decide +kernel
theorem dL_isMixed_98 : decode cL_isMixed 98 = .ok (.invokevirtual 221, 3) := by decide +kernel
theorem dL_isMixed_101 : decode cL_isMixed 101 = .ok (.bipush 50, 2) := by decide +kernel
theorem dL_isMixed_103 : decode cL_isMixed 103 = .ok (.if_icmp .eq 5, 3) := by decide +kernel
theorem dL_isMixed_106 : decode cL_isMixed 106 = .ok (.iconst 0, 1) := by decide +kernel
theorem dL_isMixed_107 : decode cL_isMixed 107 = .ok (.ireturn, 1) := by decide +kernel
theorem dL_isMixed_108 : decode cL_isMixed 108 = .ok (.iinc 4 1, 3) := by decide +kernel
theorem dL_isMixed_111 : decode cL_isMixed 111 = .ok (.goto (-96), 3) := by decide +kernel
theorem dL_isMixed_114 : decode cL_isMixed 114 = .ok (.aload_n 0, 1) := by decide +kernel
theorem dL_isMixed_115 : decode cL_isMixed 115 = .ok (.getfield 34, 3) := by decide +kernel
theorem dL_isMixed_118 : decode cL_isMixed 118 = .ok (.sipush 150, 3) := by decide +kernel
theorem dL_isMixed_121 : decode cL_isMixed 121 = .ok (.invokevirtual 59, 3) := by decide +kernel
theorem dL_isMixed_124 : decode cL_isMixed 124 = .ok (.istore 4, 2) := by decide +kernel
theorem dL_isMixed_126 : decode cL_isMixed 126 = .ok (.iload 4, 2) := by decide +kernel
theorem dL_isMixed_128 : decode cL_isMixed 128 = .ok (.aload_n 0, 1) := by decide +kernel
theorem dL_isMixed_129 : decode cL_isMixed 129 = .ok (.getfield 34, 3) := by decide +kernel
theorem dL_isMixed_132 : decode cL_isMixed 132 = .ok (.bipush 50, 2) := by decide +kernel
theorem dL_isMixed_134 : decode cL_isMixed 134 = .ok (.invokevirtual 59, 3) := by decide +kernel
theorem dL_isMixed_137 : decode cL_isMixed 137 = .ok (.iadd, 1) := by decide +kernel
theorem dL_isMixed_138 : decode cL_isMixed 138 = .ok (.istore 5, 2) := by decide +kernel
theorem dL_isMixed_140 : decode cL_isMixed 140 = .ok (.aload_n 0, 1) := by decide +kernel
theorem dL_isMixed_141 : decode cL_isMixed 141 = .ok (.getfield 10, 3) := by decide +kernel
theorem dL_isMixed_144 : decode cL_isMixed 144 = .ok (.iload 4, 2) := by decide +kernel
theorem dL_isMixed_146 : decode cL_isMixed 146 = .ok (.iload 5, 2) := by decide +kernel
theorem dL_isMixed_148 : decode cL_isMixed 148 = .ok (.iconst 0, 1) := by decide +kernel
theorem dL_isMixed_149 : decode cL_isMixed 149 = .ok (.invokevirtual 225, 3) := by decide +kernel
theorem dL_isMixed_152 : decode cL_isMixed 152 = .ok (.i2l, 1) := by decide +kernel
theorem dL_isMixed_153 : decode cL_isMixed 153 = .ok (.lstore 6, 2) := by decide +kernel
theorem dL_isMixed_155 : decode cL_isMixed 155 = .ok (.goto 15, 3) := by decide +kernel
theorem dL_isMixed_158 : decode cL_isMixed 158 = .ok (.astore 8, 2) := by decide +kernel
theorem dL_isMixed_160 : decode cL_isMixed 160 = .ok (.aload_n 1, 1) := by decide +kernel
theorem dL_isMixed_161 : decode cL_isMixed 161 = .ok (.aload_n 3, 1) := by decide +kernel
theorem dL_isMixed_162 : decode cL_isMixed 162 = .ok (.iload 4, 2) := by decide +kernel
theorem dL_isMixed_164 : decode cL_isMixed 164 = .ok (.iload 5, 2) := by decide +kernel
theorem dL_isMixed_166 : decode cL_isMixed 166 = .ok (.invokestatic 231, 3) := by decide +kernel
theorem dL_isMixed_169 : decode cL_isMixed 169 = .ok (.ireturn, 1) := by decide +kernel
theorem dL_isMixed_170 : decode cL_isMixed 170 = .ok (.aload_n 0, 1) := by decide +kernel
theorem dL_isMixed_171 : decode cL_isMixed 171 = .ok (.getfield 10, 3) := by decide +kernel
theorem dL_isMixed_174 : decode cL_isMixed 174 = .ok (.iload 4, 2) := by decide +kernel
theorem dL_isMixed_176 : decode cL_isMixed 176 = .ok (.iload 5, 2) := by decide +kernel
theorem dL_isMixed_178 : decode cL_isMixed 178 = .ok (.iconst 1, 1) := by decide +kernel
theorem dL_isMixed_179 : decode cL_isMixed 179 = .ok (.invokevirtual 225, 3) := by decide +kernel
theorem dL_isMixed_182 : decode cL_isMixed 182 = .ok (.i2l, 1) := by decide +kernel
theorem dL_isMixed_183 : decode cL_isMixed 183 = .ok (.lstore 8, 2) := by decide +kernel
theorem dL_isMixed_185 : decode cL_isMixed 185 = .ok (.dconst 0, 1) := by decide +kernel
theorem dL_isMixed_186 : decode cL_isMixed 186 = .ok (.dstore 10, 2) := by decide +kernel
theorem dL_isMixed_188 : decode cL_isMixed 188 = .ok (.dconst 0, 1) := by decide +kernel
theorem dL_isMixed_189 : decode cL_isMixed 189 = .ok (.dstore 12, 2) := by decide +kernel
theorem dL_isMixed_191 : decode cL_isMixed 191 = .ok (.dconst 0, 1) := by decide +kernel
theorem dL_isMixed_192 : decode cL_isMixed 192 = .ok (.dstore 14, 2) := by decide +kernel
theorem dL_isMixed_194 : decode cL_isMixed 194 = .ok (.iconst 0, 1) := by decide +kernel
theorem dL_isMixed_195 : decode cL_isMixed 195 = .ok (.istore 16, 2) := by decide +kernel
theorem dL_isMixed_197 : decode cL_isMixed 197 = .ok (.iload 16, 2) := by decide +kernel
theorem dL_isMixed_199 : decode cL_isMixed 199 = .ok (.iconst 4, 1) := by decide +kernel
theorem dL_isMixed_200 : decode cL_isMixed 200 = .ok (.if_icmp .ge 103, 3) := by decide +kernel
theorem dL_isMixed_203 : decode cL_isMixed 203 = .ok (.aload_n 0, 1) := by decide +kernel
theorem dL_isMixed_204 : decode cL_isMixed 204 = .ok (.getfield 10, 3) := by decide +kernel
theorem dL_isMixed_207 : decode cL_isMixed 207 = .ok (.iload 4, 2) := by decide +kernel
theorem dL_isMixed_209 : decode cL_isMixed 209 = .ok (.iload 5, 2) := by decide +kernel
theorem dL_isMixed_211 : decode cL_isMixed 211 = .ok (.iload 16, 2) := by decide +kernel
theorem dL_isMixed_213 : decode cL_isMixed 213 = .ok (.iconst 0, 1) := by decide +kernel
theorem dL_isMixed_214 : decode cL_isMixed 214 = .ok (.invokevirtual 235, 3) := by decide +kernel
theorem dL_isMixed_217 : decode cL_isMixed 217 = .ok (.i2d, 1) := by decide +kernel
theorem dL_isMixed_218 : decode cL_isMixed 218 = .ok (.aload_n 0, 1) := by decide +kernel
theorem dL_isMixed_219 : decode cL_isMixed 219 = .ok (.getfield 10, 3) := by decide +kernel
theorem dL_isMixed_222 : decode cL_isMixed 222 = .ok (.iload 4, 2) := by decide +kernel
theorem dL_isMixed_224 : decode cL_isMixed 224 = .ok (.iload 5, 2) := by decide +kernel
theorem dL_isMixed_226 : decode cL_isMixed 226 = .ok (.iload 16, 2) := by decide +kernel
theorem dL_isMixed_228 : decode cL_isMixed 228 = .ok (.iconst 1, 1) := by decide +kernel
theorem dL_isMixed_229 : decode cL_isMixed 229 = .ok (.invokevirtual 235, 3) := by decide +kernel
theorem dL_isMixed_232 : decode cL_isMixed 232 = .ok (.i2d, 1) := by decide +kernel
theorem dL_isMixed_233 : decode cL_isMixed 233 = .ok (.ddiv, 1) := by decide +kernel
theorem dL_isMixed_234 : decode cL_isMixed 234 = .ok (.dstore 17, 2) := by decide +kernel
theorem dL_isMixed_236 : decode cL_isMixed 236 = .ok (.dload 17, 2) := by decide +kernel
theorem dL_isMixed_238 : decode cL_isMixed 238 = .ok (.dconst 0, 1) := by decide +kernel
theorem dL_isMixed_239 : decode cL_isMixed 239 = .ok (.dcmp .g, 1) := by decide +kernel
theorem dL_isMixed_240 : decode cL_isMixed 240 = .ok (.ifCond .lt 22, 3) := by decide +kernel
theorem dL_isMixed_243 : decode cL_isMixed 243 = .ok (.dload 17, 2) := by decide +kernel
theorem dL_isMixed_245 : decode cL_isMixed 245 = .ok (.aload_n 3, 1) := by decide +kernel
theorem dL_isMixed_246 : decode cL_isMixed 246 = .ok (.iload 16, 2) := by decide +kernel
theorem dL_isMixed_248 : decode cL_isMixed 248 = .ok (.iaload, 1) := by decide +kernel
theorem dL_isMixed_249 : decode cL_isMixed 249 = .ok (.i2d, 1) := by decide +kernel
theorem dL_isMixed_250 : decode cL_isMixed 250 = .ok (.ldc2_w 239, 3) := by decide +kernel
theorem dL_isMixed_253 : decode cL_isMixed 253 = .ok (.ddiv, 1) := by decide +kernel
theorem dL_isMixed_254 : decode cL_isMixed 254 = .ok (.ldc2_w 241, 3) := by decide +kernel
theorem dL_isMixed_257 : decode cL_isMixed 257 = .ok (.dadd, 1) := by decide +kernel
theorem dL_isMixed_258 : decode cL_isMixed 258 = .ok (.dcmp .l, 1) := by decide +kernel
theorem dL_isMixed_259 : decode cL_isMixed 259 = .ok (.ifCond .le 5, 3) := by decide +kernel
theorem dL_isMixed_262 : decode cL_isMixed 262 = .ok (.iconst 0, 1) := by decide +kernel
theorem dL_isMixed_263 : decode cL_isMixed 263 = .ok (.ireturn, 1) := by decide +kernel
theorem dL_isMixed_264 : decode cL_isMixed 264 = .ok (.dload 10, 2) := by decide +kernel
theorem dL_isMixed_266 : decode cL_isMixed 266 = .ok (.dload 17, 2) := by decide +kernel
theorem dL_isMixed_268 : decode cL_isMixed 268 = .ok (.dadd, 1) := by decide +kernel
theorem dL_isMixed_269 : decode cL_isMixed 269 = .ok (.dstore 10, 2) := by decide +kernel
theorem dL_isMixed_271 : decode cL_isMixed 271 = .ok (.dload 12, 2) := by decide +kernel
theorem dL_isMixed_273 : decode cL_isMixed 273 = .ok (.dload 17, 2) := by decide +kernel
theorem dL_isMixed_275 : decode cL_isMixed 275 = .ok (.aload_n 1, 1) := by decide +kernel
theorem dL_isMixed_276 : decode cL_isMixed 276 = .ok (.iload 16, 2) := by decide +kernel
theorem dL_isMixed_278 : decode cL_isMixed 278 = .ok (.iaload, 1) := by decide +kernel
theorem dL_isMixed_279 : decode cL_isMixed 279 = .ok (.i2d, 1) := by decide +kernel
theorem dL_isMixed_280 : decode cL_isMixed 280 = .ok (.dmul, 1) := by decide +kernel
theorem dL_isMixed_281 : decode cL_isMixed 281 = .ok (.dadd, 1) := by decide +kernel
theorem dL_isMixed_282 : decode cL_isMixed 282 = .ok (.dstore 12, 2) := by decide +kernel
theorem dL_isMixed_284 : decode cL_isMixed 284 = .ok (.dload 14, 2) := by decide +kernel
theorem dL_isMixed_286 : decode cL_isMixed 286 = .ok (.dload 17, 2) := by decide +kernel
theorem dL_isMixed_288 : decode cL_isMixed 288 = .ok (.aload_n 2, 1) := by decide +kernel
theorem dL_isMixed_289 : decode cL_isMixed 289 = .ok (.iload 16, 2) := by decide +kernel
theorem dL_isMixed_291 : decode cL_isMixed 291 = .ok (.iaload, 1) := by decide +kernel
theorem dL_isMixed_292 : decode cL_isMixed 292 = .ok (.i2d, 1) := by decide +kernel
theorem dL_isMixed_293 : decode cL_isMixed 293 = .ok (.dmul, 1) := by decide +kernel
theorem dL_isMixed_294 : decode cL_isMixed 294 = .ok (.dadd, 1) := by decide +kernel
theorem dL_isMixed_295 : decode cL_isMixed 295 = .ok (.dstore 14, 2) := by decide +kernel
theorem dL_isMixed_297 : decode cL_isMixed 297 = .ok (.iinc 16 1, 3) := by decide +kernel
theorem dL_isMixed_300 : decode cL_isMixed 300 = .ok (.goto (-103), 3) := by decide +kernel
theorem dL_isMixed_303 : decode cL_isMixed 303 = .ok (.dload 10, 2) := by decide +kernel
theorem dL_isMixed_305 : decode cL_isMixed 305 = .ok (.dconst 1, 1) := by decide +kernel
theorem dL_isMixed_306 : decode cL_isMixed 306 = .ok (.dsub, 1) := by decide +kernel
theorem dL_isMixed_307 : decode cL_isMixed 307 = .ok (.invokestatic 243, 3) := by decide +kernel
theorem dL_isMixed_310 : decode cL_isMixed 310 = .ok (.ldc2_w 246, 3) := by decide +kernel
theorem dL_isMixed_313 : decode cL_isMixed 313 = .ok (.dcmp .l, 1) := by decide +kernel
theorem dL_isMixed_314 : decode cL_isMixed 314 = .ok (.ifCond .gt 49, 3) := by decide +kernel
theorem dL_isMixed_317 : decode cL_isMixed 317 = .ok (.dload 12, 2) := by decide +kernel
theorem dL_isMixed_319 : decode cL_isMixed 319 = .ok (.iload 4, 2) := by decide +kernel
theorem dL_isMixed_321 : decode cL_isMixed 321 = .ok (.i2d, 1) := by decide +kernel
theorem dL_isMixed_322 : decode cL_isMixed 322 = .ok (.ldc2_w 248, 3) := by decide +kernel
theorem dL_isMixed_325 : decode cL_isMixed 325 = .ok (.dsub, 1) := by decide +kernel
theorem dL_isMixed_326 : decode cL_isMixed 326 = .ok (.dcmp .g, 1) := by decide +kernel
theorem dL_isMixed_327 : decode cL_isMixed 327 = .ok (.ifCond .lt 36, 3) := by decide +kernel
theorem dL_isMixed_330 : decode cL_isMixed 330 = .ok (.dload 12, 2) := by decide +kernel
theorem dL_isMixed_332 : decode cL_isMixed 332 = .ok (.iload 5, 2) := by decide +kernel
theorem dL_isMixed_334 : decode cL_isMixed 334 = .ok (.i2d, 1) := by decide +kernel
theorem dL_isMixed_335 : decode cL_isMixed 335 = .ok (.ldc2_w 248, 3) := by decide +kernel
theorem dL_isMixed_338 : decode cL_isMixed 338 = .ok (.dadd, 1) := by decide +kernel
theorem dL_isMixed_339 : decode cL_isMixed 339 = .ok (.dcmp .l, 1) := by decide +kernel
theorem dL_isMixed_340 : decode cL_isMixed 340 = .ok (.ifCond .gt 23, 3) := by decide +kernel
theorem dL_isMixed_343 : decode cL_isMixed 343 = .ok (.dload 14, 2) := by decide +kernel
theorem dL_isMixed_345 : decode cL_isMixed 345 = .ok (.lload 6, 2) := by decide +kernel
theorem dL_isMixed_347 : decode cL_isMixed 347 = .ok (.l2d, 1) := by decide +kernel
theorem dL_isMixed_348 : decode cL_isMixed 348 = .ok (.lload 8, 2) := by decide +kernel
theorem dL_isMixed_350 : decode cL_isMixed 350 = .ok (.l2d, 1) := by decide +kernel
theorem dL_isMixed_351 : decode cL_isMixed 351 = .ok (.ddiv, 1) := by decide +kernel
theorem dL_isMixed_352 : decode cL_isMixed 352 = .ok (.dsub, 1) := by decide +kernel
theorem dL_isMixed_353 : decode cL_isMixed 353 = .ok (.invokestatic 243, 3) := by decide +kernel
theorem dL_isMixed_356 : decode cL_isMixed 356 = .ok (.ldc2_w 250, 3) := by decide +kernel
theorem dL_isMixed_359 : decode cL_isMixed 359 = .ok (.dcmp .l, 1) := by decide +kernel
theorem dL_isMixed_360 : decode cL_isMixed 360 = .ok (.ifCond .le 5, 3) := by decide +kernel
theorem dL_isMixed_363 : decode cL_isMixed 363 = .ok (.iconst 0, 1) := by decide +kernel
theorem dL_isMixed_364 : decode cL_isMixed 364 = .ok (.ireturn, 1) := by decide +kernel
theorem dL_isMixed_365 : decode cL_isMixed 365 = .ok (.iconst 0, 1) := by decide +kernel
theorem dL_isMixed_366 : decode cL_isMixed 366 = .ok (.istore 16, 2) := by decide +kernel
theorem dL_isMixed_368 : decode cL_isMixed 368 = .ok (.iload 16, 2) := by decide +kernel
theorem dL_isMixed_370 : decode cL_isMixed 370 = .ok (.bipush 10, 2) := by decide +kernel
theorem dL_isMixed_372 : decode cL_isMixed 372 = .ok (.if_icmp .gt 211, 3) := by decide +kernel
theorem dL_isMixed_375 : decode cL_isMixed 375 = .ok (.iconst 0, 1) := by decide +kernel
theorem dL_isMixed_376 : decode cL_isMixed 376 = .ok (.istore 17, 2) := by decide +kernel
theorem dL_isMixed_378 : decode cL_isMixed 378 = .ok (.iload 16, 2) := by decide +kernel
theorem dL_isMixed_380 : decode cL_isMixed 380 = .ok (.iload 17, 2) := by decide +kernel
theorem dL_isMixed_382 : decode cL_isMixed 382 = .ok (.iadd, 1) := by decide +kernel
theorem dL_isMixed_383 : decode cL_isMixed 383 = .ok (.bipush 10, 2) := by decide +kernel
theorem dL_isMixed_385 : decode cL_isMixed 385 = .ok (.if_icmp .gt 192, 3) := by decide +kernel
theorem dL_isMixed_388 : decode cL_isMixed 388 = .ok (.iconst 0, 1) := by decide +kernel
theorem dL_isMixed_389 : decode cL_isMixed 389 = .ok (.istore 18, 2) := by decide +kernel
theorem dL_isMixed_391 : decode cL_isMixed 391 = .ok (.iload 16, 2) := by decide +kernel
theorem dL_isMixed_393 : decode cL_isMixed 393 = .ok (.iload 17, 2) := by decide +kernel
theorem dL_isMixed_395 : decode cL_isMixed 395 = .ok (.iadd, 1) := by decide +kernel
theorem dL_isMixed_396 : decode cL_isMixed 396 = .ok (.iload 18, 2) := by decide +kernel
theorem dL_isMixed_398 : decode cL_isMixed 398 = .ok (.iadd, 1) := by decide +kernel
theorem dL_isMixed_399 : decode cL_isMixed 399 = .ok (.bipush 10, 2) := by decide +kernel
theorem dL_isMixed_401 : decode cL_isMixed 401 = .ok (.if_icmp .gt 170, 3) := by decide +kernel
theorem dL_isMixed_404 : decode cL_isMixed 404 = .ok (.bipush 10, 2) := by decide +kernel
theorem dL_isMixed_406 : decode cL_isMixed 406 = .ok (.iload 16, 2) := by decide +kernel
theorem dL_isMixed_408 : decode cL_isMixed 408 = .ok (.isub, 1) := by decide +kernel
theorem dL_isMixed_409 : decode cL_isMixed 409 = .ok (.iload 17, 2) := by decide +kernel
theorem dL_isMixed_411 : decode cL_isMixed 411 = .ok (.isub, 1) := by decide +kernel
theorem dL_isMixed_412 : decode cL_isMixed 412 = .ok (.iload 18, 2) := by decide +kernel
theorem dL_isMixed_414 : decode cL_isMixed 414 = .ok (.isub, 1) := by decide +kernel
theorem dL_isMixed_415 : decode cL_isMixed 415 = .ok (.istore 19, 2) := by decide +kernel
theorem dL_isMixed_417 : decode cL_isMixed 417 = .ok (.iload 16, 2) := by decide +kernel
theorem dL_isMixed_419 : decode cL_isMixed 419 = .ok (.aload_n 1, 1) := by decide +kernel
theorem dL_isMixed_420 : decode cL_isMixed 420 = .ok (.iconst 0, 1) := by decide +kernel
theorem dL_isMixed_421 : decode cL_isMixed 421 = .ok (.iaload, 1) := by decide +kernel
theorem dL_isMixed_422 : decode cL_isMixed 422 = .ok (.imul, 1) := by decide +kernel
theorem dL_isMixed_423 : decode cL_isMixed 423 = .ok (.iload 17, 2) := by decide +kernel
theorem dL_isMixed_425 : decode cL_isMixed 425 = .ok (.aload_n 1, 1) := by decide +kernel
theorem dL_isMixed_426 : decode cL_isMixed 426 = .ok (.iconst 1, 1) := by decide +kernel
theorem dL_isMixed_427 : decode cL_isMixed 427 = .ok (.iaload, 1) := by decide +kernel
theorem dL_isMixed_428 : decode cL_isMixed 428 = .ok (.imul, 1) := by decide +kernel
theorem dL_isMixed_429 : decode cL_isMixed 429 = .ok (.iadd, 1) := by decide +kernel
theorem dL_isMixed_430 : decode cL_isMixed 430 = .ok (.iload 18, 2) := by decide +kernel
theorem dL_isMixed_432 : decode cL_isMixed 432 = .ok (.aload_n 1, 1) := by decide +kernel
theorem dL_isMixed_433 : decode cL_isMixed 433 = .ok (.iconst 2, 1) := by decide +kernel
theorem dL_isMixed_434 : decode cL_isMixed 434 = .ok (.iaload, 1) := by decide +kernel
theorem dL_isMixed_435 : decode cL_isMixed 435 = .ok (.imul, 1) := by decide +kernel
theorem dL_isMixed_436 : decode cL_isMixed 436 = .ok (.iadd, 1) := by decide +kernel
theorem dL_isMixed_437 : decode cL_isMixed 437 = .ok (.iload 19, 2) := by decide +kernel
theorem dL_isMixed_439 : decode cL_isMixed 439 = .ok (.aload_n 1, 1) := by decide +kernel
theorem dL_isMixed_440 : decode cL_isMixed 440 = .ok (.iconst 3, 1) := by decide +kernel
theorem dL_isMixed_441 : decode cL_isMixed 441 = .ok (.iaload, 1) := by decide +kernel
theorem dL_isMixed_442 : decode cL_isMixed 442 = .ok (.imul, 1) := by decide +kernel
theorem dL_isMixed_443 : decode cL_isMixed 443 = .ok (.iadd, 1) := by decide +kernel
theorem dL_isMixed_444 : decode cL_isMixed 444 = .ok (.istore 20, 2) := by decide +kernel
theorem dL_isMixed_446 : decode cL_isMixed 446 = .ok (.bipush 10, 2) := by decide +kernel
theorem dL_isMixed_448 : decode cL_isMixed 448 = .ok (.iload 16, 2) := by decide +kernel
theorem dL_isMixed_450 : decode cL_isMixed 450 = .ok (.imul, 1) := by decide +kernel
theorem dL_isMixed_451 : decode cL_isMixed 451 = .ok (.aload_n 3, 1) := by decide +kernel
theorem dL_isMixed_452 : decode cL_isMixed 452 = .ok (.iconst 0, 1) := by decide +kernel
theorem dL_isMixed_453 : decode cL_isMixed 453 = .ok (.iaload, 1) := by decide +kernel
theorem dL_isMixed_454 : decode cL_isMixed 454 = .ok (.if_icmp .gt 60, 3) := by decide +kernel
theorem dL_isMixed_457 : decode cL_isMixed 457 = .ok (.bipush 10, 2) := by decide +kernel
theorem dL_isMixed_459 : decode cL_isMixed 459 = .ok (.iload 17, 2) := by decide +kernel
theorem dL_isMixed_461 : decode cL_isMixed 461 = .ok (.imul, 1) := by decide +kernel
theorem dL_isMixed_462 : decode cL_isMixed 462 = .ok (.aload_n 3, 1) := by decide +kernel
theorem dL_isMixed_463 : decode cL_isMixed 463 = .ok (.iconst 1, 1) := by decide +kernel
theorem dL_isMixed_464 : decode cL_isMixed 464 = .ok (.iaload, 1) := by decide +kernel
theorem dL_isMixed_465 : decode cL_isMixed 465 = .ok (.if_icmp .gt 49, 3) := by decide +kernel
theorem dL_isMixed_468 : decode cL_isMixed 468 = .ok (.bipush 10, 2) := by decide +kernel
theorem dL_isMixed_470 : decode cL_isMixed 470 = .ok (.iload 18, 2) := by decide +kernel
theorem dL_isMixed_472 : decode cL_isMixed 472 = .ok (.imul, 1) := by decide +kernel
theorem dL_isMixed_473 : decode cL_isMixed 473 = .ok (.aload_n 3, 1) := by decide +kernel
theorem dL_isMixed_474 : decode cL_isMixed 474 = .ok (.iconst 2, 1) := by decide +kernel
theorem dL_isMixed_475 : decode cL_isMixed 475 = .ok (.iaload, 1) := by decide +kernel
theorem dL_isMixed_476 : decode cL_isMixed 476 = .ok (.if_icmp .gt 38, 3) := by decide +kernel
theorem dL_isMixed_479 : decode cL_isMixed 479 = .ok (.bipush 10, 2) := by decide +kernel
theorem dL_isMixed_481 : decode cL_isMixed 481 = .ok (.iload 19, 2) := by decide +kernel
theorem dL_isMixed_483 : decode cL_isMixed 483 = .ok (.imul, 1) := by decide +kernel
theorem dL_isMixed_484 : decode cL_isMixed 484 = .ok (.aload_n 3, 1) := by decide +kernel
theorem dL_isMixed_485 : decode cL_isMixed 485 = .ok (.iconst 3, 1) := by decide +kernel
theorem dL_isMixed_486 : decode cL_isMixed 486 = .ok (.iaload, 1) := by decide +kernel
theorem dL_isMixed_487 : decode cL_isMixed 487 = .ok (.if_icmp .gt 27, 3) := by decide +kernel
theorem dL_isMixed_490 : decode cL_isMixed 490 = .ok (.iload 20, 2) := by decide +kernel
theorem dL_isMixed_492 : decode cL_isMixed 492 = .ok (.bipush 10, 2) := by decide +kernel
theorem dL_isMixed_494 : decode cL_isMixed 494 = .ok (.iload 4, 2) := by decide +kernel
theorem dL_isMixed_496 : decode cL_isMixed 496 = .ok (.imul, 1) := by decide +kernel
theorem dL_isMixed_497 : decode cL_isMixed 497 = .ok (.if_icmp .lt 17, 3) := by decide +kernel
theorem dL_isMixed_500 : decode cL_isMixed 500 = .ok (.iload 20, 2) := by decide +kernel
theorem dL_isMixed_502 : decode cL_isMixed 502 = .ok (.bipush 10, 2) := by decide +kernel
theorem dL_isMixed_504 : decode cL_isMixed 504 = .ok (.iload 5, 2) := by decide +kernel
theorem dL_isMixed_506 : decode cL_isMixed 506 = .ok (.imul, 1) := by decide +kernel
theorem dL_isMixed_507 : decode cL_isMixed 507 = .ok (.if_icmp .gt 7, 3) := by decide +kernel
theorem dL_isMixed_510 : decode cL_isMixed 510 = .ok (.iconst 1, 1) := by decide +kernel
theorem dL_isMixed_511 : decode cL_isMixed 511 = .ok (.goto 4, 3) := by decide +kernel
theorem dL_isMixed_514 : decode cL_isMixed 514 = .ok (.iconst 0, 1) := by decide +kernel
theorem dL_isMixed_515 : decode cL_isMixed 515 = .ok (.istore 21, 2) := by decide +kernel
theorem dL_isMixed_517 : decode cL_isMixed 517 = .ok (.iload 21, 2) := by decide +kernel
theorem dL_isMixed_519 : decode cL_isMixed 519 = .ok (.ifCond .eq 46, 3) := by decide +kernel
theorem dL_isMixed_522 : decode cL_isMixed 522 = .ok (.iload 16, 2) := by decide +kernel
theorem dL_isMixed_524 : decode cL_isMixed 524 = .ok (.aload_n 2, 1) := by decide +kernel
theorem dL_isMixed_525 : decode cL_isMixed 525 = .ok (.iconst 0, 1) := by decide +kernel
theorem dL_isMixed_526 : decode cL_isMixed 526 = .ok (.iaload, 1) := by decide +kernel
theorem dL_isMixed_527 : decode cL_isMixed 527 = .ok (.imul, 1) := by decide +kernel
theorem dL_isMixed_528 : decode cL_isMixed 528 = .ok (.iload 17, 2) := by decide +kernel
theorem dL_isMixed_530 : decode cL_isMixed 530 = .ok (.aload_n 2, 1) := by decide +kernel
theorem dL_isMixed_531 : decode cL_isMixed 531 = .ok (.iconst 1, 1) := by decide +kernel
theorem dL_isMixed_532 : decode cL_isMixed 532 = .ok (.iaload, 1) := by decide +kernel
theorem dL_isMixed_533 : decode cL_isMixed 533 = .ok (.imul, 1) := by decide +kernel
theorem dL_isMixed_534 : decode cL_isMixed 534 = .ok (.iadd, 1) := by decide +kernel
theorem dL_isMixed_535 : decode cL_isMixed 535 = .ok (.iload 18, 2) := by decide +kernel
theorem dL_isMixed_537 : decode cL_isMixed 537 = .ok (.aload_n 2, 1) := by decide +kernel
theorem dL_isMixed_538 : decode cL_isMixed 538 = .ok (.iconst 2, 1) := by decide +kernel
theorem dL_isMixed_539 : decode cL_isMixed 539 = .ok (.iaload, 1) := by decide +kernel
theorem dL_isMixed_540 : decode cL_isMixed 540 = .ok (.imul, 1) := by decide +kernel
theorem dL_isMixed_541 : decode cL_isMixed 541 = .ok (.iadd, 1) := by decide +kernel
theorem dL_isMixed_542 : decode cL_isMixed 542 = .ok (.iload 19, 2) := by decide +kernel
theorem dL_isMixed_544 : decode cL_isMixed 544 = .ok (.aload_n 2, 1) := by decide +kernel
theorem dL_isMixed_545 : decode cL_isMixed 545 = .ok (.iconst 3, 1) := by decide +kernel
theorem dL_isMixed_546 : decode cL_isMixed 546 = .ok (.iaload, 1) := by decide +kernel
theorem dL_isMixed_547 : decode cL_isMixed 547 = .ok (.imul, 1) := by decide +kernel
theorem dL_isMixed_548 : decode cL_isMixed 548 = .ok (.iadd, 1) := by decide +kernel
theorem dL_isMixed_549 : decode cL_isMixed 549 = .ok (.i2l, 1) := by decide +kernel
theorem dL_isMixed_550 : decode cL_isMixed 550 = .ok (.lload 8, 2) := by decide +kernel
theorem dL_isMixed_552 : decode cL_isMixed 552 = .ok (.lmul, 1) := by decide +kernel
theorem dL_isMixed_553 : decode cL_isMixed 553 = .ok (.ldc2_w 252, 3) := by decide +kernel
theorem dL_isMixed_556 : decode cL_isMixed 556 = .ok (.lload 6, 2) := by decide +kernel
theorem dL_isMixed_558 : decode cL_isMixed 558 = .ok (.lmul, 1) := by decide +kernel
theorem dL_isMixed_559 : decode cL_isMixed 559 = .ok (.lcmp, 1) := by decide +kernel
theorem dL_isMixed_560 : decode cL_isMixed 560 = .ok (.ifCond .ge 5, 3) := by decide +kernel
theorem dL_isMixed_563 : decode cL_isMixed 563 = .ok (.iconst 0, 1) := by decide +kernel
theorem dL_isMixed_564 : decode cL_isMixed 564 = .ok (.ireturn, 1) := by decide +kernel
theorem dL_isMixed_565 : decode cL_isMixed 565 = .ok (.iinc 18 1, 3) := by decide +kernel
theorem dL_isMixed_568 : decode cL_isMixed 568 = .ok (.goto (-177), 3) := by decide +kernel
theorem dL_isMixed_571 : decode cL_isMixed 571 = .ok (.iinc 17 1, 3) := by decide +kernel
theorem dL_isMixed_574 : decode cL_isMixed 574 = .ok (.goto (-196), 3) := by decide +kernel
theorem dL_isMixed_577 : decode cL_isMixed 577 = .ok (.iinc 16 1, 3) := by decide +kernel
theorem dL_isMixed_580 : decode cL_isMixed 580 = .ok (.goto (-212), 3) := by decide +kernel
theorem dL_isMixed_583 : decode cL_isMixed 583 = .ok (.iconst 1, 1) := by decide +kernel
theorem dL_isMixed_584 : decode cL_isMixed 584 = .ok (.ireturn, 1) := by decide +kernel
theorem dL_holds_0 : decode cL_holds 0 = .ok (.aload_n 0, 1) := by decide +kernel
theorem dL_holds_1 : decode cL_holds 1 = .ok (.iconst 1, 1) := by decide +kernel
theorem dL_holds_2 : decode cL_holds 2 = .ok (.aload_n 0, 1) := by decide +kernel
theorem dL_holds_3 : decode cL_holds 3 = .ok (.getfield 34, 3) := by decide +kernel
theorem dL_holds_6 : decode cL_holds 6 = .ok (.iconst 3, 1) := by decide +kernel
theorem dL_holds_7 : decode cL_holds 7 = .ok (.invokevirtual 59, 3) := by decide +kernel
theorem dL_holds_10 : decode cL_holds 10 = .ok (.iadd, 1) := by decide +kernel
theorem dL_holds_11 : decode cL_holds 11 = .ok (.putfield 160, 3) := by decide +kernel
theorem dL_holds_14 : decode cL_holds 14 = .ok (.aload_n 0, 1) := by decide +kernel
theorem dL_holds_15 : decode cL_holds 15 = .ok (.aload_n 0, 1) := by decide +kernel
theorem dL_holds_16 : decode cL_holds 16 = .ok (.getfield 34, 3) := by decide +kernel
theorem dL_holds_19 : decode cL_holds 19 = .ok (.bipush 6, 2) := by decide +kernel
theorem dL_holds_21 : decode cL_holds 21 = .ok (.invokevirtual 59, 3) := by decide +kernel
theorem dL_holds_24 : decode cL_holds 24 = .ok (.putfield 139, 3) := by decide +kernel
theorem dL_holds_27 : decode cL_holds 27 = .ok (.aload_n 0, 1) := by decide +kernel
theorem dL_holds_28 : decode cL_holds 28 = .ok (.invokevirtual 301, 3) := by decide +kernel
theorem dL_holds_31 : decode cL_holds 31 = .ok (.ifCond .eq 17, 3) := by decide +kernel
theorem dL_holds_34 : decode cL_holds 34 = .ok (.aload_n 0, 1) := by decide +kernel
theorem dL_holds_35 : decode cL_holds 35 = .ok (.invokevirtual 304, 3) := by decide +kernel
theorem dL_holds_38 : decode cL_holds 38 = .ok (.ifCond .eq 10, 3) := by decide +kernel
theorem dL_holds_41 : decode cL_holds 41 = .ok (.aload_n 0, 1) := by decide +kernel
theorem dL_holds_42 : decode cL_holds 42 = .ok (.invokevirtual 307, 3) := by decide +kernel
theorem dL_holds_45 : decode cL_holds 45 = .ok (.ifCond .ne 5, 3) := by decide +kernel
theorem dL_holds_48 : decode cL_holds 48 = .ok (.iconst 0, 1) := by decide +kernel
theorem dL_holds_49 : decode cL_holds 49 = .ok (.ireturn, 1) := by decide +kernel
theorem dL_holds_50 : decode cL_holds 50 = .ok (.aload_n 0, 1) := by decide +kernel
theorem dL_holds_51 : decode cL_holds 51 = .ok (.invokevirtual 310, 3) := by decide +kernel
theorem dL_holds_54 : decode cL_holds 54 = .ok (.ifCond .eq 38, 3) := by decide +kernel
theorem dL_holds_57 : decode cL_holds 57 = .ok (.aload_n 0, 1) := by decide +kernel
theorem dL_holds_58 : decode cL_holds 58 = .ok (.invokevirtual 313, 3) := by decide +kernel
theorem dL_holds_61 : decode cL_holds 61 = .ok (.ifCond .eq 31, 3) := by decide +kernel
theorem dL_holds_64 : decode cL_holds 64 = .ok (.aload_n 0, 1) := by decide +kernel
theorem dL_holds_65 : decode cL_holds 65 = .ok (.invokevirtual 316, 3) := by decide +kernel
theorem dL_holds_68 : decode cL_holds 68 = .ok (.ifCond .eq 24, 3) := by decide +kernel
theorem dL_holds_71 : decode cL_holds 71 = .ok (.aload_n 0, 1) := by decide +kernel
theorem dL_holds_72 : decode cL_holds 72 = .ok (.invokevirtual 319, 3) := by decide +kernel
theorem dL_holds_75 : decode cL_holds 75 = .ok (.ifCond .eq 17, 3) := by decide +kernel
theorem dL_holds_78 : decode cL_holds 78 = .ok (.aload_n 0, 1) := by decide +kernel
theorem dL_holds_79 : decode cL_holds 79 = .ok (.getfield 10, 3) := by decide +kernel
theorem dL_holds_82 : decode cL_holds 82 = .ok (.invokevirtual 322, 3) := by decide +kernel
theorem dL_holds_85 : decode cL_holds 85 = .ok (.ifCond .ne 7, 3) := by decide +kernel
theorem dL_holds_88 : decode cL_holds 88 = .ok (.iconst 1, 1) := by decide +kernel
theorem dL_holds_89 : decode cL_holds 89 = .ok (.goto 4, 3) := by decide +kernel
theorem dL_holds_92 : decode cL_holds 92 = .ok (.iconst 0, 1) := by decide +kernel
theorem dL_holds_93 : decode cL_holds 93 = .ok (.ireturn, 1) := by decide +kernel
theorem dL_law_0 : decode cL_law 0 = .ok (.new 11, 3) := by decide +kernel
theorem dL_law_3 : decode cL_law 3 = .ok (.dup, 1) := by decide +kernel
theorem dL_law_4 : decode cL_law 4 = .ok (.aload_n 0, 1) := by decide +kernel
theorem dL_law_5 : decode cL_law 5 = .ok (.invokespecial 325, 3) := by decide +kernel
theorem dL_law_8 : decode cL_law 8 = .ok (.invokevirtual 326, 3) := by decide +kernel
theorem dL_law_11 : decode cL_law 11 = .ok (.ireturn, 1) := by decide +kernel
