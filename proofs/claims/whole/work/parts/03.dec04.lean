theorem dX9_takesNumber_1 : decode cX9_takesNumber 1 = .ok (.invokevirtual 203, 3) := by decide +kernel
theorem dX9_takesNumber_4 : decode cX9_takesNumber 4 = .ok (.ifCond .eq 23, 3) := by decide +kernel
theorem dX9_takesNumber_7 : decode cX9_takesNumber 7 = .ok (.aload_n 0, 1) := by decide +kernel
theorem dX9_takesNumber_8 : decode cX9_takesNumber 8 = .ok (.getfield 191, 3) := by decide +kernel
theorem dX9_takesNumber_11 : decode cX9_takesNumber 11 = .ok (.iconst 2, 1) := by decide +kernel
theorem dX9_takesNumber_12 : decode cX9_takesNumber 12 = .ok (.if_icmp .ne 15, 3) := by decide +kernel
theorem dX9_takesNumber_15 : decode cX9_takesNumber 15 = .ok (.aload_n 0, 1) := by decide +kernel
theorem dX9_takesNumber_16 : decode cX9_takesNumber 16 = .ok (.getfield 194, 3) := by decide +kernel
theorem dX9_takesNumber_19 : decode cX9_takesNumber 19 = .ok (.iload_n 1, 1) := by decide +kernel
theorem dX9_takesNumber_20 : decode cX9_takesNumber 20 = .ok (.iload_n 2, 1) := by decide +kernel
theorem dX9_takesNumber_21 : decode cX9_takesNumber 21 = .ok (.invokestatic 137, 3) := by decide +kernel
theorem dX9_takesNumber_24 : decode cX9_takesNumber 24 = .ok (.ifCond .ne 9, 3) := by decide +kernel
theorem dX9_takesNumber_27 : decode cX9_takesNumber 27 = .ok (.aload_n 0, 1) := by decide +kernel
theorem dX9_takesNumber_28 : decode cX9_takesNumber 28 = .ok (.invokevirtual 213, 3) := by decide +kernel
theorem dX9_takesNumber_31 : decode cX9_takesNumber 31 = .ok (.iconst 0, 1) := by decide +kernel
theorem dX9_takesNumber_32 : decode cX9_takesNumber 32 = .ok (.ireturn, 1) := by decide +kernel
theorem dX9_takesNumber_33 : decode cX9_takesNumber 33 = .ok (.aload_n 0, 1) := by decide +kernel
theorem dX9_takesNumber_34 : decode cX9_takesNumber 34 = .ok (.getfield 194, 3) := by decide +kernel
theorem dX9_takesNumber_37 : decode cX9_takesNumber 37 = .ok (.istore_n 3, 1) := by decide +kernel
theorem dX9_takesNumber_38 : decode cX9_takesNumber 38 = .ok (.aload_n 0, 1) := by decide +kernel
theorem dX9_takesNumber_39 : decode cX9_takesNumber 39 = .ok (.invokevirtual 210, 3) := by decide +kernel
theorem dX9_takesNumber_42 : decode cX9_takesNumber 42 = .ok (.iload_n 3, 1) := by decide +kernel
theorem dX9_takesNumber_43 : decode cX9_takesNumber 43 = .ok (.ireturn, 1) := by decide +kernel
theorem dX9_find_0 : decode cX9_find 0 = .ok (.iconst 0, 1) := by decide +kernel
theorem dX9_find_1 : decode cX9_find 1 = .ok (.istore_n 2, 1) := by decide +kernel
theorem dX9_find_2 : decode cX9_find 2 = .ok (.iload_n 2, 1) := by decide +kernel
theorem dX9_find_3 : decode cX9_find 3 = .ok (.aload_n 0, 1) := by decide +kernel
theorem dX9_find_4 : decode cX9_find 4 = .ok (.getfield 219, 3) := by decide +kernel
theorem dX9_find_7 : decode cX9_find 7 = .ok (.if_icmp .ge 28, 3) := by decide +kernel
theorem dX9_find_10 : decode cX9_find 10 = .ok (.aload_n 0, 1) := by decide +kernel
theorem dX9_find_11 : decode cX9_find 11 = .ok (.getfield 41, 3) := by decide +kernel
theorem dX9_find_14 : decode cX9_find 14 = .ok (.sipush 320, 3) := by decide +kernel
theorem dX9_find_17 : decode cX9_find 17 = .ok (.bipush 20, 2) := by decide +kernel
theorem dX9_find_19 : decode cX9_find 19 = .ok (.iload_n 2, 1) := by decide +kernel
theorem dX9_find_20 : decode cX9_find 20 = .ok (.imul, 1) := by decide +kernel
theorem dX9_find_21 : decode cX9_find 21 = .ok (.iadd, 1) := by decide +kernel
theorem dX9_find_22 : decode cX9_find 22 = .ok (.iaload, 1) := by decide +kernel
theorem dX9_find_23 : decode cX9_find 23 = .ok (.iload_n 1, 1) := by decide +kernel
theorem dX9_find_24 : decode cX9_find 24 = .ok (.if_icmp .ne 5, 3) := by decide +kernel
theorem dX9_find_27 : decode cX9_find 27 = .ok (.iload_n 2, 1) := by decide +kernel
theorem dX9_find_28 : decode cX9_find 28 = .ok (.ireturn, 1) := by decide +kernel
theorem dX9_find_29 : decode cX9_find 29 = .ok (.iinc 2 1, 3) := by decide +kernel
theorem dX9_find_32 : decode cX9_find 32 = .ok (.goto (-30), 3) := by decide +kernel
theorem dX9_find_35 : decode cX9_find 35 = .ok (.iconst (-1), 1) := by decide +kernel
theorem dX9_find_36 : decode cX9_find 36 = .ok (.ireturn, 1) := by decide +kernel
theorem dX9_cond_0 : decode cX9_cond 0 = .ok (.sipush 2000, 3) := by decide +kernel
theorem dX9_cond_3 : decode cX9_cond 3 = .ok (.iconst 2, 1) := by decide +kernel
theorem dX9_cond_4 : decode cX9_cond 4 = .ok (.aload_n 0, 1) := by decide +kernel
theorem dX9_cond_5 : decode cX9_cond 5 = .ok (.getfield 222, 3) := by decide +kernel
theorem dX9_cond_8 : decode cX9_cond 8 = .ok (.imul, 1) := by decide +kernel
theorem dX9_cond_9 : decode cX9_cond 9 = .ok (.iadd, 1) := by decide +kernel
theorem dX9_cond_10 : decode cX9_cond 10 = .ok (.istore_n 2, 1) := by decide +kernel
theorem dX9_cond_11 : decode cX9_cond 11 = .ok (.iconst 0, 1) := by decide +kernel
theorem dX9_cond_12 : decode cX9_cond 12 = .ok (.istore_n 3, 1) := by decide +kernel
theorem dX9_cond_13 : decode cX9_cond 13 = .ok (.iconst 0, 1) := by decide +kernel
theorem dX9_cond_14 : decode cX9_cond 14 = .ok (.istore 4, 2) := by decide +kernel
theorem dX9_cond_16 : decode cX9_cond 16 = .ok (.iconst 0, 1) := by decide +kernel
theorem dX9_cond_17 : decode cX9_cond 17 = .ok (.istore 5, 2) := by decide +kernel
theorem dX9_cond_19 : decode cX9_cond 19 = .ok (.iconst 1, 1) := by decide +kernel
theorem dX9_cond_20 : decode cX9_cond 20 = .ok (.istore 6, 2) := by decide +kernel
theorem dX9_cond_22 : decode cX9_cond 22 = .ok (.iconst 1, 1) := by decide +kernel
theorem dX9_cond_23 : decode cX9_cond 23 = .ok (.istore 7, 2) := by decide +kernel
theorem dX9_cond_25 : decode cX9_cond 25 = .ok (.iload 7, 2) := by decide +kernel
theorem dX9_cond_27 : decode cX9_cond 27 = .ok (.ifCond .eq 423, 3) := by decide +kernel
theorem dX9_cond_30 : decode cX9_cond 30 = .ok (.aload_n 0, 1) := by decide +kernel
theorem dX9_cond_31 : decode cX9_cond 31 = .ok (.invokevirtual 203, 3) := by decide +kernel
theorem dX9_cond_34 : decode cX9_cond 34 = .ok (.ifCond .eq 416, 3) := by decide +kernel
theorem dX9_cond_37 : decode cX9_cond 37 = .ok (.iload 6, 2) := by decide +kernel
theorem dX9_cond_39 : decode cX9_cond 39 = .ok (.ifCond .eq 322, 3) := by decide +kernel
theorem dX9_cond_42 : decode cX9_cond 42 = .ok (.aload_n 0, 1) := by decide +kernel
theorem dX9_cond_43 : decode cX9_cond 43 = .ok (.bipush 33, 2) := by decide +kernel
theorem dX9_cond_45 : decode cX9_cond 45 = .ok (.invokevirtual 207, 3) := by decide +kernel
theorem dX9_cond_48 : decode cX9_cond 48 = .ok (.ifCond .ne 19, 3) := by decide +kernel
theorem dX9_cond_51 : decode cX9_cond 51 = .ok (.aload_n 0, 1) := by decide +kernel
theorem dX9_cond_52 : decode cX9_cond 52 = .ok (.bipush 40, 2) := by decide +kernel
theorem dX9_cond_54 : decode cX9_cond 54 = .ok (.invokevirtual 207, 3) := by decide +kernel
theorem dX9_cond_57 : decode cX9_cond 57 = .ok (.ifCond .eq 47, 3) := by decide +kernel
theorem dX9_cond_60 : decode cX9_cond 60 = .ok (.iload 4, 2) := by decide +kernel
theorem dX9_cond_62 : decode cX9_cond 62 = .ok (.bipush 10, 2) := by decide +kernel
theorem dX9_cond_64 : decode cX9_cond 64 = .ok (.if_icmp .ge 40, 3) := by decide +kernel
theorem dX9_cond_67 : decode cX9_cond 67 = .ok (.aload_n 0, 1) := by decide +kernel
theorem dX9_cond_68 : decode cX9_cond 68 = .ok (.iload_n 2, 1) := by decide +kernel
theorem dX9_cond_69 : decode cX9_cond 69 = .ok (.iload_n 3, 1) := by decide +kernel
theorem dX9_cond_70 : decode cX9_cond 70 = .ok (.aload_n 0, 1) := by decide +kernel
theorem dX9_cond_71 : decode cX9_cond 71 = .ok (.getfield 194, 3) := by decide +kernel
theorem dX9_cond_74 : decode cX9_cond 74 = .ok (.invokevirtual 225, 3) := by decide +kernel
theorem dX9_cond_77 : decode cX9_cond 77 = .ok (.istore_n 3, 1) := by decide +kernel
theorem dX9_cond_78 : decode cX9_cond 78 = .ok (.iload 4, 2) := by decide +kernel
theorem dX9_cond_80 : decode cX9_cond 80 = .ok (.aload_n 0, 1) := by decide +kernel
theorem dX9_cond_81 : decode cX9_cond 81 = .ok (.getfield 194, 3) := by decide +kernel
theorem dX9_cond_84 : decode cX9_cond 84 = .ok (.bipush 40, 2) := by decide +kernel
theorem dX9_cond_86 : decode cX9_cond 86 = .ok (.if_icmp .ne 7, 3) := by decide +kernel
theorem dX9_cond_89 : decode cX9_cond 89 = .ok (.iconst 1, 1) := by decide +kernel
theorem dX9_cond_90 : decode cX9_cond 90 = .ok (.goto 4, 3) := by decide +kernel
theorem dX9_cond_93 : decode cX9_cond 93 = .ok (.iconst 0, 1) := by decide +kernel
theorem dX9_cond_94 : decode cX9_cond 94 = .ok (.iadd, 1) := by decide +kernel
theorem dX9_cond_95 : decode cX9_cond 95 = .ok (.istore 4, 2) := by decide +kernel
theorem dX9_cond_97 : decode cX9_cond 97 = .ok (.aload_n 0, 1) := by decide +kernel
theorem dX9_cond_98 : decode cX9_cond 98 = .ok (.invokevirtual 210, 3) := by decide +kernel
theorem dX9_cond_101 : decode cX9_cond 101 = .ok (.goto (-76), 3) := by decide +kernel
theorem dX9_cond_104 : decode cX9_cond 104 = .ok (.aload_n 0, 1) := by decide +kernel
theorem dX9_cond_105 : decode cX9_cond 105 = .ok (.getfield 191, 3) := by decide +kernel
theorem dX9_cond_108 : decode cX9_cond 108 = .ok (.iconst 1, 1) := by decide +kernel
theorem dX9_cond_109 : decode cX9_cond 109 = .ok (.if_icmp .ne 245, 3) := by decide +kernel
theorem dX9_cond_112 : decode cX9_cond 112 = .ok (.aload_n 0, 1) := by decide +kernel
theorem dX9_cond_113 : decode cX9_cond 113 = .ok (.getfield 194, 3) := by decide +kernel
theorem dX9_cond_116 : decode cX9_cond 116 = .ok (.bipush 12, 2) := by decide +kernel
theorem dX9_cond_118 : decode cX9_cond 118 = .ok (.if_icmp .eq 39, 3) := by decide +kernel
theorem dX9_cond_121 : decode cX9_cond 121 = .ok (.aload_n 0, 1) := by decide +kernel
theorem dX9_cond_122 : decode cX9_cond 122 = .ok (.getfield 194, 3) := by decide +kernel
theorem dX9_cond_125 : decode cX9_cond 125 = .ok (.bipush 13, 2) := by decide +kernel
theorem dX9_cond_127 : decode cX9_cond 127 = .ok (.if_icmp .eq 30, 3) := by decide +kernel
theorem dX9_cond_130 : decode cX9_cond 130 = .ok (.aload_n 0, 1) := by decide +kernel
theorem dX9_cond_131 : decode cX9_cond 131 = .ok (.getfield 194, 3) := by decide +kernel
theorem dX9_cond_134 : decode cX9_cond 134 = .ok (.bipush 14, 2) := by decide +kernel
theorem dX9_cond_136 : decode cX9_cond 136 = .ok (.if_icmp .eq 21, 3) := by decide +kernel
theorem dX9_cond_139 : decode cX9_cond 139 = .ok (.aload_n 0, 1) := by decide +kernel
theorem dX9_cond_140 : decode cX9_cond 140 = .ok (.getfield 194, 3) := by decide +kernel
theorem dX9_cond_143 : decode cX9_cond 143 = .ok (.bipush 15, 2) := by decide +kernel
theorem dX9_cond_145 : decode cX9_cond 145 = .ok (.if_icmp .eq 12, 3) := by decide +kernel
theorem dX9_cond_148 : decode cX9_cond 148 = .ok (.aload_n 0, 1) := by decide +kernel
theorem dX9_cond_149 : decode cX9_cond 149 = .ok (.getfield 194, 3) := by decide +kernel
theorem dX9_cond_152 : decode cX9_cond 152 = .ok (.bipush 10, 2) := by decide +kernel
theorem dX9_cond_154 : decode cX9_cond 154 = .ok (.if_icmp .ne 200, 3) := by decide +kernel
theorem dX9_cond_157 : decode cX9_cond 157 = .ok (.iload 5, 2) := by decide +kernel
theorem dX9_cond_159 : decode cX9_cond 159 = .ok (.bipush 30, 2) := by decide +kernel
theorem dX9_cond_161 : decode cX9_cond 161 = .ok (.if_icmp .ge 193, 3) := by decide +kernel
theorem dX9_cond_164 : decode cX9_cond 164 = .ok (.aload_n 0, 1) := by decide +kernel
theorem dX9_cond_165 : decode cX9_cond 165 = .ok (.getfield 194, 3) := by decide +kernel
theorem dX9_cond_168 : decode cX9_cond 168 = .ok (.istore 8, 2) := by decide +kernel
theorem dX9_cond_170 : decode cX9_cond 170 = .ok (.iinc 5 1, 3) := by decide +kernel
theorem dX9_cond_173 : decode cX9_cond 173 = .ok (.aload_n 0, 1) := by decide +kernel
theorem dX9_cond_174 : decode cX9_cond 174 = .ok (.invokevirtual 210, 3) := by decide +kernel
theorem dX9_cond_177 : decode cX9_cond 177 = .ok (.bipush 6, 2) := by decide +kernel
theorem dX9_cond_179 : decode cX9_cond 179 = .ok (.istore 9, 2) := by decide +kernel
theorem dX9_cond_181 : decode cX9_cond 181 = .ok (.iconst 0, 1) := by decide +kernel
theorem dX9_cond_182 : decode cX9_cond 182 = .ok (.istore 10, 2) := by decide +kernel
theorem dX9_cond_184 : decode cX9_cond 184 = .ok (.iload 8, 2) := by decide +kernel
theorem dX9_cond_186 : decode cX9_cond 186 = .ok (.bipush 12, 2) := by decide +kernel
theorem dX9_cond_188 : decode cX9_cond 188 = .ok (.if_icmp .ne 83, 3) := by decide +kernel
theorem dX9_cond_191 : decode cX9_cond 191 = .ok (.aload_n 0, 1) := by decide +kernel
theorem dX9_cond_192 : decode cX9_cond 192 = .ok (.bipush 60, 2) := by decide +kernel
theorem dX9_cond_194 : decode cX9_cond 194 = .ok (.invokevirtual 207, 3) := by decide +kernel
theorem dX9_cond_197 : decode cX9_cond 197 = .ok (.ifCond .eq 7, 3) := by decide +kernel
theorem dX9_cond_200 : decode cX9_cond 200 = .ok (.iconst 0, 1) := by decide +kernel
theorem dX9_cond_201 : decode cX9_cond 201 = .ok (.goto 17, 3) := by decide +kernel
theorem dX9_cond_204 : decode cX9_cond 204 = .ok (.aload_n 0, 1) := by decide +kernel
theorem dX9_cond_205 : decode cX9_cond 205 = .ok (.bipush 62, 2) := by decide +kernel
theorem dX9_cond_207 : decode cX9_cond 207 = .ok (.invokevirtual 207, 3) := by decide +kernel
theorem dX9_cond_210 : decode cX9_cond 210 = .ok (.ifCond .eq 7, 3) := by decide +kernel
theorem dX9_cond_213 : decode cX9_cond 213 = .ok (.iconst 1, 1) := by decide +kernel
theorem dX9_cond_214 : decode cX9_cond 214 = .ok (.goto 4, 3) := by decide +kernel
theorem dX9_cond_217 : decode cX9_cond 217 = .ok (.iconst 2, 1) := by decide +kernel
theorem dX9_cond_218 : decode cX9_cond 218 = .ok (.istore 9, 2) := by decide +kernel
theorem dX9_cond_220 : decode cX9_cond 220 = .ok (.aload_n 0, 1) := by decide +kernel
theorem dX9_cond_221 : decode cX9_cond 221 = .ok (.bipush 60, 2) := by decide +kernel
theorem dX9_cond_223 : decode cX9_cond 223 = .ok (.invokevirtual 207, 3) := by decide +kernel
theorem dX9_cond_226 : decode cX9_cond 226 = .ok (.ifCond .ne 28, 3) := by decide +kernel
theorem dX9_cond_229 : decode cX9_cond 229 = .ok (.aload_n 0, 1) := by decide +kernel
theorem dX9_cond_230 : decode cX9_cond 230 = .ok (.bipush 62, 2) := by decide +kernel
theorem dX9_cond_232 : decode cX9_cond 232 = .ok (.invokevirtual 207, 3) := by decide +kernel
theorem dX9_cond_235 : decode cX9_cond 235 = .ok (.ifCond .ne 19, 3) := by decide +kernel
theorem dX9_cond_238 : decode cX9_cond 238 = .ok (.aload_n 0, 1) := by decide +kernel
theorem dX9_cond_239 : decode cX9_cond 239 = .ok (.bipush 61, 2) := by decide +kernel
theorem dX9_cond_241 : decode cX9_cond 241 = .ok (.invokevirtual 207, 3) := by decide +kernel
theorem dX9_cond_244 : decode cX9_cond 244 = .ok (.ifCond .ne 10, 3) := by decide +kernel
theorem dX9_cond_247 : decode cX9_cond 247 = .ok (.aload_n 0, 1) := by decide +kernel
theorem dX9_cond_248 : decode cX9_cond 248 = .ok (.invokevirtual 213, 3) := by decide +kernel
theorem dX9_cond_251 : decode cX9_cond 251 = .ok (.goto 7, 3) := by decide +kernel
theorem dX9_cond_254 : decode cX9_cond 254 = .ok (.aload_n 0, 1) := by decide +kernel
theorem dX9_cond_255 : decode cX9_cond 255 = .ok (.invokevirtual 210, 3) := by decide +kernel
theorem dX9_cond_258 : decode cX9_cond 258 = .ok (.aload_n 0, 1) := by decide +kernel
theorem dX9_cond_259 : decode cX9_cond 259 = .ok (.iconst 0, 1) := by decide +kernel
theorem dX9_cond_260 : decode cX9_cond 260 = .ok (.sipush 9999, 3) := by decide +kernel
theorem dX9_cond_263 : decode cX9_cond 263 = .ok (.invokevirtual 228, 3) := by decide +kernel
theorem dX9_cond_266 : decode cX9_cond 266 = .ok (.istore 10, 2) := by decide +kernel
theorem dX9_cond_268 : decode cX9_cond 268 = .ok (.goto 51, 3) := by decide +kernel
theorem dX9_cond_271 : decode cX9_cond 271 = .ok (.iload 8, 2) := by decide +kernel
theorem dX9_cond_273 : decode cX9_cond 273 = .ok (.bipush 10, 2) := by decide +kernel
theorem dX9_cond_275 : decode cX9_cond 275 = .ok (.if_icmp .eq 44, 3) := by decide +kernel
theorem dX9_cond_278 : decode cX9_cond 278 = .ok (.iload 8, 2) := by decide +kernel
theorem dX9_cond_280 : decode cX9_cond 280 = .ok (.bipush 13, 2) := by decide +kernel
theorem dX9_cond_282 : decode cX9_cond 282 = .ok (.if_icmp .ne 7, 3) := by decide +kernel
theorem dX9_cond_285 : decode cX9_cond 285 = .ok (.iconst 3, 1) := by decide +kernel
theorem dX9_cond_286 : decode cX9_cond 286 = .ok (.goto 15, 3) := by decide +kernel
theorem dX9_cond_289 : decode cX9_cond 289 = .ok (.iload 8, 2) := by decide +kernel
theorem dX9_cond_291 : decode cX9_cond 291 = .ok (.bipush 14, 2) := by decide +kernel
theorem dX9_cond_293 : decode cX9_cond 293 = .ok (.if_icmp .ne 7, 3) := by decide +kernel
theorem dX9_cond_296 : decode cX9_cond 296 = .ok (.iconst 4, 1) := by decide +kernel
theorem dX9_cond_297 : decode cX9_cond 297 = .ok (.goto 4, 3) := by decide +kernel
theorem dX9_cond_300 : decode cX9_cond 300 = .ok (.iconst 5, 1) := by decide +kernel
theorem dX9_cond_301 : decode cX9_cond 301 = .ok (.istore 9, 2) := by decide +kernel
theorem dX9_cond_303 : decode cX9_cond 303 = .ok (.aload_n 0, 1) := by decide +kernel
theorem dX9_cond_304 : decode cX9_cond 304 = .ok (.bipush 61, 2) := by decide +kernel
theorem dX9_cond_306 : decode cX9_cond 306 = .ok (.invokevirtual 231, 3) := by decide +kernel
theorem dX9_cond_309 : decode cX9_cond 309 = .ok (.aload_n 0, 1) := by decide +kernel
theorem dX9_cond_310 : decode cX9_cond 310 = .ok (.iconst 0, 1) := by decide +kernel
theorem dX9_cond_311 : decode cX9_cond 311 = .ok (.sipush 9999, 3) := by decide +kernel
theorem dX9_cond_314 : decode cX9_cond 314 = .ok (.invokevirtual 228, 3) := by decide +kernel
theorem dX9_cond_317 : decode cX9_cond 317 = .ok (.istore 10, 2) := by decide +kernel
theorem dX9_cond_319 : decode cX9_cond 319 = .ok (.aload_n 0, 1) := by decide +kernel
theorem dX9_cond_320 : decode cX9_cond 320 = .ok (.getfield 44, 3) := by decide +kernel
theorem dX9_cond_323 : decode cX9_cond 323 = .ok (.iload_n 2, 1) := by decide +kernel
theorem dX9_cond_324 : decode cX9_cond 324 = .ok (.iconst 2, 1) := by decide +kernel
theorem dX9_cond_325 : decode cX9_cond 325 = .ok (.iload_n 3, 1) := by decide +kernel
theorem dX9_cond_326 : decode cX9_cond 326 = .ok (.imul, 1) := by decide +kernel
theorem dX9_cond_327 : decode cX9_cond 327 = .ok (.iadd, 1) := by decide +kernel
theorem dX9_cond_328 : decode cX9_cond 328 = .ok (.iload 9, 2) := by decide +kernel
theorem dX9_cond_330 : decode cX9_cond 330 = .ok (.iastore, 1) := by decide +kernel
theorem dX9_cond_331 : decode cX9_cond 331 = .ok (.aload_n 0, 1) := by decide +kernel
theorem dX9_cond_332 : decode cX9_cond 332 = .ok (.getfield 44, 3) := by decide +kernel
theorem dX9_cond_335 : decode cX9_cond 335 = .ok (.iload_n 2, 1) := by decide +kernel
theorem dX9_cond_336 : decode cX9_cond 336 = .ok (.iconst 2, 1) := by decide +kernel
theorem dX9_cond_337 : decode cX9_cond 337 = .ok (.iload_n 3, 1) := by decide +kernel
theorem dX9_cond_338 : decode cX9_cond 338 = .ok (.imul, 1) := by decide +kernel
theorem dX9_cond_339 : decode cX9_cond 339 = .ok (.iadd, 1) := by decide +kernel
theorem dX9_cond_340 : decode cX9_cond 340 = .ok (.iconst 1, 1) := by decide +kernel
theorem dX9_cond_341 : decode cX9_cond 341 = .ok (.iadd, 1) := by decide +kernel
theorem dX9_cond_342 : decode cX9_cond 342 = .ok (.iload 10, 2) := by decide +kernel
theorem dX9_cond_344 : decode cX9_cond 344 = .ok (.iastore, 1) := by decide +kernel
theorem dX9_cond_345 : decode cX9_cond 345 = .ok (.iinc 3 1, 3) := by decide +kernel
theorem dX9_cond_348 : decode cX9_cond 348 = .ok (.iconst 0, 1) := by decide +kernel
theorem dX9_cond_349 : decode cX9_cond 349 = .ok (.istore 6, 2) := by decide +kernel
theorem dX9_cond_351 : decode cX9_cond 351 = .ok (.goto (-326), 3) := by decide +kernel
theorem dX9_cond_354 : decode cX9_cond 354 = .ok (.aload_n 0, 1) := by decide +kernel
theorem dX9_cond_355 : decode cX9_cond 355 = .ok (.invokevirtual 213, 3) := by decide +kernel
theorem dX9_cond_358 : decode cX9_cond 358 = .ok (.goto (-333), 3) := by decide +kernel
theorem dX9_cond_361 : decode cX9_cond 361 = .ok (.aload_n 0, 1) := by decide +kernel
theorem dX9_cond_362 : decode cX9_cond 362 = .ok (.bipush 38, 2) := by decide +kernel
theorem dX9_cond_364 : decode cX9_cond 364 = .ok (.invokevirtual 207, 3) := by decide +kernel
theorem dX9_cond_367 : decode cX9_cond 367 = .ok (.ifCond .ne 12, 3) := by decide +kernel
theorem dX9_cond_370 : decode cX9_cond 370 = .ok (.aload_n 0, 1) := by decide +kernel
theorem dX9_cond_371 : decode cX9_cond 371 = .ok (.bipush 124, 2) := by decide +kernel
theorem dX9_cond_373 : decode cX9_cond 373 = .ok (.invokevirtual 207, 3) := by decide +kernel
theorem dX9_cond_376 : decode cX9_cond 376 = .ok (.ifCond .eq 24, 3) := by decide +kernel
theorem dX9_cond_379 : decode cX9_cond 379 = .ok (.aload_n 0, 1) := by decide +kernel
theorem dX9_cond_380 : decode cX9_cond 380 = .ok (.iload_n 2, 1) := by decide +kernel
theorem dX9_cond_381 : decode cX9_cond 381 = .ok (.iload_n 3, 1) := by decide +kernel
theorem dX9_cond_382 : decode cX9_cond 382 = .ok (.aload_n 0, 1) := by decide +kernel
theorem dX9_cond_383 : decode cX9_cond 383 = .ok (.getfield 194, 3) := by decide +kernel
theorem dX9_cond_386 : decode cX9_cond 386 = .ok (.invokevirtual 225, 3) := by decide +kernel
theorem dX9_cond_389 : decode cX9_cond 389 = .ok (.istore_n 3, 1) := by decide +kernel
theorem dX9_cond_390 : decode cX9_cond 390 = .ok (.iconst 1, 1) := by decide +kernel
theorem dX9_cond_391 : decode cX9_cond 391 = .ok (.istore 6, 2) := by decide +kernel
theorem dX9_cond_393 : decode cX9_cond 393 = .ok (.aload_n 0, 1) := by decide +kernel
theorem dX9_cond_394 : decode cX9_cond 394 = .ok (.invokevirtual 210, 3) := by decide +kernel
theorem dX9_cond_397 : decode cX9_cond 397 = .ok (.goto (-372), 3) := by decide +kernel
theorem dX9_cond_400 : decode cX9_cond 400 = .ok (.aload_n 0, 1) := by decide +kernel
theorem dX9_cond_401 : decode cX9_cond 401 = .ok (.bipush 41, 2) := by decide +kernel
theorem dX9_cond_403 : decode cX9_cond 403 = .ok (.invokevirtual 207, 3) := by decide +kernel
theorem dX9_cond_406 : decode cX9_cond 406 = .ok (.ifCond .eq 29, 3) := by decide +kernel
theorem dX9_cond_409 : decode cX9_cond 409 = .ok (.iload 4, 2) := by decide +kernel
theorem dX9_cond_411 : decode cX9_cond 411 = .ok (.ifCond .le 24, 3) := by decide +kernel
theorem dX9_cond_414 : decode cX9_cond 414 = .ok (.aload_n 0, 1) := by decide +kernel
theorem dX9_cond_415 : decode cX9_cond 415 = .ok (.iload_n 2, 1) := by decide +kernel
theorem dX9_cond_416 : decode cX9_cond 416 = .ok (.iload_n 3, 1) := by decide +kernel
theorem dX9_cond_417 : decode cX9_cond 417 = .ok (.aload_n 0, 1) := by decide +kernel
theorem dX9_cond_418 : decode cX9_cond 418 = .ok (.getfield 194, 3) := by decide +kernel
theorem dX9_cond_421 : decode cX9_cond 421 = .ok (.invokevirtual 225, 3) := by decide +kernel
theorem dX9_cond_424 : decode cX9_cond 424 = .ok (.istore_n 3, 1) := by decide +kernel
theorem dX9_cond_425 : decode cX9_cond 425 = .ok (.iinc 4 (-1), 3) := by decide +kernel
theorem dX9_cond_428 : decode cX9_cond 428 = .ok (.aload_n 0, 1) := by decide +kernel
theorem dX9_cond_429 : decode cX9_cond 429 = .ok (.invokevirtual 210, 3) := by decide +kernel
theorem dX9_cond_432 : decode cX9_cond 432 = .ok (.goto (-407), 3) := by decide +kernel
theorem dX9_cond_435 : decode cX9_cond 435 = .ok (.iconst 0, 1) := by decide +kernel
theorem dX9_cond_436 : decode cX9_cond 436 = .ok (.istore 7, 2) := by decide +kernel
theorem dX9_cond_438 : decode cX9_cond 438 = .ok (.iload 4, 2) := by decide +kernel
theorem dX9_cond_440 : decode cX9_cond 440 = .ok (.ifCond .le (-415), 3) := by decide +kernel
theorem dX9_cond_443 : decode cX9_cond 443 = .ok (.aload_n 0, 1) := by decide +kernel
theorem dX9_cond_444 : decode cX9_cond 444 = .ok (.invokevirtual 213, 3) := by decide +kernel
theorem dX9_cond_447 : decode cX9_cond 447 = .ok (.goto (-422), 3) := by decide +kernel
theorem dX9_cond_450 : decode cX9_cond 450 = .ok (.aload_n 0, 1) := by decide +kernel
theorem dX9_cond_451 : decode cX9_cond 451 = .ok (.getfield 41, 3) := by decide +kernel
theorem dX9_cond_454 : decode cX9_cond 454 = .ok (.sipush 320, 3) := by decide +kernel
theorem dX9_cond_457 : decode cX9_cond 457 = .ok (.bipush 20, 2) := by decide +kernel
theorem dX9_cond_459 : decode cX9_cond 459 = .ok (.iload_n 1, 1) := by decide +kernel
theorem dX9_cond_460 : decode cX9_cond 460 = .ok (.imul, 1) := by decide +kernel
theorem dX9_cond_461 : decode cX9_cond 461 = .ok (.iadd, 1) := by decide +kernel
theorem dX9_cond_462 : decode cX9_cond 462 = .ok (.iconst 4, 1) := by decide +kernel
theorem dX9_cond_463 : decode cX9_cond 463 = .ok (.iadd, 1) := by decide +kernel
theorem dX9_cond_464 : decode cX9_cond 464 = .ok (.iload_n 3, 1) := by decide +kernel
theorem dX9_cond_465 : decode cX9_cond 465 = .ok (.iastore, 1) := by decide +kernel
theorem dX9_cond_466 : decode cX9_cond 466 = .ok (.aload_n 0, 1) := by decide +kernel
theorem dX9_cond_467 : decode cX9_cond 467 = .ok (.getfield 41, 3) := by decide +kernel
theorem dX9_cond_470 : decode cX9_cond 470 = .ok (.sipush 320, 3) := by decide +kernel
theorem dX9_cond_473 : decode cX9_cond 473 = .ok (.bipush 20, 2) := by decide +kernel
theorem dX9_cond_475 : decode cX9_cond 475 = .ok (.iload_n 1, 1) := by decide +kernel
theorem dX9_cond_476 : decode cX9_cond 476 = .ok (.imul, 1) := by decide +kernel
theorem dX9_cond_477 : decode cX9_cond 477 = .ok (.iadd, 1) := by decide +kernel
theorem dX9_cond_478 : decode cX9_cond 478 = .ok (.bipush 13, 2) := by decide +kernel
theorem dX9_cond_480 : decode cX9_cond 480 = .ok (.iadd, 1) := by decide +kernel
theorem dX9_cond_481 : decode cX9_cond 481 = .ok (.aload_n 0, 1) := by decide +kernel
theorem dX9_cond_482 : decode cX9_cond 482 = .ok (.getfield 222, 3) := by decide +kernel
theorem dX9_cond_485 : decode cX9_cond 485 = .ok (.iastore, 1) := by decide +kernel
theorem dX9_cond_486 : decode cX9_cond 486 = .ok (.aload_n 0, 1) := by decide +kernel
theorem dX9_cond_487 : decode cX9_cond 487 = .ok (.dup, 1) := by decide +kernel
theorem dX9_cond_488 : decode cX9_cond 488 = .ok (.getfield 222, 3) := by decide +kernel
theorem dX9_cond_491 : decode cX9_cond 491 = .ok (.iload_n 3, 1) := by decide +kernel
theorem dX9_cond_492 : decode cX9_cond 492 = .ok (.iadd, 1) := by decide +kernel
theorem dX9_cond_493 : decode cX9_cond 493 = .ok (.putfield 222, 3) := by decide +kernel
theorem dX9_cond_496 : decode cX9_cond 496 = .ok (.return_, 1) := by decide +kernel
theorem dX9_waits_0 : decode cX9_waits 0 = .ok (.iload_n 3, 1) := by decide +kernel
theorem dX9_waits_1 : decode cX9_waits 1 = .ok (.bipush 33, 2) := by decide +kernel
theorem dX9_waits_3 : decode cX9_waits 3 = .ok (.if_icmp .ne 28, 3) := by decide +kernel
theorem dX9_waits_6 : decode cX9_waits 6 = .ok (.iload_n 2, 1) := by decide +kernel
theorem dX9_waits_7 : decode cX9_waits 7 = .ok (.ifCond .le 24, 3) := by decide +kernel
theorem dX9_waits_10 : decode cX9_waits 10 = .ok (.aload_n 0, 1) := by decide +kernel
theorem dX9_waits_11 : decode cX9_waits 11 = .ok (.getfield 44, 3) := by decide +kernel
theorem dX9_waits_14 : decode cX9_waits 14 = .ok (.iload_n 1, 1) := by decide +kernel
theorem dX9_waits_15 : decode cX9_waits 15 = .ok (.iconst 2, 1) := by decide +kernel
theorem dX9_waits_16 : decode cX9_waits 16 = .ok (.iload_n 2, 1) := by decide +kernel
theorem dX9_waits_17 : decode cX9_waits 17 = .ok (.imul, 1) := by decide +kernel
theorem dX9_waits_18 : decode cX9_waits 18 = .ok (.iadd, 1) := by decide +kernel
theorem dX9_waits_19 : decode cX9_waits 19 = .ok (.iconst 2, 1) := by decide +kernel
theorem dX9_waits_20 : decode cX9_waits 20 = .ok (.isub, 1) := by decide +kernel
theorem dX9_waits_21 : decode cX9_waits 21 = .ok (.iaload, 1) := by decide +kernel
theorem dX9_waits_22 : decode cX9_waits 22 = .ok (.bipush 33, 2) := by decide +kernel
theorem dX9_waits_24 : decode cX9_waits 24 = .ok (.if_icmp .ne 7, 3) := by decide +kernel
theorem dX9_waits_27 : decode cX9_waits 27 = .ok (.iload_n 2, 1) := by decide +kernel
theorem dX9_waits_28 : decode cX9_waits 28 = .ok (.iconst 1, 1) := by decide +kernel
theorem dX9_waits_29 : decode cX9_waits 29 = .ok (.isub, 1) := by decide +kernel
theorem dX9_waits_30 : decode cX9_waits 30 = .ok (.ireturn, 1) := by decide +kernel
theorem dX9_waits_31 : decode cX9_waits 31 = .ok (.aload_n 0, 1) := by decide +kernel
theorem dX9_waits_32 : decode cX9_waits 32 = .ok (.getfield 44, 3) := by decide +kernel
theorem dX9_waits_35 : decode cX9_waits 35 = .ok (.iload_n 1, 1) := by decide +kernel
theorem dX9_waits_36 : decode cX9_waits 36 = .ok (.iconst 2, 1) := by decide +kernel
theorem dX9_waits_37 : decode cX9_waits 37 = .ok (.iload_n 2, 1) := by decide +kernel
theorem dX9_waits_38 : decode cX9_waits 38 = .ok (.imul, 1) := by decide +kernel
theorem dX9_waits_39 : decode cX9_waits 39 = .ok (.iadd, 1) := by decide +kernel
theorem dX9_waits_40 : decode cX9_waits 40 = .ok (.iload_n 3, 1) := by decide +kernel
theorem dX9_waits_41 : decode cX9_waits 41 = .ok (.iastore, 1) := by decide +kernel
theorem dX9_waits_42 : decode cX9_waits 42 = .ok (.iload_n 2, 1) := by decide +kernel
theorem dX9_waits_43 : decode cX9_waits 43 = .ok (.iconst 1, 1) := by decide +kernel
theorem dX9_waits_44 : decode cX9_waits 44 = .ok (.iadd, 1) := by decide +kernel
theorem dX9_waits_45 : decode cX9_waits 45 = .ok (.ireturn, 1) := by decide +kernel
theorem dX9_duties_0 : decode cX9_duties 0 = .ok (.sipush 320, 3) := by decide +kernel
theorem dX9_duties_3 : decode cX9_duties 3 = .ok (.bipush 20, 2) := by decide +kernel
theorem dX9_duties_5 : decode cX9_duties 5 = .ok (.iload_n 1, 1) := by decide +kernel
theorem dX9_duties_6 : decode cX9_duties 6 = .ok (.imul, 1) := by decide +kernel
theorem dX9_duties_7 : decode cX9_duties 7 = .ok (.iadd, 1) := by decide +kernel
theorem dX9_duties_8 : decode cX9_duties 8 = .ok (.istore_n 2, 1) := by decide +kernel
theorem dX9_duties_9 : decode cX9_duties 9 = .ok (.iconst 0, 1) := by decide +kernel
theorem dX9_duties_10 : decode cX9_duties 10 = .ok (.istore_n 3, 1) := by decide +kernel
theorem dX9_duties_11 : decode cX9_duties 11 = .ok (.iconst 1, 1) := by decide +kernel
theorem dX9_duties_12 : decode cX9_duties 12 = .ok (.istore 4, 2) := by decide +kernel
theorem dX9_duties_14 : decode cX9_duties 14 = .ok (.iload 4, 2) := by decide +kernel
theorem dX9_duties_16 : decode cX9_duties 16 = .ok (.ifCond .eq 281, 3) := by decide +kernel
theorem dX9_duties_19 : decode cX9_duties 19 = .ok (.aload_n 0, 1) := by decide +kernel
theorem dX9_duties_20 : decode cX9_duties 20 = .ok (.invokevirtual 203, 3) := by decide +kernel
theorem dX9_duties_23 : decode cX9_duties 23 = .ok (.ifCond .eq 274, 3) := by decide +kernel
theorem dX9_duties_26 : decode cX9_duties 26 = .ok (.aload_n 0, 1) := by decide +kernel
theorem dX9_duties_27 : decode cX9_duties 27 = .ok (.getfield 191, 3) := by decide +kernel
theorem dX9_duties_30 : decode cX9_duties 30 = .ok (.iconst 1, 1) := by decide +kernel
theorem dX9_duties_31 : decode cX9_duties 31 = .ok (.if_icmp .ne 10, 3) := by decide +kernel
theorem dX9_duties_34 : decode cX9_duties 34 = .ok (.aload_n 0, 1) := by decide +kernel
theorem dX9_duties_35 : decode cX9_duties 35 = .ok (.getfield 194, 3) := by decide +kernel
theorem dX9_duties_38 : decode cX9_duties 38 = .ok (.goto 4, 3) := by decide +kernel
theorem dX9_duties_41 : decode cX9_duties 41 = .ok (.iconst (-1), 1) := by decide +kernel
theorem dX9_duties_42 : decode cX9_duties 42 = .ok (.istore 5, 2) := by decide +kernel
theorem dX9_duties_44 : decode cX9_duties 44 = .ok (.iload 5, 2) := by decide +kernel
theorem dX9_duties_46 : decode cX9_duties 46 = .ok (.iconst 5, 1) := by decide +kernel
theorem dX9_duties_47 : decode cX9_duties 47 = .ok (.if_icmp .ne 8, 3) := by decide +kernel
theorem dX9_duties_50 : decode cX9_duties 50 = .ok (.bipush 6, 2) := by decide +kernel
theorem dX9_duties_52 : decode cX9_duties 52 = .ok (.goto 64, 3) := by decide +kernel
theorem dX9_duties_55 : decode cX9_duties 55 = .ok (.iload 5, 2) := by decide +kernel
theorem dX9_duties_57 : decode cX9_duties 57 = .ok (.bipush 6, 2) := by decide +kernel
theorem dX9_duties_59 : decode cX9_duties 59 = .ok (.if_icmp .ne 8, 3) := by decide +kernel
theorem dX9_duties_62 : decode cX9_duties 62 = .ok (.bipush 7, 2) := by decide +kernel
theorem dX9_duties_64 : decode cX9_duties 64 = .ok (.goto 52, 3) := by decide +kernel
theorem dX9_duties_67 : decode cX9_duties 67 = .ok (.iload 5, 2) := by decide +kernel
theorem dX9_duties_69 : decode cX9_duties 69 = .ok (.bipush 8, 2) := by decide +kernel
theorem dX9_duties_71 : decode cX9_duties 71 = .ok (.if_icmp .ne 8, 3) := by decide +kernel
theorem dX9_duties_74 : decode cX9_duties 74 = .ok (.bipush 9, 2) := by decide +kernel
theorem dX9_duties_76 : decode cX9_duties 76 = .ok (.goto 40, 3) := by decide +kernel
theorem dX9_duties_79 : decode cX9_duties 79 = .ok (.iload 5, 2) := by decide +kernel
theorem dX9_duties_81 : decode cX9_duties 81 = .ok (.bipush 9, 2) := by decide +kernel
theorem dX9_duties_83 : decode cX9_duties 83 = .ok (.if_icmp .ne 8, 3) := by decide +kernel
theorem dX9_duties_86 : decode cX9_duties 86 = .ok (.bipush 10, 2) := by decide +kernel
theorem dX9_duties_88 : decode cX9_duties 88 = .ok (.goto 28, 3) := by decide +kernel
theorem dX9_duties_91 : decode cX9_duties 91 = .ok (.iload 5, 2) := by decide +kernel
theorem dX9_duties_93 : decode cX9_duties 93 = .ok (.bipush 10, 2) := by decide +kernel
theorem dX9_duties_95 : decode cX9_duties 95 = .ok (.if_icmp .ne 8, 3) := by decide +kernel
theorem dX9_duties_98 : decode cX9_duties 98 = .ok (.bipush 11, 2) := by decide +kernel
theorem dX9_duties_100 : decode cX9_duties 100 = .ok (.goto 16, 3) := by decide +kernel
theorem dX9_duties_103 : decode cX9_duties 103 = .ok (.iload 5, 2) := by decide +kernel
theorem dX9_duties_105 : decode cX9_duties 105 = .ok (.bipush 11, 2) := by decide +kernel
theorem dX9_duties_107 : decode cX9_duties 107 = .ok (.if_icmp .ne 8, 3) := by decide +kernel
theorem dX9_duties_110 : decode cX9_duties 110 = .ok (.bipush 12, 2) := by decide +kernel
theorem dX9_duties_112 : decode cX9_duties 112 = .ok (.goto 4, 3) := by decide +kernel
theorem dX9_duties_115 : decode cX9_duties 115 = .ok (.iconst (-1), 1) := by decide +kernel
theorem dX9_duties_116 : decode cX9_duties 116 = .ok (.istore 6, 2) := by decide +kernel
theorem dX9_duties_118 : decode cX9_duties 118 = .ok (.iload 6, 2) := by decide +kernel
theorem dX9_duties_120 : decode cX9_duties 120 = .ok (.ifCond .lt 22, 3) := by decide +kernel
theorem dX9_duties_123 : decode cX9_duties 123 = .ok (.iload_n 3, 1) := by decide +kernel
theorem dX9_duties_124 : decode cX9_duties 124 = .ok (.iconst 4, 1) := by decide +kernel
theorem dX9_duties_125 : decode cX9_duties 125 = .ok (.if_icmp .eq 17, 3) := by decide +kernel
theorem dX9_duties_128 : decode cX9_duties 128 = .ok (.aload_n 0, 1) := by decide +kernel
theorem dX9_duties_129 : decode cX9_duties 129 = .ok (.getfield 41, 3) := by decide +kernel
theorem dX9_duties_132 : decode cX9_duties 132 = .ok (.iload_n 2, 1) := by decide +kernel
theorem dX9_duties_133 : decode cX9_duties 133 = .ok (.iload 6, 2) := by decide +kernel
theorem dX9_duties_135 : decode cX9_duties 135 = .ok (.iadd, 1) := by decide +kernel
theorem dX9_duties_136 : decode cX9_duties 136 = .ok (.iaload, 1) := by decide +kernel
theorem dX9_duties_137 : decode cX9_duties 137 = .ok (.bipush (-9), 2) := by decide +kernel
theorem dX9_duties_139 : decode cX9_duties 139 = .ok (.if_icmp .eq 8, 3) := by decide +kernel
theorem dX9_duties_142 : decode cX9_duties 142 = .ok (.aload_n 0, 1) := by decide +kernel
theorem dX9_duties_143 : decode cX9_duties 143 = .ok (.invokevirtual 213, 3) := by decide +kernel
theorem dX9_duties_146 : decode cX9_duties 146 = .ok (.return_, 1) := by decide +kernel
theorem dX9_duties_147 : decode cX9_duties 147 = .ok (.aload_n 0, 1) := by decide +kernel
theorem dX9_duties_148 : decode cX9_duties 148 = .ok (.invokevirtual 210, 3) := by decide +kernel
theorem dX9_duties_151 : decode cX9_duties 151 = .ok (.iinc 3 1, 3) := by decide +kernel
theorem dX9_duties_154 : decode cX9_duties 154 = .ok (.iload 5, 2) := by decide +kernel
theorem dX9_duties_156 : decode cX9_duties 156 = .ok (.bipush 6, 2) := by decide +kernel
theorem dX9_duties_158 : decode cX9_duties 158 = .ok (.if_icmp .ne 56, 3) := by decide +kernel
theorem dX9_duties_161 : decode cX9_duties 161 = .ok (.aload_n 0, 1) := by decide +kernel
theorem dX9_duties_162 : decode cX9_duties 162 = .ok (.getfield 41, 3) := by decide +kernel
theorem dX9_duties_165 : decode cX9_duties 165 = .ok (.iload_n 2, 1) := by decide +kernel
theorem dX9_duties_166 : decode cX9_duties 166 = .ok (.bipush 7, 2) := by decide +kernel
theorem dX9_duties_168 : decode cX9_duties 168 = .ok (.iadd, 1) := by decide +kernel
theorem dX9_duties_169 : decode cX9_duties 169 = .ok (.aload_n 0, 1) := by decide +kernel
theorem dX9_duties_170 : decode cX9_duties 170 = .ok (.iconst 0, 1) := by decide +kernel
theorem dX9_duties_171 : decode cX9_duties 171 = .ok (.sipush 1439, 3) := by decide +kernel
theorem dX9_duties_174 : decode cX9_duties 174 = .ok (.invokevirtual 228, 3) := by decide +kernel
theorem dX9_duties_177 : decode cX9_duties 177 = .ok (.iastore, 1) := by decide +kernel
theorem dX9_duties_178 : decode cX9_duties 178 = .ok (.aload_n 0, 1) := by decide +kernel
theorem dX9_duties_179 : decode cX9_duties 179 = .ok (.bipush 7, 2) := by decide +kernel
theorem dX9_duties_181 : decode cX9_duties 181 = .ok (.invokevirtual 235, 3) := by decide +kernel
theorem dX9_duties_184 : decode cX9_duties 184 = .ok (.aload_n 0, 1) := by decide +kernel
theorem dX9_duties_185 : decode cX9_duties 185 = .ok (.getfield 41, 3) := by decide +kernel
theorem dX9_duties_188 : decode cX9_duties 188 = .ok (.iload_n 2, 1) := by decide +kernel
theorem dX9_duties_189 : decode cX9_duties 189 = .ok (.bipush 8, 2) := by decide +kernel
theorem dX9_duties_191 : decode cX9_duties 191 = .ok (.iadd, 1) := by decide +kernel
theorem dX9_duties_192 : decode cX9_duties 192 = .ok (.aload_n 0, 1) := by decide +kernel
theorem dX9_duties_193 : decode cX9_duties 193 = .ok (.aload_n 0, 1) := by decide +kernel
theorem dX9_duties_194 : decode cX9_duties 194 = .ok (.getfield 41, 3) := by decide +kernel
theorem dX9_duties_197 : decode cX9_duties 197 = .ok (.iload_n 2, 1) := by decide +kernel
theorem dX9_duties_198 : decode cX9_duties 198 = .ok (.bipush 7, 2) := by decide +kernel
theorem dX9_duties_200 : decode cX9_duties 200 = .ok (.iadd, 1) := by decide +kernel
theorem dX9_duties_201 : decode cX9_duties 201 = .ok (.iaload, 1) := by decide +kernel
theorem dX9_duties_202 : decode cX9_duties 202 = .ok (.iconst 1, 1) := by decide +kernel
theorem dX9_duties_203 : decode cX9_duties 203 = .ok (.iadd, 1) := by decide +kernel
theorem dX9_duties_204 : decode cX9_duties 204 = .ok (.sipush 1439, 3) := by decide +kernel
theorem dX9_duties_207 : decode cX9_duties 207 = .ok (.invokevirtual 228, 3) := by decide +kernel
theorem dX9_duties_210 : decode cX9_duties 210 = .ok (.iastore, 1) := by decide +kernel
theorem dX9_duties_211 : decode cX9_duties 211 = .ok (.goto 66, 3) := by decide +kernel
theorem dX9_duties_214 : decode cX9_duties 214 = .ok (.aload_n 0, 1) := by decide +kernel
theorem dX9_duties_215 : decode cX9_duties 215 = .ok (.getfield 41, 3) := by decide +kernel
theorem dX9_duties_218 : decode cX9_duties 218 = .ok (.iload_n 2, 1) := by decide +kernel
theorem dX9_duties_219 : decode cX9_duties 219 = .ok (.iload 6, 2) := by decide +kernel
theorem dX9_duties_221 : decode cX9_duties 221 = .ok (.iadd, 1) := by decide +kernel
theorem dX9_duties_222 : decode cX9_duties 222 = .ok (.iload 5, 2) := by decide +kernel
theorem dX9_duties_224 : decode cX9_duties 224 = .ok (.iconst 5, 1) := by decide +kernel
theorem dX9_duties_225 : decode cX9_duties 225 = .ok (.if_icmp .ne 14, 3) := by decide +kernel
theorem dX9_duties_228 : decode cX9_duties 228 = .ok (.aload_n 0, 1) := by decide +kernel
theorem dX9_duties_229 : decode cX9_duties 229 = .ok (.iconst 0, 1) := by decide +kernel
theorem dX9_duties_230 : decode cX9_duties 230 = .ok (.sipush 1440, 3) := by decide +kernel
theorem dX9_duties_233 : decode cX9_duties 233 = .ok (.invokevirtual 228, 3) := by decide +kernel
theorem dX9_duties_236 : decode cX9_duties 236 = .ok (.goto 40, 3) := by decide +kernel
theorem dX9_duties_239 : decode cX9_duties 239 = .ok (.iload 5, 2) := by decide +kernel
theorem dX9_duties_241 : decode cX9_duties 241 = .ok (.bipush 8, 2) := by decide +kernel
theorem dX9_duties_243 : decode cX9_duties 243 = .ok (.if_icmp .ne 14, 3) := by decide +kernel
theorem dX9_duties_246 : decode cX9_duties 246 = .ok (.aload_n 0, 1) := by decide +kernel
theorem dX9_duties_247 : decode cX9_duties 247 = .ok (.iconst 0, 1) := by decide +kernel
theorem dX9_duties_248 : decode cX9_duties 248 = .ok (.sipush 600, 3) := by decide +kernel
theorem dX9_duties_251 : decode cX9_duties 251 = .ok (.invokevirtual 228, 3) := by decide +kernel
theorem dX9_duties_254 : decode cX9_duties 254 = .ok (.goto 22, 3) := by decide +kernel
theorem dX9_duties_257 : decode cX9_duties 257 = .ok (.iload 5, 2) := by decide +kernel
theorem dX9_duties_259 : decode cX9_duties 259 = .ok (.bipush 9, 2) := by decide +kernel
theorem dX9_duties_261 : decode cX9_duties 261 = .ok (.if_icmp .ne 14, 3) := by decide +kernel
theorem dX9_duties_264 : decode cX9_duties 264 = .ok (.aload_n 0, 1) := by decide +kernel
theorem dX9_duties_265 : decode cX9_duties 265 = .ok (.iconst 1, 1) := by decide +kernel
theorem dX9_duties_266 : decode cX9_duties 266 = .ok (.sipush 1440, 3) := by decide +kernel
theorem dX9_duties_269 : decode cX9_duties 269 = .ok (.invokevirtual 228, 3) := by decide +kernel
theorem dX9_duties_272 : decode cX9_duties 272 = .ok (.goto 4, 3) := by decide +kernel
theorem dX9_duties_275 : decode cX9_duties 275 = .ok (.iconst 1, 1) := by decide +kernel
theorem dX9_duties_276 : decode cX9_duties 276 = .ok (.iastore, 1) := by decide +kernel
theorem dX9_duties_277 : decode cX9_duties 277 = .ok (.aload_n 0, 1) := by decide +kernel
theorem dX9_duties_278 : decode cX9_duties 278 = .ok (.bipush 44, 2) := by decide +kernel
theorem dX9_duties_280 : decode cX9_duties 280 = .ok (.invokevirtual 207, 3) := by decide +kernel
theorem dX9_duties_283 : decode cX9_duties 283 = .ok (.istore 4, 2) := by decide +kernel
theorem dX9_duties_285 : decode cX9_duties 285 = .ok (.iload 4, 2) := by decide +kernel
theorem dX9_duties_287 : decode cX9_duties 287 = .ok (.ifCond .eq 7, 3) := by decide +kernel
theorem dX9_duties_290 : decode cX9_duties 290 = .ok (.aload_n 0, 1) := by decide +kernel
theorem dX9_duties_291 : decode cX9_duties 291 = .ok (.invokevirtual 210, 3) := by decide +kernel
theorem dX9_duties_294 : decode cX9_duties 294 = .ok (.goto (-280), 3) := by decide +kernel
theorem dX9_duties_297 : decode cX9_duties 297 = .ok (.aload_n 0, 1) := by decide +kernel
theorem dX9_duties_298 : decode cX9_duties 298 = .ok (.getfield 41, 3) := by decide +kernel
theorem dX9_duties_301 : decode cX9_duties 301 = .ok (.iload_n 2, 1) := by decide +kernel
theorem dX9_duties_302 : decode cX9_duties 302 = .ok (.iconst 5, 1) := by decide +kernel
theorem dX9_duties_303 : decode cX9_duties 303 = .ok (.iadd, 1) := by decide +kernel
theorem dX9_duties_304 : decode cX9_duties 304 = .ok (.iload_n 3, 1) := by decide +kernel
theorem dX9_duties_305 : decode cX9_duties 305 = .ok (.iastore, 1) := by decide +kernel
theorem dX9_duties_306 : decode cX9_duties 306 = .ok (.return_, 1) := by decide +kernel
theorem dX9_readsRule_0 : decode cX9_readsRule 0 = .ok (.aload_n 0, 1) := by decide +kernel
theorem dX9_readsRule_1 : decode cX9_readsRule 1 = .ok (.getfield 219, 3) := by decide +kernel
theorem dX9_readsRule_4 : decode cX9_readsRule 4 = .ok (.bipush 16, 2) := by decide +kernel
theorem dX9_readsRule_6 : decode cX9_readsRule 6 = .ok (.if_icmp .ne 8, 3) := by decide +kernel
theorem dX9_readsRule_9 : decode cX9_readsRule 9 = .ok (.aload_n 0, 1) := by decide +kernel
theorem dX9_readsRule_10 : decode cX9_readsRule 10 = .ok (.invokevirtual 213, 3) := by decide +kernel
theorem dX9_readsRule_13 : decode cX9_readsRule 13 = .ok (.return_, 1) := by decide +kernel
theorem dX9_readsRule_14 : decode cX9_readsRule 14 = .ok (.aload_n 0, 1) := by decide +kernel
theorem dX9_readsRule_15 : decode cX9_readsRule 15 = .ok (.invokevirtual 210, 3) := by decide +kernel
theorem dX9_readsRule_18 : decode cX9_readsRule 18 = .ok (.sipush 320, 3) := by decide +kernel
theorem dX9_readsRule_21 : decode cX9_readsRule 21 = .ok (.bipush 20, 2) := by decide +kernel
theorem dX9_readsRule_23 : decode cX9_readsRule 23 = .ok (.aload_n 0, 1) := by decide +kernel
theorem dX9_readsRule_24 : decode cX9_readsRule 24 = .ok (.getfield 219, 3) := by decide +kernel
theorem dX9_readsRule_27 : decode cX9_readsRule 27 = .ok (.imul, 1) := by decide +kernel
theorem dX9_readsRule_28 : decode cX9_readsRule 28 = .ok (.iadd, 1) := by decide +kernel
theorem dX9_readsRule_29 : decode cX9_readsRule 29 = .ok (.istore_n 1, 1) := by decide +kernel
theorem dX9_readsRule_30 : decode cX9_readsRule 30 = .ok (.iconst 0, 1) := by decide +kernel
theorem dX9_readsRule_31 : decode cX9_readsRule 31 = .ok (.istore_n 2, 1) := by decide +kernel
theorem dX9_readsRule_32 : decode cX9_readsRule 32 = .ok (.iload_n 2, 1) := by decide +kernel
theorem dX9_readsRule_33 : decode cX9_readsRule 33 = .ok (.bipush 20, 2) := by decide +kernel
theorem dX9_readsRule_35 : decode cX9_readsRule 35 = .ok (.if_icmp .ge 19, 3) := by decide +kernel
theorem dX9_readsRule_38 : decode cX9_readsRule 38 = .ok (.aload_n 0, 1) := by decide +kernel
theorem dX9_readsRule_39 : decode cX9_readsRule 39 = .ok (.getfield 41, 3) := by decide +kernel
theorem dX9_readsRule_42 : decode cX9_readsRule 42 = .ok (.iload_n 1, 1) := by decide +kernel
theorem dX9_readsRule_43 : decode cX9_readsRule 43 = .ok (.iload_n 2, 1) := by decide +kernel
theorem dX9_readsRule_44 : decode cX9_readsRule 44 = .ok (.iadd, 1) := by decide +kernel
theorem dX9_readsRule_45 : decode cX9_readsRule 45 = .ok (.bipush (-9), 2) := by decide +kernel
theorem dX9_readsRule_47 : decode cX9_readsRule 47 = .ok (.iastore, 1) := by decide +kernel
theorem dX9_readsRule_48 : decode cX9_readsRule 48 = .ok (.iinc 2 1, 3) := by decide +kernel
theorem dX9_readsRule_51 : decode cX9_readsRule 51 = .ok (.goto (-19), 3) := by decide +kernel
theorem dX9_readsRule_54 : decode cX9_readsRule 54 = .ok (.aload_n 0, 1) := by decide +kernel
theorem dX9_readsRule_55 : decode cX9_readsRule 55 = .ok (.getfield 41, 3) := by decide +kernel
theorem dX9_readsRule_58 : decode cX9_readsRule 58 = .ok (.iload_n 1, 1) := by decide +kernel
theorem dX9_readsRule_59 : decode cX9_readsRule 59 = .ok (.iconst 4, 1) := by decide +kernel
theorem dX9_readsRule_60 : decode cX9_readsRule 60 = .ok (.iadd, 1) := by decide +kernel
theorem dX9_readsRule_61 : decode cX9_readsRule 61 = .ok (.iconst 0, 1) := by decide +kernel
theorem dX9_readsRule_62 : decode cX9_readsRule 62 = .ok (.iastore, 1) := by decide +kernel
theorem dX9_readsRule_63 : decode cX9_readsRule 63 = .ok (.aload_n 0, 1) := by decide +kernel
theorem dX9_readsRule_64 : decode cX9_readsRule 64 = .ok (.invokevirtual 203, 3) := by decide +kernel
theorem dX9_readsRule_67 : decode cX9_readsRule 67 = .ok (.ifCond .eq 26, 3) := by decide +kernel
theorem dX9_readsRule_70 : decode cX9_readsRule 70 = .ok (.aload_n 0, 1) := by decide +kernel
theorem dX9_readsRule_71 : decode cX9_readsRule 71 = .ok (.getfield 191, 3) := by decide +kernel
theorem dX9_readsRule_74 : decode cX9_readsRule 74 = .ok (.iconst 2, 1) := by decide +kernel
theorem dX9_readsRule_75 : decode cX9_readsRule 75 = .ok (.if_icmp .ne 18, 3) := by decide +kernel
theorem dX9_readsRule_78 : decode cX9_readsRule 78 = .ok (.aload_n 0, 1) := by decide +kernel
theorem dX9_readsRule_79 : decode cX9_readsRule 79 = .ok (.aload_n 0, 1) := by decide +kernel
theorem dX9_readsRule_80 : decode cX9_readsRule 80 = .ok (.getfield 194, 3) := by decide +kernel
theorem dX9_readsRule_83 : decode cX9_readsRule 83 = .ok (.invokevirtual 238, 3) := by decide +kernel
theorem dX9_readsRule_86 : decode cX9_readsRule 86 = .ok (.ifCond .lt 7, 3) := by decide +kernel
theorem dX9_readsRule_89 : decode cX9_readsRule 89 = .ok (.aload_n 0, 1) := by decide +kernel
theorem dX9_readsRule_90 : decode cX9_readsRule 90 = .ok (.invokevirtual 213, 3) := by decide +kernel
theorem dX9_readsRule_93 : decode cX9_readsRule 93 = .ok (.aload_n 0, 1) := by decide +kernel
theorem dX9_readsRule_94 : decode cX9_readsRule 94 = .ok (.getfield 41, 3) := by decide +kernel
theorem dX9_readsRule_97 : decode cX9_readsRule 97 = .ok (.iload_n 1, 1) := by decide +kernel
theorem dX9_readsRule_98 : decode cX9_readsRule 98 = .ok (.aload_n 0, 1) := by decide +kernel
theorem dX9_readsRule_99 : decode cX9_readsRule 99 = .ok (.iconst 1, 1) := by decide +kernel
theorem dX9_readsRule_100 : decode cX9_readsRule 100 = .ok (.bipush 99, 2) := by decide +kernel
theorem dX9_readsRule_102 : decode cX9_readsRule 102 = .ok (.invokevirtual 228, 3) := by decide +kernel
theorem dX9_readsRule_105 : decode cX9_readsRule 105 = .ok (.iastore, 1) := by decide +kernel
theorem dX9_readsRule_106 : decode cX9_readsRule 106 = .ok (.aload_n 0, 1) := by decide +kernel
theorem dX9_readsRule_107 : decode cX9_readsRule 107 = .ok (.iconst 1, 1) := by decide +kernel
theorem dX9_readsRule_108 : decode cX9_readsRule 108 = .ok (.invokevirtual 235, 3) := by decide +kernel
theorem dX9_readsRule_111 : decode cX9_readsRule 111 = .ok (.aload_n 0, 1) := by decide +kernel
theorem dX9_readsRule_112 : decode cX9_readsRule 112 = .ok (.getfield 41, 3) := by decide +kernel
theorem dX9_readsRule_115 : decode cX9_readsRule 115 = .ok (.iload_n 1, 1) := by decide +kernel
theorem dX9_readsRule_116 : decode cX9_readsRule 116 = .ok (.iconst 1, 1) := by decide +kernel
theorem dX9_readsRule_117 : decode cX9_readsRule 117 = .ok (.iadd, 1) := by decide +kernel
theorem dX9_readsRule_118 : decode cX9_readsRule 118 = .ok (.aload_n 0, 1) := by decide +kernel
theorem dX9_readsRule_119 : decode cX9_readsRule 119 = .ok (.iconst 0, 1) := by decide +kernel
theorem dX9_readsRule_120 : decode cX9_readsRule 120 = .ok (.sipush 359, 3) := by decide +kernel
theorem dX9_readsRule_123 : decode cX9_readsRule 123 = .ok (.invokevirtual 228, 3) := by decide +kernel
theorem dX9_readsRule_126 : decode cX9_readsRule 126 = .ok (.iastore, 1) := by decide +kernel
theorem dX9_readsRule_127 : decode cX9_readsRule 127 = .ok (.aload_n 0, 1) := by decide +kernel
theorem dX9_readsRule_128 : decode cX9_readsRule 128 = .ok (.bipush 45, 2) := by decide +kernel
theorem dX9_readsRule_130 : decode cX9_readsRule 130 = .ok (.invokevirtual 231, 3) := by decide +kernel
theorem dX9_readsRule_133 : decode cX9_readsRule 133 = .ok (.aload_n 0, 1) := by decide +kernel
theorem dX9_readsRule_134 : decode cX9_readsRule 134 = .ok (.getfield 41, 3) := by decide +kernel
theorem dX9_readsRule_137 : decode cX9_readsRule 137 = .ok (.iload_n 1, 1) := by decide +kernel
theorem dX9_readsRule_138 : decode cX9_readsRule 138 = .ok (.iconst 2, 1) := by decide +kernel
theorem dX9_readsRule_139 : decode cX9_readsRule 139 = .ok (.iadd, 1) := by decide +kernel
theorem dX9_readsRule_140 : decode cX9_readsRule 140 = .ok (.aload_n 0, 1) := by decide +kernel
theorem dX9_readsRule_141 : decode cX9_readsRule 141 = .ok (.aload_n 0, 1) := by decide +kernel
theorem dX9_readsRule_142 : decode cX9_readsRule 142 = .ok (.getfield 41, 3) := by decide +kernel
theorem dX9_readsRule_145 : decode cX9_readsRule 145 = .ok (.iload_n 1, 1) := by decide +kernel
theorem dX9_readsRule_146 : decode cX9_readsRule 146 = .ok (.iconst 1, 1) := by decide +kernel
theorem dX9_readsRule_147 : decode cX9_readsRule 147 = .ok (.iadd, 1) := by decide +kernel
theorem dX9_readsRule_148 : decode cX9_readsRule 148 = .ok (.iaload, 1) := by decide +kernel
theorem dX9_readsRule_149 : decode cX9_readsRule 149 = .ok (.sipush 359, 3) := by decide +kernel
theorem dX9_readsRule_152 : decode cX9_readsRule 152 = .ok (.invokevirtual 228, 3) := by decide +kernel
theorem dX9_readsRule_155 : decode cX9_readsRule 155 = .ok (.iastore, 1) := by decide +kernel
theorem dX9_readsRule_156 : decode cX9_readsRule 156 = .ok (.aload_n 0, 1) := by decide +kernel
theorem dX9_readsRule_157 : decode cX9_readsRule 157 = .ok (.bipush 58, 2) := by decide +kernel
theorem dX9_readsRule_159 : decode cX9_readsRule 159 = .ok (.invokevirtual 231, 3) := by decide +kernel
theorem dX9_readsRule_162 : decode cX9_readsRule 162 = .ok (.aload_n 0, 1) := by decide +kernel
theorem dX9_readsRule_163 : decode cX9_readsRule 163 = .ok (.iconst 2, 1) := by decide +kernel
theorem dX9_readsRule_164 : decode cX9_readsRule 164 = .ok (.invokevirtual 216, 3) := by decide +kernel
theorem dX9_readsRule_167 : decode cX9_readsRule 167 = .ok (.ifCond .eq 20, 3) := by decide +kernel
theorem dX9_readsRule_170 : decode cX9_readsRule 170 = .ok (.aload_n 0, 1) := by decide +kernel
theorem dX9_readsRule_171 : decode cX9_readsRule 171 = .ok (.invokevirtual 210, 3) := by decide +kernel
theorem dX9_readsRule_174 : decode cX9_readsRule 174 = .ok (.aload_n 0, 1) := by decide +kernel
theorem dX9_readsRule_175 : decode cX9_readsRule 175 = .ok (.aload_n 0, 1) := by decide +kernel
theorem dX9_readsRule_176 : decode cX9_readsRule 176 = .ok (.getfield 219, 3) := by decide +kernel
theorem dX9_readsRule_179 : decode cX9_readsRule 179 = .ok (.invokevirtual 241, 3) := by decide +kernel
theorem dX9_readsRule_182 : decode cX9_readsRule 182 = .ok (.aload_n 0, 1) := by decide +kernel
theorem dX9_readsRule_183 : decode cX9_readsRule 183 = .ok (.iconst 3, 1) := by decide +kernel
theorem dX9_readsRule_184 : decode cX9_readsRule 184 = .ok (.invokevirtual 235, 3) := by decide +kernel
theorem dX9_readsRule_187 : decode cX9_readsRule 187 = .ok (.aload_n 0, 1) := by decide +kernel
theorem dX9_readsRule_188 : decode cX9_readsRule 188 = .ok (.invokevirtual 203, 3) := by decide +kernel
theorem dX9_readsRule_191 : decode cX9_readsRule 191 = .ok (.ifCond .eq 11, 3) := by decide +kernel
theorem dX9_readsRule_194 : decode cX9_readsRule 194 = .ok (.aload_n 0, 1) := by decide +kernel
theorem dX9_readsRule_195 : decode cX9_readsRule 195 = .ok (.aload_n 0, 1) := by decide +kernel
theorem dX9_readsRule_196 : decode cX9_readsRule 196 = .ok (.getfield 219, 3) := by decide +kernel
theorem dX9_readsRule_199 : decode cX9_readsRule 199 = .ok (.invokevirtual 243, 3) := by decide +kernel
theorem dX9_readsRule_202 : decode cX9_readsRule 202 = .ok (.aload_n 0, 1) := by decide +kernel
theorem dX9_readsRule_203 : decode cX9_readsRule 203 = .ok (.bipush 59, 2) := by decide +kernel
theorem dX9_readsRule_205 : decode cX9_readsRule 205 = .ok (.invokevirtual 231, 3) := by decide +kernel
theorem dX9_readsRule_208 : decode cX9_readsRule 208 = .ok (.aload_n 0, 1) := by decide +kernel
theorem dX9_readsRule_209 : decode cX9_readsRule 209 = .ok (.dup, 1) := by decide +kernel
theorem dX9_readsRule_210 : decode cX9_readsRule 210 = .ok (.getfield 219, 3) := by decide +kernel
theorem dX9_readsRule_213 : decode cX9_readsRule 213 = .ok (.aload_n 0, 1) := by decide +kernel
theorem dX9_readsRule_214 : decode cX9_readsRule 214 = .ok (.invokevirtual 203, 3) := by decide +kernel
theorem dX9_readsRule_217 : decode cX9_readsRule 217 = .ok (.ifCond .eq 7, 3) := by decide +kernel
theorem dX9_readsRule_220 : decode cX9_readsRule 220 = .ok (.iconst 1, 1) := by decide +kernel
theorem dX9_readsRule_221 : decode cX9_readsRule 221 = .ok (.goto 4, 3) := by decide +kernel
theorem dX9_readsRule_224 : decode cX9_readsRule 224 = .ok (.iconst 0, 1) := by decide +kernel
theorem dX9_readsRule_225 : decode cX9_readsRule 225 = .ok (.iadd, 1) := by decide +kernel
theorem dX9_readsRule_226 : decode cX9_readsRule 226 = .ok (.putfield 219, 3) := by decide +kernel
theorem dX9_readsRule_229 : decode cX9_readsRule 229 = .ok (.return_, 1) := by decide +kernel
theorem dX9_readsStrike_0 : decode cX9_readsStrike 0 = .ok (.aload_n 0, 1) := by decide +kernel
theorem dX9_readsStrike_1 : decode cX9_readsStrike 1 = .ok (.invokevirtual 210, 3) := by decide +kernel
theorem dX9_readsStrike_4 : decode cX9_readsStrike 4 = .ok (.aload_n 0, 1) := by decide +kernel
theorem dX9_readsStrike_5 : decode cX9_readsStrike 5 = .ok (.invokevirtual 203, 3) := by decide +kernel
theorem dX9_readsStrike_8 : decode cX9_readsStrike 8 = .ok (.ifCond .eq 22, 3) := by decide +kernel
theorem dX9_readsStrike_11 : decode cX9_readsStrike 11 = .ok (.aload_n 0, 1) := by decide +kernel
theorem dX9_readsStrike_12 : decode cX9_readsStrike 12 = .ok (.getfield 191, 3) := by decide +kernel
theorem dX9_readsStrike_15 : decode cX9_readsStrike 15 = .ok (.iconst 2, 1) := by decide +kernel
theorem dX9_readsStrike_16 : decode cX9_readsStrike 16 = .ok (.if_icmp .ne 14, 3) := by decide +kernel
theorem dX9_readsStrike_19 : decode cX9_readsStrike 19 = .ok (.aload_n 0, 1) := by decide +kernel
theorem dX9_readsStrike_20 : decode cX9_readsStrike 20 = .ok (.aload_n 0, 1) := by decide +kernel
theorem dX9_readsStrike_21 : decode cX9_readsStrike 21 = .ok (.getfield 194, 3) := by decide +kernel
theorem dX9_readsStrike_24 : decode cX9_readsStrike 24 = .ok (.invokevirtual 238, 3) := by decide +kernel
theorem dX9_readsStrike_27 : decode cX9_readsStrike 27 = .ok (.goto 4, 3) := by decide +kernel
theorem dX9_readsStrike_30 : decode cX9_readsStrike 30 = .ok (.iconst (-1), 1) := by decide +kernel
theorem dX9_readsStrike_31 : decode cX9_readsStrike 31 = .ok (.istore_n 1, 1) := by decide +kernel
theorem dX9_readsStrike_32 : decode cX9_readsStrike 32 = .ok (.iload_n 1, 1) := by decide +kernel
theorem dX9_readsStrike_33 : decode cX9_readsStrike 33 = .ok (.ifCond .ge 8, 3) := by decide +kernel
theorem dX9_readsStrike_36 : decode cX9_readsStrike 36 = .ok (.aload_n 0, 1) := by decide +kernel
theorem dX9_readsStrike_37 : decode cX9_readsStrike 37 = .ok (.invokevirtual 213, 3) := by decide +kernel
theorem dX9_readsStrike_40 : decode cX9_readsStrike 40 = .ok (.return_, 1) := by decide +kernel
theorem dX9_readsStrike_41 : decode cX9_readsStrike 41 = .ok (.aload_n 0, 1) := by decide +kernel
theorem dX9_readsStrike_42 : decode cX9_readsStrike 42 = .ok (.invokevirtual 210, 3) := by decide +kernel
theorem dX9_readsStrike_45 : decode cX9_readsStrike 45 = .ok (.aload_n 0, 1) := by decide +kernel
theorem dX9_readsStrike_46 : decode cX9_readsStrike 46 = .ok (.iconst 1, 1) := by decide +kernel
theorem dX9_readsStrike_47 : decode cX9_readsStrike 47 = .ok (.invokevirtual 235, 3) := by decide +kernel
theorem dX9_readsStrike_50 : decode cX9_readsStrike 50 = .ok (.aload_n 0, 1) := by decide +kernel
theorem dX9_readsStrike_51 : decode cX9_readsStrike 51 = .ok (.iconst 0, 1) := by decide +kernel
theorem dX9_readsStrike_52 : decode cX9_readsStrike 52 = .ok (.sipush 359, 3) := by decide +kernel
theorem dX9_readsStrike_55 : decode cX9_readsStrike 55 = .ok (.invokevirtual 228, 3) := by decide +kernel
theorem dX9_readsStrike_58 : decode cX9_readsStrike 58 = .ok (.istore_n 2, 1) := by decide +kernel
theorem dX9_readsStrike_59 : decode cX9_readsStrike 59 = .ok (.aload_n 0, 1) := by decide +kernel
theorem dX9_readsStrike_60 : decode cX9_readsStrike 60 = .ok (.bipush 59, 2) := by decide +kernel
theorem dX9_readsStrike_62 : decode cX9_readsStrike 62 = .ok (.invokevirtual 231, 3) := by decide +kernel
theorem dX9_readsStrike_65 : decode cX9_readsStrike 65 = .ok (.sipush 320, 3) := by decide +kernel
theorem dX9_readsStrike_68 : decode cX9_readsStrike 68 = .ok (.bipush 20, 2) := by decide +kernel
theorem dX9_readsStrike_70 : decode cX9_readsStrike 70 = .ok (.iload_n 1, 1) := by decide +kernel
theorem dX9_readsStrike_71 : decode cX9_readsStrike 71 = .ok (.imul, 1) := by decide +kernel
theorem dX9_readsStrike_72 : decode cX9_readsStrike 72 = .ok (.iadd, 1) := by decide +kernel
theorem dX9_readsStrike_73 : decode cX9_readsStrike 73 = .ok (.iconst 3, 1) := by decide +kernel
theorem dX9_readsStrike_74 : decode cX9_readsStrike 74 = .ok (.iadd, 1) := by decide +kernel
theorem dX9_readsStrike_75 : decode cX9_readsStrike 75 = .ok (.istore_n 3, 1) := by decide +kernel
theorem dX9_readsStrike_76 : decode cX9_readsStrike 76 = .ok (.aload_n 0, 1) := by decide +kernel
theorem dX9_readsStrike_77 : decode cX9_readsStrike 77 = .ok (.invokevirtual 203, 3) := by decide +kernel
theorem dX9_readsStrike_80 : decode cX9_readsStrike 80 = .ok (.ifCond .eq 31, 3) := by decide +kernel
theorem dX9_readsStrike_83 : decode cX9_readsStrike 83 = .ok (.aload_n 0, 1) := by decide +kernel
theorem dX9_readsStrike_84 : decode cX9_readsStrike 84 = .ok (.getfield 41, 3) := by decide +kernel
theorem dX9_readsStrike_87 : decode cX9_readsStrike 87 = .ok (.iload_n 3, 1) := by decide +kernel
theorem dX9_readsStrike_88 : decode cX9_readsStrike 88 = .ok (.iaload, 1) := by decide +kernel
theorem dX9_readsStrike_89 : decode cX9_readsStrike 89 = .ok (.bipush (-9), 2) := by decide +kernel
theorem dX9_readsStrike_91 : decode cX9_readsStrike 91 = .ok (.if_icmp .eq 13, 3) := by decide +kernel
theorem dX9_readsStrike_94 : decode cX9_readsStrike 94 = .ok (.iload_n 2, 1) := by decide +kernel
theorem dX9_readsStrike_95 : decode cX9_readsStrike 95 = .ok (.aload_n 0, 1) := by decide +kernel
theorem dX9_readsStrike_96 : decode cX9_readsStrike 96 = .ok (.getfield 41, 3) := by decide +kernel
theorem dX9_readsStrike_99 : decode cX9_readsStrike 99 = .ok (.iload_n 3, 1) := by decide +kernel
theorem dX9_readsStrike_100 : decode cX9_readsStrike 100 = .ok (.iaload, 1) := by decide +kernel
theorem dX9_readsStrike_101 : decode cX9_readsStrike 101 = .ok (.if_icmp .ge 10, 3) := by decide +kernel
theorem dX9_readsStrike_104 : decode cX9_readsStrike 104 = .ok (.aload_n 0, 1) := by decide +kernel
theorem dX9_readsStrike_105 : decode cX9_readsStrike 105 = .ok (.getfield 41, 3) := by decide +kernel
theorem dX9_readsStrike_108 : decode cX9_readsStrike 108 = .ok (.iload_n 3, 1) := by decide +kernel
theorem dX9_readsStrike_109 : decode cX9_readsStrike 109 = .ok (.iload_n 2, 1) := by decide +kernel
theorem dX9_readsStrike_110 : decode cX9_readsStrike 110 = .ok (.iastore, 1) := by decide +kernel
theorem dX9_readsStrike_111 : decode cX9_readsStrike 111 = .ok (.return_, 1) := by decide +kernel
theorem dX9_act_0 : decode cX9_act 0 = .ok (.aload_n 0, 1) := by decide +kernel
theorem dX9_act_1 : decode cX9_act 1 = .ok (.iconst 0, 1) := by decide +kernel
theorem dX9_act_2 : decode cX9_act 2 = .ok (.putfield 124, 3) := by decide +kernel
theorem dX9_act_5 : decode cX9_act 5 = .ok (.aload_n 0, 1) := by decide +kernel
theorem dX9_act_6 : decode cX9_act 6 = .ok (.iconst (-1), 1) := by decide +kernel
theorem dX9_act_7 : decode cX9_act 7 = .ok (.putfield 200, 3) := by decide +kernel
theorem dX9_act_10 : decode cX9_act 10 = .ok (.aload_n 0, 1) := by decide +kernel
theorem dX9_act_11 : decode cX9_act 11 = .ok (.iconst 0, 1) := by decide +kernel
theorem dX9_act_12 : decode cX9_act 12 = .ok (.putfield 181, 3) := by decide +kernel
theorem dX9_act_15 : decode cX9_act 15 = .ok (.aload_n 0, 1) := by decide +kernel
theorem dX9_act_16 : decode cX9_act 16 = .ok (.iconst 0, 1) := by decide +kernel
theorem dX9_act_17 : decode cX9_act 17 = .ok (.putfield 219, 3) := by decide +kernel
theorem dX9_act_20 : decode cX9_act 20 = .ok (.aload_n 0, 1) := by decide +kernel
theorem dX9_act_21 : decode cX9_act 21 = .ok (.iconst 0, 1) := by decide +kernel
theorem dX9_act_22 : decode cX9_act 22 = .ok (.putfield 222, 3) := by decide +kernel
theorem dX9_act_25 : decode cX9_act 25 = .ok (.aload_n 0, 1) := by decide +kernel
theorem dX9_act_26 : decode cX9_act 26 = .ok (.invokevirtual 210, 3) := by decide +kernel
theorem dX9_act_29 : decode cX9_act 29 = .ok (.aload_n 0, 1) := by decide +kernel
theorem dX9_act_30 : decode cX9_act 30 = .ok (.invokevirtual 203, 3) := by decide +kernel
theorem dX9_act_33 : decode cX9_act 33 = .ok (.ifCond .eq 47, 3) := by decide +kernel
theorem dX9_act_36 : decode cX9_act 36 = .ok (.aload_n 0, 1) := by decide +kernel
theorem dX9_act_37 : decode cX9_act 37 = .ok (.getfield 191, 3) := by decide +kernel
theorem dX9_act_40 : decode cX9_act 40 = .ok (.ifCond .eq 40, 3) := by decide +kernel
theorem dX9_act_43 : decode cX9_act 43 = .ok (.aload_n 0, 1) := by decide +kernel
theorem dX9_act_44 : decode cX9_act 44 = .ok (.iconst 0, 1) := by decide +kernel
theorem dX9_act_45 : decode cX9_act 45 = .ok (.invokevirtual 216, 3) := by decide +kernel
theorem dX9_act_48 : decode cX9_act 48 = .ok (.ifCond .eq 10, 3) := by decide +kernel
theorem dX9_act_51 : decode cX9_act 51 = .ok (.aload_n 0, 1) := by decide +kernel
theorem dX9_act_52 : decode cX9_act 52 = .ok (.invokevirtual 246, 3) := by decide +kernel
theorem dX9_act_55 : decode cX9_act 55 = .ok (.goto (-26), 3) := by decide +kernel
theorem dX9_act_58 : decode cX9_act 58 = .ok (.aload_n 0, 1) := by decide +kernel
theorem dX9_act_59 : decode cX9_act 59 = .ok (.iconst 4, 1) := by decide +kernel
theorem dX9_act_60 : decode cX9_act 60 = .ok (.invokevirtual 216, 3) := by decide +kernel
theorem dX9_act_63 : decode cX9_act 63 = .ok (.ifCond .eq 10, 3) := by decide +kernel
theorem dX9_act_66 : decode cX9_act 66 = .ok (.aload_n 0, 1) := by decide +kernel
theorem dX9_act_67 : decode cX9_act 67 = .ok (.invokevirtual 249, 3) := by decide +kernel
theorem dX9_act_70 : decode cX9_act 70 = .ok (.goto (-41), 3) := by decide +kernel
theorem dX9_act_73 : decode cX9_act 73 = .ok (.aload_n 0, 1) := by decide +kernel
theorem dX9_act_74 : decode cX9_act 74 = .ok (.invokevirtual 213, 3) := by decide +kernel
theorem dX9_act_77 : decode cX9_act 77 = .ok (.goto (-48), 3) := by decide +kernel
theorem dX9_act_80 : decode cX9_act 80 = .ok (.aload_n 0, 1) := by decide +kernel
theorem dX9_act_81 : decode cX9_act 81 = .ok (.invokevirtual 203, 3) := by decide +kernel
theorem dX9_act_84 : decode cX9_act 84 = .ok (.ifCond .ne 11, 3) := by decide +kernel
theorem dX9_act_87 : decode cX9_act 87 = .ok (.bipush (-10), 2) := by decide +kernel
theorem dX9_act_89 : decode cX9_act 89 = .ok (.aload_n 0, 1) := by decide +kernel
theorem dX9_act_90 : decode cX9_act 90 = .ok (.getfield 200, 3) := by decide +kernel
theorem dX9_act_93 : decode cX9_act 93 = .ok (.isub, 1) := by decide +kernel
theorem dX9_act_94 : decode cX9_act 94 = .ok (.ireturn, 1) := by decide +kernel
theorem dX9_act_95 : decode cX9_act 95 = .ok (.iconst 0, 1) := by decide +kernel
theorem dX9_act_96 : decode cX9_act 96 = .ok (.istore_n 1, 1) := by decide +kernel
theorem dX9_act_97 : decode cX9_act 97 = .ok (.iload_n 1, 1) := by decide +kernel
theorem dX9_act_98 : decode cX9_act 98 = .ok (.sipush 320, 3) := by decide +kernel
theorem dX9_act_101 : decode cX9_act 101 = .ok (.if_icmp .ge 25, 3) := by decide +kernel
theorem dX9_act_104 : decode cX9_act 104 = .ok (.aload_n 0, 1) := by decide +kernel
theorem dX9_act_105 : decode cX9_act 105 = .ok (.getfield 41, 3) := by decide +kernel
theorem dX9_act_108 : decode cX9_act 108 = .ok (.iload_n 1, 1) := by decide +kernel
theorem dX9_act_109 : decode cX9_act 109 = .ok (.aload_n 0, 1) := by decide +kernel
theorem dX9_act_110 : decode cX9_act 110 = .ok (.getfield 41, 3) := by decide +kernel
theorem dX9_act_113 : decode cX9_act 113 = .ok (.sipush 320, 3) := by decide +kernel
theorem dX9_act_116 : decode cX9_act 116 = .ok (.iload_n 1, 1) := by decide +kernel
theorem dX9_act_117 : decode cX9_act 117 = .ok (.iadd, 1) := by decide +kernel
theorem dX9_act_118 : decode cX9_act 118 = .ok (.iaload, 1) := by decide +kernel
theorem dX9_act_119 : decode cX9_act 119 = .ok (.iastore, 1) := by decide +kernel
theorem dX9_act_120 : decode cX9_act 120 = .ok (.iinc 1 1, 3) := by decide +kernel
theorem dX9_act_123 : decode cX9_act 123 = .ok (.goto (-26), 3) := by decide +kernel
theorem dX9_act_126 : decode cX9_act 126 = .ok (.iconst 0, 1) := by decide +kernel
theorem dX9_act_127 : decode cX9_act 127 = .ok (.istore_n 1, 1) := by decide +kernel
theorem dX9_act_128 : decode cX9_act 128 = .ok (.iload_n 1, 1) := by decide +kernel
theorem dX9_act_129 : decode cX9_act 129 = .ok (.sipush 2000, 3) := by decide +kernel
theorem dX9_act_132 : decode cX9_act 132 = .ok (.if_icmp .ge 25, 3) := by decide +kernel
theorem dX9_act_135 : decode cX9_act 135 = .ok (.aload_n 0, 1) := by decide +kernel
theorem dX9_act_136 : decode cX9_act 136 = .ok (.getfield 44, 3) := by decide +kernel
theorem dX9_act_139 : decode cX9_act 139 = .ok (.iload_n 1, 1) := by decide +kernel
theorem dX9_act_140 : decode cX9_act 140 = .ok (.aload_n 0, 1) := by decide +kernel
theorem dX9_act_141 : decode cX9_act 141 = .ok (.getfield 44, 3) := by decide +kernel
theorem dX9_act_144 : decode cX9_act 144 = .ok (.sipush 2000, 3) := by decide +kernel
theorem dX9_act_147 : decode cX9_act 147 = .ok (.iload_n 1, 1) := by decide +kernel
theorem dX9_act_148 : decode cX9_act 148 = .ok (.iadd, 1) := by decide +kernel
theorem dX9_act_149 : decode cX9_act 149 = .ok (.iaload, 1) := by decide +kernel
theorem dX9_act_150 : decode cX9_act 150 = .ok (.iastore, 1) := by decide +kernel
theorem dX9_act_151 : decode cX9_act 151 = .ok (.iinc 1 1, 3) := by decide +kernel
theorem dX9_act_154 : decode cX9_act 154 = .ok (.goto (-26), 3) := by decide +kernel
theorem dX9_act_157 : decode cX9_act 157 = .ok (.aload_n 0, 1) := by decide +kernel
theorem dX9_act_158 : decode cX9_act 158 = .ok (.aload_n 0, 1) := by decide +kernel
theorem dX9_act_159 : decode cX9_act 159 = .ok (.getfield 219, 3) := by decide +kernel
theorem dX9_act_162 : decode cX9_act 162 = .ok (.putfield 252, 3) := by decide +kernel
theorem dX9_act_165 : decode cX9_act 165 = .ok (.aload_n 0, 1) := by decide +kernel
theorem dX9_act_166 : decode cX9_act 166 = .ok (.iconst 0, 1) := by decide +kernel
theorem dX9_act_167 : decode cX9_act 167 = .ok (.putfield 176, 3) := by decide +kernel
theorem dX9_act_170 : decode cX9_act 170 = .ok (.aload_n 0, 1) := by decide +kernel
theorem dX9_act_171 : decode cX9_act 171 = .ok (.getfield 252, 3) := by decide +kernel
theorem dX9_act_174 : decode cX9_act 174 = .ok (.ireturn, 1) := by decide +kernel
theorem dX9_partOf_0 : decode cX9_partOf 0 = .ok (.aload_n 0, 1) := by decide +kernel
theorem dX9_partOf_1 : decode cX9_partOf 1 = .ok (.iload_n 3, 1) := by decide +kernel
theorem dX9_partOf_2 : decode cX9_partOf 2 = .ok (.iload 5, 2) := by decide +kernel
theorem dX9_partOf_4 : decode cX9_partOf 4 = .ok (.iconst 0, 1) := by decide +kernel
theorem dX9_partOf_5 : decode cX9_partOf 5 = .ok (.invokevirtual 172, 3) := by decide +kernel
theorem dX9_partOf_8 : decode cX9_partOf 8 = .ok (.istore 6, 2) := by decide +kernel
theorem dX9_partOf_10 : decode cX9_partOf 10 = .ok (.aload_n 0, 1) := by decide +kernel
theorem dX9_partOf_11 : decode cX9_partOf 11 = .ok (.iload_n 3, 1) := by decide +kernel
theorem dX9_partOf_12 : decode cX9_partOf 12 = .ok (.iload 5, 2) := by decide +kernel
theorem dX9_partOf_14 : decode cX9_partOf 14 = .ok (.iconst 1, 1) := by decide +kernel
theorem dX9_partOf_15 : decode cX9_partOf 15 = .ok (.invokevirtual 172, 3) := by decide +kernel
theorem dX9_partOf_18 : decode cX9_partOf 18 = .ok (.istore 7, 2) := by decide +kernel
theorem dX9_partOf_20 : decode cX9_partOf 20 = .ok (.iload_n 1, 1) := by decide +kernel
theorem dX9_partOf_21 : decode cX9_partOf 21 = .ok (.tableswitch 161 0 5 #[39, 61, 83, 116, 132, 149], 39) := by decide +kernel
theorem dX9_partOf_60 : decode cX9_partOf 60 = .ok (.iload 7, 2) := by decide +kernel
theorem dX9_partOf_62 : decode cX9_partOf 62 = .ok (.iload_n 2, 1) := by decide +kernel
theorem dX9_partOf_63 : decode cX9_partOf 63 = .ok (.if_icmp .ge 7, 3) := by decide +kernel
theorem dX9_partOf_66 : decode cX9_partOf 66 = .ok (.iconst 2, 1) := by decide +kernel
theorem dX9_partOf_67 : decode cX9_partOf 67 = .ok (.goto 14, 3) := by decide +kernel
theorem dX9_partOf_70 : decode cX9_partOf 70 = .ok (.iload 6, 2) := by decide +kernel
theorem dX9_partOf_72 : decode cX9_partOf 72 = .ok (.iload_n 2, 1) := by decide +kernel
theorem dX9_partOf_73 : decode cX9_partOf 73 = .ok (.if_icmp .ge 7, 3) := by decide +kernel
theorem dX9_partOf_76 : decode cX9_partOf 76 = .ok (.iconst 1, 1) := by decide +kernel
theorem dX9_partOf_77 : decode cX9_partOf 77 = .ok (.goto 4, 3) := by decide +kernel
theorem dX9_partOf_80 : decode cX9_partOf 80 = .ok (.iconst 0, 1) := by decide +kernel
theorem dX9_partOf_81 : decode cX9_partOf 81 = .ok (.ireturn, 1) := by decide +kernel
theorem dX9_partOf_82 : decode cX9_partOf 82 = .ok (.iload 6, 2) := by decide +kernel
theorem dX9_partOf_84 : decode cX9_partOf 84 = .ok (.iload_n 2, 1) := by decide +kernel
theorem dX9_partOf_85 : decode cX9_partOf 85 = .ok (.if_icmp .le 7, 3) := by decide +kernel
theorem dX9_partOf_88 : decode cX9_partOf 88 = .ok (.iconst 2, 1) := by decide +kernel
theorem dX9_partOf_89 : decode cX9_partOf 89 = .ok (.goto 14, 3) := by decide +kernel
theorem dX9_partOf_92 : decode cX9_partOf 92 = .ok (.iload 7, 2) := by decide +kernel
theorem dX9_partOf_94 : decode cX9_partOf 94 = .ok (.iload_n 2, 1) := by decide +kernel
theorem dX9_partOf_95 : decode cX9_partOf 95 = .ok (.if_icmp .le 7, 3) := by decide +kernel
theorem dX9_partOf_98 : decode cX9_partOf 98 = .ok (.iconst 1, 1) := by decide +kernel
theorem dX9_partOf_99 : decode cX9_partOf 99 = .ok (.goto 4, 3) := by decide +kernel
theorem dX9_partOf_102 : decode cX9_partOf 102 = .ok (.iconst 0, 1) := by decide +kernel
theorem dX9_partOf_103 : decode cX9_partOf 103 = .ok (.ireturn, 1) := by decide +kernel
theorem dX9_partOf_104 : decode cX9_partOf 104 = .ok (.iload 6, 2) := by decide +kernel
theorem dX9_partOf_106 : decode cX9_partOf 106 = .ok (.iload_n 2, 1) := by decide +kernel
theorem dX9_partOf_107 : decode cX9_partOf 107 = .ok (.if_icmp .ne 13, 3) := by decide +kernel
theorem dX9_partOf_110 : decode cX9_partOf 110 = .ok (.iload 7, 2) := by decide +kernel
theorem dX9_partOf_112 : decode cX9_partOf 112 = .ok (.iload_n 2, 1) := by decide +kernel
theorem dX9_partOf_113 : decode cX9_partOf 113 = .ok (.if_icmp .ne 7, 3) := by decide +kernel
theorem dX9_partOf_116 : decode cX9_partOf 116 = .ok (.iconst 2, 1) := by decide +kernel
theorem dX9_partOf_117 : decode cX9_partOf 117 = .ok (.goto 19, 3) := by decide +kernel
theorem dX9_partOf_120 : decode cX9_partOf 120 = .ok (.iload_n 2, 1) := by decide +kernel
theorem dX9_partOf_121 : decode cX9_partOf 121 = .ok (.iload 6, 2) := by decide +kernel
theorem dX9_partOf_123 : decode cX9_partOf 123 = .ok (.iload 7, 2) := by decide +kernel
theorem dX9_partOf_125 : decode cX9_partOf 125 = .ok (.invokestatic 137, 3) := by decide +kernel
theorem dX9_partOf_128 : decode cX9_partOf 128 = .ok (.ifCond .eq 7, 3) := by decide +kernel
theorem dX9_partOf_131 : decode cX9_partOf 131 = .ok (.iconst 1, 1) := by decide +kernel
theorem dX9_partOf_132 : decode cX9_partOf 132 = .ok (.goto 4, 3) := by decide +kernel
theorem dX9_partOf_135 : decode cX9_partOf 135 = .ok (.iconst 0, 1) := by decide +kernel
theorem dX9_partOf_136 : decode cX9_partOf 136 = .ok (.ireturn, 1) := by decide +kernel
theorem dX9_partOf_137 : decode cX9_partOf 137 = .ok (.aload_n 0, 1) := by decide +kernel
theorem dX9_partOf_138 : decode cX9_partOf 138 = .ok (.getfield 26, 3) := by decide +kernel
theorem dX9_partOf_141 : decode cX9_partOf 141 = .ok (.iload_n 3, 1) := by decide +kernel
theorem dX9_partOf_142 : decode cX9_partOf 142 = .ok (.iaload, 1) := by decide +kernel
theorem dX9_partOf_143 : decode cX9_partOf 143 = .ok (.iload_n 2, 1) := by decide +kernel
theorem dX9_partOf_144 : decode cX9_partOf 144 = .ok (.if_icmp .ne 7, 3) := by decide +kernel
theorem dX9_partOf_147 : decode cX9_partOf 147 = .ok (.iconst 2, 1) := by decide +kernel
theorem dX9_partOf_148 : decode cX9_partOf 148 = .ok (.goto 4, 3) := by decide +kernel
theorem dX9_partOf_151 : decode cX9_partOf 151 = .ok (.iconst 0, 1) := by decide +kernel
theorem dX9_partOf_152 : decode cX9_partOf 152 = .ok (.ireturn, 1) := by decide +kernel
theorem dX9_partOf_153 : decode cX9_partOf 153 = .ok (.aload_n 0, 1) := by decide +kernel
theorem dX9_partOf_154 : decode cX9_partOf 154 = .ok (.getfield 13, 3) := by decide +kernel
theorem dX9_partOf_157 : decode cX9_partOf 157 = .ok (.iload 4, 2) := by decide +kernel
theorem dX9_partOf_159 : decode cX9_partOf 159 = .ok (.iaload, 1) := by decide +kernel
theorem dX9_partOf_160 : decode cX9_partOf 160 = .ok (.iload_n 2, 1) := by decide +kernel
theorem dX9_partOf_161 : decode cX9_partOf 161 = .ok (.if_icmp .ne 7, 3) := by decide +kernel
theorem dX9_partOf_164 : decode cX9_partOf 164 = .ok (.iconst 2, 1) := by decide +kernel
theorem dX9_partOf_165 : decode cX9_partOf 165 = .ok (.goto 4, 3) := by decide +kernel
theorem dX9_partOf_168 : decode cX9_partOf 168 = .ok (.iconst 0, 1) := by decide +kernel
theorem dX9_partOf_169 : decode cX9_partOf 169 = .ok (.ireturn, 1) := by decide +kernel
theorem dX9_partOf_170 : decode cX9_partOf 170 = .ok (.iload 4, 2) := by decide +kernel
theorem dX9_partOf_172 : decode cX9_partOf 172 = .ok (.iload_n 2, 1) := by decide +kernel
theorem dX9_partOf_173 : decode cX9_partOf 173 = .ok (.if_icmp .ne 7, 3) := by decide +kernel
theorem dX9_partOf_176 : decode cX9_partOf 176 = .ok (.iconst 2, 1) := by decide +kernel
theorem dX9_partOf_177 : decode cX9_partOf 177 = .ok (.goto 4, 3) := by decide +kernel
theorem dX9_partOf_180 : decode cX9_partOf 180 = .ok (.iconst 0, 1) := by decide +kernel
theorem dX9_partOf_181 : decode cX9_partOf 181 = .ok (.ireturn, 1) := by decide +kernel
theorem dX9_partOf_182 : decode cX9_partOf 182 = .ok (.aload_n 0, 1) := by decide +kernel
theorem dX9_partOf_183 : decode cX9_partOf 183 = .ok (.getfield 32, 3) := by decide +kernel
theorem dX9_partOf_186 : decode cX9_partOf 186 = .ok (.iload_n 3, 1) := by decide +kernel
theorem dX9_partOf_187 : decode cX9_partOf 187 = .ok (.iaload, 1) := by decide +kernel
theorem dX9_partOf_188 : decode cX9_partOf 188 = .ok (.ifCond .le 7, 3) := by decide +kernel
theorem dX9_partOf_191 : decode cX9_partOf 191 = .ok (.iconst 2, 1) := by decide +kernel
theorem dX9_partOf_192 : decode cX9_partOf 192 = .ok (.goto 4, 3) := by decide +kernel
theorem dX9_partOf_195 : decode cX9_partOf 195 = .ok (.iconst 0, 1) := by decide +kernel
theorem dX9_partOf_196 : decode cX9_partOf 196 = .ok (.ireturn, 1) := by decide +kernel
theorem dX9_joins_0 : decode cX9_joins 0 = .ok (.iload_n 0, 1) := by decide +kernel
theorem dX9_joins_1 : decode cX9_joins 1 = .ok (.bipush 38, 2) := by decide +kernel
theorem dX9_joins_3 : decode cX9_joins 3 = .ok (.if_icmp .ne 16, 3) := by decide +kernel
theorem dX9_joins_6 : decode cX9_joins 6 = .ok (.iload_n 1, 1) := by decide +kernel
theorem dX9_joins_7 : decode cX9_joins 7 = .ok (.iload_n 2, 1) := by decide +kernel
theorem dX9_joins_8 : decode cX9_joins 8 = .ok (.if_icmp .ge 7, 3) := by decide +kernel
theorem dX9_joins_11 : decode cX9_joins 11 = .ok (.iload_n 1, 1) := by decide +kernel
theorem dX9_joins_12 : decode cX9_joins 12 = .ok (.goto 17, 3) := by decide +kernel
theorem dX9_joins_15 : decode cX9_joins 15 = .ok (.iload_n 2, 1) := by decide +kernel
theorem dX9_joins_16 : decode cX9_joins 16 = .ok (.goto 13, 3) := by decide +kernel
theorem dX9_joins_19 : decode cX9_joins 19 = .ok (.iload_n 1, 1) := by decide +kernel
theorem dX9_joins_20 : decode cX9_joins 20 = .ok (.iload_n 2, 1) := by decide +kernel
theorem dX9_joins_21 : decode cX9_joins 21 = .ok (.if_icmp .le 7, 3) := by decide +kernel
theorem dX9_joins_24 : decode cX9_joins 24 = .ok (.iload_n 1, 1) := by decide +kernel
theorem dX9_joins_25 : decode cX9_joins 25 = .ok (.goto 4, 3) := by decide +kernel
theorem dX9_joins_28 : decode cX9_joins 28 = .ok (.iload_n 2, 1) := by decide +kernel
theorem dX9_joins_29 : decode cX9_joins 29 = .ok (.ireturn, 1) := by decide +kernel
theorem dX9_bindsOf_0 : decode cX9_bindsOf 0 = .ok (.bipush 20, 2) := by decide +kernel
theorem dX9_bindsOf_2 : decode cX9_bindsOf 2 = .ok (.iload_n 1, 1) := by decide +kernel
theorem dX9_bindsOf_3 : decode cX9_bindsOf 3 = .ok (.imul, 1) := by decide +kernel
theorem dX9_bindsOf_4 : decode cX9_bindsOf 4 = .ok (.istore 5, 2) := by decide +kernel
theorem dX9_bindsOf_6 : decode cX9_bindsOf 6 = .ok (.iload 4, 2) := by decide +kernel
theorem dX9_bindsOf_8 : decode cX9_bindsOf 8 = .ok (.aload_n 0, 1) := by decide +kernel
theorem dX9_bindsOf_9 : decode cX9_bindsOf 9 = .ok (.getfield 41, 3) := by decide +kernel
theorem dX9_bindsOf_12 : decode cX9_bindsOf 12 = .ok (.iload 5, 2) := by decide +kernel
theorem dX9_bindsOf_14 : decode cX9_bindsOf 14 = .ok (.iconst 1, 1) := by decide +kernel
theorem dX9_bindsOf_15 : decode cX9_bindsOf 15 = .ok (.iadd, 1) := by decide +kernel
theorem dX9_bindsOf_16 : decode cX9_bindsOf 16 = .ok (.iaload, 1) := by decide +kernel
theorem dX9_bindsOf_17 : decode cX9_bindsOf 17 = .ok (.aload_n 0, 1) := by decide +kernel
theorem dX9_bindsOf_18 : decode cX9_bindsOf 18 = .ok (.getfield 41, 3) := by decide +kernel
theorem dX9_bindsOf_21 : decode cX9_bindsOf 21 = .ok (.iload 5, 2) := by decide +kernel
theorem dX9_bindsOf_23 : decode cX9_bindsOf 23 = .ok (.iconst 2, 1) := by decide +kernel
theorem dX9_bindsOf_24 : decode cX9_bindsOf 24 = .ok (.iadd, 1) := by decide +kernel
theorem dX9_bindsOf_25 : decode cX9_bindsOf 25 = .ok (.iaload, 1) := by decide +kernel
theorem dX9_bindsOf_26 : decode cX9_bindsOf 26 = .ok (.invokestatic 137, 3) := by decide +kernel
theorem dX9_bindsOf_29 : decode cX9_bindsOf 29 = .ok (.ifCond .eq 31, 3) := by decide +kernel
theorem dX9_bindsOf_32 : decode cX9_bindsOf 32 = .ok (.aload_n 0, 1) := by decide +kernel
theorem dX9_bindsOf_33 : decode cX9_bindsOf 33 = .ok (.getfield 41, 3) := by decide +kernel
theorem dX9_bindsOf_36 : decode cX9_bindsOf 36 = .ok (.iload 5, 2) := by decide +kernel
theorem dX9_bindsOf_38 : decode cX9_bindsOf 38 = .ok (.iconst 3, 1) := by decide +kernel
theorem dX9_bindsOf_39 : decode cX9_bindsOf 39 = .ok (.iadd, 1) := by decide +kernel
theorem dX9_bindsOf_40 : decode cX9_bindsOf 40 = .ok (.iaload, 1) := by decide +kernel
theorem dX9_bindsOf_41 : decode cX9_bindsOf 41 = .ok (.bipush (-9), 2) := by decide +kernel
theorem dX9_bindsOf_43 : decode cX9_bindsOf 43 = .ok (.if_icmp .eq 19, 3) := by decide +kernel
theorem dX9_bindsOf_46 : decode cX9_bindsOf 46 = .ok (.iload 4, 2) := by decide +kernel
theorem dX9_bindsOf_48 : decode cX9_bindsOf 48 = .ok (.aload_n 0, 1) := by decide +kernel
theorem dX9_bindsOf_49 : decode cX9_bindsOf 49 = .ok (.getfield 41, 3) := by decide +kernel
theorem dX9_bindsOf_52 : decode cX9_bindsOf 52 = .ok (.iload 5, 2) := by decide +kernel
theorem dX9_bindsOf_54 : decode cX9_bindsOf 54 = .ok (.iconst 3, 1) := by decide +kernel
theorem dX9_bindsOf_55 : decode cX9_bindsOf 55 = .ok (.iadd, 1) := by decide +kernel
theorem dX9_bindsOf_56 : decode cX9_bindsOf 56 = .ok (.iaload, 1) := by decide +kernel
theorem dX9_bindsOf_57 : decode cX9_bindsOf 57 = .ok (.if_icmp .lt 5, 3) := by decide +kernel
theorem dX9_bindsOf_60 : decode cX9_bindsOf 60 = .ok (.iconst 0, 1) := by decide +kernel
theorem dX9_bindsOf_61 : decode cX9_bindsOf 61 = .ok (.ireturn, 1) := by decide +kernel
theorem dX9_bindsOf_62 : decode cX9_bindsOf 62 = .ok (.iconst 0, 1) := by decide +kernel
theorem dX9_bindsOf_63 : decode cX9_bindsOf 63 = .ok (.istore 6, 2) := by decide +kernel
theorem dX9_bindsOf_65 : decode cX9_bindsOf 65 = .ok (.iconst 0, 1) := by decide +kernel
theorem dX9_bindsOf_66 : decode cX9_bindsOf 66 = .ok (.istore 7, 2) := by decide +kernel
theorem dX9_bindsOf_68 : decode cX9_bindsOf 68 = .ok (.iconst 0, 1) := by decide +kernel
theorem dX9_bindsOf_69 : decode cX9_bindsOf 69 = .ok (.istore 8, 2) := by decide +kernel
theorem dX9_bindsOf_71 : decode cX9_bindsOf 71 = .ok (.iload 8, 2) := by decide +kernel
theorem dX9_bindsOf_73 : decode cX9_bindsOf 73 = .ok (.aload_n 0, 1) := by decide +kernel
theorem dX9_bindsOf_74 : decode cX9_bindsOf 74 = .ok (.getfield 41, 3) := by decide +kernel
theorem dX9_bindsOf_77 : decode cX9_bindsOf 77 = .ok (.iload 5, 2) := by decide +kernel
theorem dX9_bindsOf_79 : decode cX9_bindsOf 79 = .ok (.iconst 4, 1) := by decide +kernel
theorem dX9_bindsOf_80 : decode cX9_bindsOf 80 = .ok (.iadd, 1) := by decide +kernel
theorem dX9_bindsOf_81 : decode cX9_bindsOf 81 = .ok (.iaload, 1) := by decide +kernel
theorem dX9_bindsOf_82 : decode cX9_bindsOf 82 = .ok (.if_icmp .ge 331, 3) := by decide +kernel
theorem dX9_bindsOf_85 : decode cX9_bindsOf 85 = .ok (.aload_n 0, 1) := by decide +kernel
theorem dX9_bindsOf_86 : decode cX9_bindsOf 86 = .ok (.getfield 44, 3) := by decide +kernel
theorem dX9_bindsOf_89 : decode cX9_bindsOf 89 = .ok (.iconst 2, 1) := by decide +kernel
theorem dX9_bindsOf_90 : decode cX9_bindsOf 90 = .ok (.aload_n 0, 1) := by decide +kernel
theorem dX9_bindsOf_91 : decode cX9_bindsOf 91 = .ok (.getfield 41, 3) := by decide +kernel
theorem dX9_bindsOf_94 : decode cX9_bindsOf 94 = .ok (.iload 5, 2) := by decide +kernel
theorem dX9_bindsOf_96 : decode cX9_bindsOf 96 = .ok (.bipush 13, 2) := by decide +kernel
theorem dX9_bindsOf_98 : decode cX9_bindsOf 98 = .ok (.iadd, 1) := by decide +kernel
theorem dX9_bindsOf_99 : decode cX9_bindsOf 99 = .ok (.iaload, 1) := by decide +kernel
theorem dX9_bindsOf_100 : decode cX9_bindsOf 100 = .ok (.iload 8, 2) := by decide +kernel
theorem dX9_bindsOf_102 : decode cX9_bindsOf 102 = .ok (.iadd, 1) := by decide +kernel
theorem dX9_bindsOf_103 : decode cX9_bindsOf 103 = .ok (.imul, 1) := by decide +kernel
theorem dX9_bindsOf_104 : decode cX9_bindsOf 104 = .ok (.iaload, 1) := by decide +kernel
theorem dX9_bindsOf_105 : decode cX9_bindsOf 105 = .ok (.istore 9, 2) := by decide +kernel
theorem dX9_bindsOf_107 : decode cX9_bindsOf 107 = .ok (.iload 9, 2) := by decide +kernel
theorem dX9_bindsOf_109 : decode cX9_bindsOf 109 = .ok (.bipush 33, 2) := by decide +kernel
theorem dX9_bindsOf_111 : decode cX9_bindsOf 111 = .ok (.if_icmp .eq 10, 3) := by decide +kernel
theorem dX9_bindsOf_114 : decode cX9_bindsOf 114 = .ok (.iload 9, 2) := by decide +kernel
theorem dX9_bindsOf_116 : decode cX9_bindsOf 116 = .ok (.bipush 40, 2) := by decide +kernel
theorem dX9_bindsOf_118 : decode cX9_bindsOf 118 = .ok (.if_icmp .ne 18, 3) := by decide +kernel
theorem dX9_bindsOf_121 : decode cX9_bindsOf 121 = .ok (.aload_n 0, 1) := by decide +kernel
theorem dX9_bindsOf_122 : decode cX9_bindsOf 122 = .ok (.getfield 47, 3) := by decide +kernel
theorem dX9_bindsOf_125 : decode cX9_bindsOf 125 = .ok (.iload 7, 2) := by decide +kernel
theorem dX9_bindsOf_127 : decode cX9_bindsOf 127 = .ok (.iload 9, 2) := by decide +kernel
theorem dX9_bindsOf_129 : decode cX9_bindsOf 129 = .ok (.iastore, 1) := by decide +kernel
theorem dX9_bindsOf_130 : decode cX9_bindsOf 130 = .ok (.iinc 7 1, 3) := by decide +kernel
theorem dX9_bindsOf_133 : decode cX9_bindsOf 133 = .ok (.goto 274, 3) := by decide +kernel
theorem dX9_bindsOf_136 : decode cX9_bindsOf 136 = .ok (.iload 9, 2) := by decide +kernel
theorem dX9_bindsOf_138 : decode cX9_bindsOf 138 = .ok (.bipush 38, 2) := by decide +kernel
theorem dX9_bindsOf_140 : decode cX9_bindsOf 140 = .ok (.if_icmp .eq 10, 3) := by decide +kernel
theorem dX9_bindsOf_143 : decode cX9_bindsOf 143 = .ok (.iload 9, 2) := by decide +kernel
theorem dX9_bindsOf_145 : decode cX9_bindsOf 145 = .ok (.bipush 124, 2) := by decide +kernel
theorem dX9_bindsOf_147 : decode cX9_bindsOf 147 = .ok (.if_icmp .ne 102, 3) := by decide +kernel
theorem dX9_bindsOf_150 : decode cX9_bindsOf 150 = .ok (.iload 7, 2) := by decide +kernel
theorem dX9_bindsOf_152 : decode cX9_bindsOf 152 = .ok (.ifCond .le 82, 3) := by decide +kernel
theorem dX9_bindsOf_155 : decode cX9_bindsOf 155 = .ok (.aload_n 0, 1) := by decide +kernel
theorem dX9_bindsOf_156 : decode cX9_bindsOf 156 = .ok (.getfield 47, 3) := by decide +kernel
theorem dX9_bindsOf_159 : decode cX9_bindsOf 159 = .ok (.iload 7, 2) := by decide +kernel
theorem dX9_bindsOf_161 : decode cX9_bindsOf 161 = .ok (.iconst 1, 1) := by decide +kernel
theorem dX9_bindsOf_162 : decode cX9_bindsOf 162 = .ok (.isub, 1) := by decide +kernel
theorem dX9_bindsOf_163 : decode cX9_bindsOf 163 = .ok (.iaload, 1) := by decide +kernel
theorem dX9_bindsOf_164 : decode cX9_bindsOf 164 = .ok (.bipush 38, 2) := by decide +kernel
theorem dX9_bindsOf_166 : decode cX9_bindsOf 166 = .ok (.if_icmp .eq 24, 3) := by decide +kernel
theorem dX9_bindsOf_169 : decode cX9_bindsOf 169 = .ok (.iload 9, 2) := by decide +kernel
theorem dX9_bindsOf_171 : decode cX9_bindsOf 171 = .ok (.bipush 124, 2) := by decide +kernel
theorem dX9_bindsOf_173 : decode cX9_bindsOf 173 = .ok (.if_icmp .ne 61, 3) := by decide +kernel
theorem dX9_bindsOf_176 : decode cX9_bindsOf 176 = .ok (.aload_n 0, 1) := by decide +kernel
theorem dX9_bindsOf_177 : decode cX9_bindsOf 177 = .ok (.getfield 47, 3) := by decide +kernel
theorem dX9_bindsOf_180 : decode cX9_bindsOf 180 = .ok (.iload 7, 2) := by decide +kernel
theorem dX9_bindsOf_182 : decode cX9_bindsOf 182 = .ok (.iconst 1, 1) := by decide +kernel
theorem dX9_bindsOf_183 : decode cX9_bindsOf 183 = .ok (.isub, 1) := by decide +kernel
theorem dX9_bindsOf_184 : decode cX9_bindsOf 184 = .ok (.iaload, 1) := by decide +kernel
theorem dX9_bindsOf_185 : decode cX9_bindsOf 185 = .ok (.bipush 124, 2) := by decide +kernel
theorem dX9_bindsOf_187 : decode cX9_bindsOf 187 = .ok (.if_icmp .ne 47, 3) := by decide +kernel
theorem dX9_bindsOf_190 : decode cX9_bindsOf 190 = .ok (.iinc 7 (-1), 3) := by decide +kernel
theorem dX9_bindsOf_193 : decode cX9_bindsOf 193 = .ok (.iinc 6 (-1), 3) := by decide +kernel
theorem dX9_bindsOf_196 : decode cX9_bindsOf 196 = .ok (.aload_n 0, 1) := by decide +kernel
theorem dX9_bindsOf_197 : decode cX9_bindsOf 197 = .ok (.getfield 50, 3) := by decide +kernel
theorem dX9_bindsOf_200 : decode cX9_bindsOf 200 = .ok (.iload 6, 2) := by decide +kernel
theorem dX9_bindsOf_202 : decode cX9_bindsOf 202 = .ok (.iconst 1, 1) := by decide +kernel
theorem dX9_bindsOf_203 : decode cX9_bindsOf 203 = .ok (.isub, 1) := by decide +kernel
theorem dX9_bindsOf_204 : decode cX9_bindsOf 204 = .ok (.aload_n 0, 1) := by decide +kernel
theorem dX9_bindsOf_205 : decode cX9_bindsOf 205 = .ok (.getfield 47, 3) := by decide +kernel
theorem dX9_bindsOf_208 : decode cX9_bindsOf 208 = .ok (.iload 7, 2) := by decide +kernel
theorem dX9_bindsOf_210 : decode cX9_bindsOf 210 = .ok (.iaload, 1) := by decide +kernel
theorem dX9_bindsOf_211 : decode cX9_bindsOf 211 = .ok (.aload_n 0, 1) := by decide +kernel
theorem dX9_bindsOf_212 : decode cX9_bindsOf 212 = .ok (.getfield 50, 3) := by decide +kernel
theorem dX9_bindsOf_215 : decode cX9_bindsOf 215 = .ok (.iload 6, 2) := by decide +kernel
theorem dX9_bindsOf_217 : decode cX9_bindsOf 217 = .ok (.iconst 1, 1) := by decide +kernel
theorem dX9_bindsOf_218 : decode cX9_bindsOf 218 = .ok (.isub, 1) := by decide +kernel
theorem dX9_bindsOf_219 : decode cX9_bindsOf 219 = .ok (.iaload, 1) := by decide +kernel
theorem dX9_bindsOf_220 : decode cX9_bindsOf 220 = .ok (.aload_n 0, 1) := by decide +kernel
theorem dX9_bindsOf_221 : decode cX9_bindsOf 221 = .ok (.getfield 50, 3) := by decide +kernel
theorem dX9_bindsOf_224 : decode cX9_bindsOf 224 = .ok (.iload 6, 2) := by decide +kernel
theorem dX9_bindsOf_226 : decode cX9_bindsOf 226 = .ok (.iaload, 1) := by decide +kernel
theorem dX9_bindsOf_227 : decode cX9_bindsOf 227 = .ok (.invokestatic 255, 3) := by decide +kernel
theorem dX9_bindsOf_230 : decode cX9_bindsOf 230 = .ok (.iastore, 1) := by decide +kernel
theorem dX9_bindsOf_231 : decode cX9_bindsOf 231 = .ok (.goto (-81), 3) := by decide +kernel
theorem dX9_bindsOf_234 : decode cX9_bindsOf 234 = .ok (.aload_n 0, 1) := by decide +kernel
theorem dX9_bindsOf_235 : decode cX9_bindsOf 235 = .ok (.getfield 47, 3) := by decide +kernel
theorem dX9_bindsOf_238 : decode cX9_bindsOf 238 = .ok (.iload 7, 2) := by decide +kernel
theorem dX9_bindsOf_240 : decode cX9_bindsOf 240 = .ok (.iload 9, 2) := by decide +kernel
theorem dX9_bindsOf_242 : decode cX9_bindsOf 242 = .ok (.iastore, 1) := by decide +kernel
theorem dX9_bindsOf_243 : decode cX9_bindsOf 243 = .ok (.iinc 7 1, 3) := by decide +kernel
theorem dX9_bindsOf_246 : decode cX9_bindsOf 246 = .ok (.goto 161, 3) := by decide +kernel
theorem dX9_bindsOf_249 : decode cX9_bindsOf 249 = .ok (.iload 9, 2) := by decide +kernel
theorem dX9_bindsOf_251 : decode cX9_bindsOf 251 = .ok (.bipush 41, 2) := by decide +kernel
theorem dX9_bindsOf_253 : decode cX9_bindsOf 253 = .ok (.if_icmp .ne 67, 3) := by decide +kernel
theorem dX9_bindsOf_256 : decode cX9_bindsOf 256 = .ok (.aload_n 0, 1) := by decide +kernel
theorem dX9_bindsOf_257 : decode cX9_bindsOf 257 = .ok (.getfield 47, 3) := by decide +kernel
theorem dX9_bindsOf_260 : decode cX9_bindsOf 260 = .ok (.iload 7, 2) := by decide +kernel
theorem dX9_bindsOf_262 : decode cX9_bindsOf 262 = .ok (.iconst 1, 1) := by decide +kernel
theorem dX9_bindsOf_263 : decode cX9_bindsOf 263 = .ok (.isub, 1) := by decide +kernel
theorem dX9_bindsOf_264 : decode cX9_bindsOf 264 = .ok (.iaload, 1) := by decide +kernel
theorem dX9_bindsOf_265 : decode cX9_bindsOf 265 = .ok (.bipush 40, 2) := by decide +kernel
theorem dX9_bindsOf_267 : decode cX9_bindsOf 267 = .ok (.if_icmp .eq 47, 3) := by decide +kernel
theorem dX9_bindsOf_270 : decode cX9_bindsOf 270 = .ok (.iinc 7 (-1), 3) := by decide +kernel
theorem dX9_bindsOf_273 : decode cX9_bindsOf 273 = .ok (.iinc 6 (-1), 3) := by decide +kernel
theorem dX9_bindsOf_276 : decode cX9_bindsOf 276 = .ok (.aload_n 0, 1) := by decide +kernel
theorem dX9_bindsOf_277 : decode cX9_bindsOf 277 = .ok (.getfield 50, 3) := by decide +kernel
theorem dX9_bindsOf_280 : decode cX9_bindsOf 280 = .ok (.iload 6, 2) := by decide +kernel
theorem dX9_bindsOf_282 : decode cX9_bindsOf 282 = .ok (.iconst 1, 1) := by decide +kernel
theorem dX9_bindsOf_283 : decode cX9_bindsOf 283 = .ok (.isub, 1) := by decide +kernel
theorem dX9_bindsOf_284 : decode cX9_bindsOf 284 = .ok (.aload_n 0, 1) := by decide +kernel
theorem dX9_bindsOf_285 : decode cX9_bindsOf 285 = .ok (.getfield 47, 3) := by decide +kernel
theorem dX9_bindsOf_288 : decode cX9_bindsOf 288 = .ok (.iload 7, 2) := by decide +kernel
theorem dX9_bindsOf_290 : decode cX9_bindsOf 290 = .ok (.iaload, 1) := by decide +kernel
theorem dX9_bindsOf_291 : decode cX9_bindsOf 291 = .ok (.aload_n 0, 1) := by decide +kernel
theorem dX9_bindsOf_292 : decode cX9_bindsOf 292 = .ok (.getfield 50, 3) := by decide +kernel
theorem dX9_bindsOf_295 : decode cX9_bindsOf 295 = .ok (.iload 6, 2) := by decide +kernel
theorem dX9_bindsOf_297 : decode cX9_bindsOf 297 = .ok (.iconst 1, 1) := by decide +kernel
theorem dX9_bindsOf_298 : decode cX9_bindsOf 298 = .ok (.isub, 1) := by decide +kernel
theorem dX9_bindsOf_299 : decode cX9_bindsOf 299 = .ok (.iaload, 1) := by decide +kernel
theorem dX9_bindsOf_300 : decode cX9_bindsOf 300 = .ok (.aload_n 0, 1) := by decide +kernel
theorem dX9_bindsOf_301 : decode cX9_bindsOf 301 = .ok (.getfield 50, 3) := by decide +kernel
theorem dX9_bindsOf_304 : decode cX9_bindsOf 304 = .ok (.iload 6, 2) := by decide +kernel
theorem dX9_bindsOf_306 : decode cX9_bindsOf 306 = .ok (.iaload, 1) := by decide +kernel
theorem dX9_bindsOf_307 : decode cX9_bindsOf 307 = .ok (.invokestatic 255, 3) := by decide +kernel
theorem dX9_bindsOf_310 : decode cX9_bindsOf 310 = .ok (.iastore, 1) := by decide +kernel
theorem dX9_bindsOf_311 : decode cX9_bindsOf 311 = .ok (.goto (-55), 3) := by decide +kernel
theorem dX9_bindsOf_314 : decode cX9_bindsOf 314 = .ok (.iinc 7 (-1), 3) := by decide +kernel
theorem dX9_bindsOf_317 : decode cX9_bindsOf 317 = .ok (.goto 45, 3) := by decide +kernel
theorem dX9_bindsOf_320 : decode cX9_bindsOf 320 = .ok (.aload_n 0, 1) := by decide +kernel
theorem dX9_bindsOf_321 : decode cX9_bindsOf 321 = .ok (.getfield 50, 3) := by decide +kernel
theorem dX9_bindsOf_324 : decode cX9_bindsOf 324 = .ok (.iload 6, 2) := by decide +kernel
theorem dX9_bindsOf_326 : decode cX9_bindsOf 326 = .ok (.aload_n 0, 1) := by decide +kernel
theorem dX9_bindsOf_327 : decode cX9_bindsOf 327 = .ok (.iload 9, 2) := by decide +kernel
theorem dX9_bindsOf_329 : decode cX9_bindsOf 329 = .ok (.aload_n 0, 1) := by decide +kernel
theorem dX9_bindsOf_330 : decode cX9_bindsOf 330 = .ok (.getfield 44, 3) := by decide +kernel
theorem dX9_bindsOf_333 : decode cX9_bindsOf 333 = .ok (.iconst 2, 1) := by decide +kernel
theorem dX9_bindsOf_334 : decode cX9_bindsOf 334 = .ok (.aload_n 0, 1) := by decide +kernel
theorem dX9_bindsOf_335 : decode cX9_bindsOf 335 = .ok (.getfield 41, 3) := by decide +kernel
theorem dX9_bindsOf_338 : decode cX9_bindsOf 338 = .ok (.iload 5, 2) := by decide +kernel
theorem dX9_bindsOf_340 : decode cX9_bindsOf 340 = .ok (.bipush 13, 2) := by decide +kernel
theorem dX9_bindsOf_342 : decode cX9_bindsOf 342 = .ok (.iadd, 1) := by decide +kernel
theorem dX9_bindsOf_343 : decode cX9_bindsOf 343 = .ok (.iaload, 1) := by decide +kernel
theorem dX9_bindsOf_344 : decode cX9_bindsOf 344 = .ok (.iload 8, 2) := by decide +kernel
theorem dX9_bindsOf_346 : decode cX9_bindsOf 346 = .ok (.iadd, 1) := by decide +kernel
theorem dX9_bindsOf_347 : decode cX9_bindsOf 347 = .ok (.imul, 1) := by decide +kernel
theorem dX9_bindsOf_348 : decode cX9_bindsOf 348 = .ok (.iconst 1, 1) := by decide +kernel
theorem dX9_bindsOf_349 : decode cX9_bindsOf 349 = .ok (.iadd, 1) := by decide +kernel
theorem dX9_bindsOf_350 : decode cX9_bindsOf 350 = .ok (.iaload, 1) := by decide +kernel
theorem dX9_bindsOf_351 : decode cX9_bindsOf 351 = .ok (.iload_n 2, 1) := by decide +kernel
theorem dX9_bindsOf_352 : decode cX9_bindsOf 352 = .ok (.iload_n 3, 1) := by decide +kernel
theorem dX9_bindsOf_353 : decode cX9_bindsOf 353 = .ok (.iload 4, 2) := by decide +kernel
theorem dX9_bindsOf_355 : decode cX9_bindsOf 355 = .ok (.invokevirtual 258, 3) := by decide +kernel
theorem dX9_bindsOf_358 : decode cX9_bindsOf 358 = .ok (.iastore, 1) := by decide +kernel
theorem dX9_bindsOf_359 : decode cX9_bindsOf 359 = .ok (.iinc 6 1, 3) := by decide +kernel
theorem dX9_bindsOf_362 : decode cX9_bindsOf 362 = .ok (.iload 7, 2) := by decide +kernel
theorem dX9_bindsOf_364 : decode cX9_bindsOf 364 = .ok (.ifCond .le 43, 3) := by decide +kernel
theorem dX9_bindsOf_367 : decode cX9_bindsOf 367 = .ok (.aload_n 0, 1) := by decide +kernel
theorem dX9_bindsOf_368 : decode cX9_bindsOf 368 = .ok (.getfield 47, 3) := by decide +kernel
theorem dX9_bindsOf_371 : decode cX9_bindsOf 371 = .ok (.iload 7, 2) := by decide +kernel
theorem dX9_bindsOf_373 : decode cX9_bindsOf 373 = .ok (.iconst 1, 1) := by decide +kernel
theorem dX9_bindsOf_374 : decode cX9_bindsOf 374 = .ok (.isub, 1) := by decide +kernel
theorem dX9_bindsOf_375 : decode cX9_bindsOf 375 = .ok (.iaload, 1) := by decide +kernel
theorem dX9_bindsOf_376 : decode cX9_bindsOf 376 = .ok (.bipush 33, 2) := by decide +kernel
theorem dX9_bindsOf_378 : decode cX9_bindsOf 378 = .ok (.if_icmp .ne 29, 3) := by decide +kernel
theorem dX9_bindsOf_381 : decode cX9_bindsOf 381 = .ok (.aload_n 0, 1) := by decide +kernel
theorem dX9_bindsOf_382 : decode cX9_bindsOf 382 = .ok (.getfield 50, 3) := by decide +kernel
theorem dX9_bindsOf_385 : decode cX9_bindsOf 385 = .ok (.iload 6, 2) := by decide +kernel
theorem dX9_bindsOf_387 : decode cX9_bindsOf 387 = .ok (.iconst 1, 1) := by decide +kernel
theorem dX9_bindsOf_388 : decode cX9_bindsOf 388 = .ok (.isub, 1) := by decide +kernel
theorem dX9_bindsOf_389 : decode cX9_bindsOf 389 = .ok (.iconst 2, 1) := by decide +kernel
theorem dX9_bindsOf_390 : decode cX9_bindsOf 390 = .ok (.aload_n 0, 1) := by decide +kernel
theorem dX9_bindsOf_391 : decode cX9_bindsOf 391 = .ok (.getfield 50, 3) := by decide +kernel
theorem dX9_bindsOf_394 : decode cX9_bindsOf 394 = .ok (.iload 6, 2) := by decide +kernel
theorem dX9_bindsOf_396 : decode cX9_bindsOf 396 = .ok (.iconst 1, 1) := by decide +kernel
theorem dX9_bindsOf_397 : decode cX9_bindsOf 397 = .ok (.isub, 1) := by decide +kernel
theorem dX9_bindsOf_398 : decode cX9_bindsOf 398 = .ok (.iaload, 1) := by decide +kernel
theorem dX9_bindsOf_399 : decode cX9_bindsOf 399 = .ok (.isub, 1) := by decide +kernel
theorem dX9_bindsOf_400 : decode cX9_bindsOf 400 = .ok (.iastore, 1) := by decide +kernel
theorem dX9_bindsOf_401 : decode cX9_bindsOf 401 = .ok (.iinc 7 (-1), 3) := by decide +kernel
theorem dX9_bindsOf_404 : decode cX9_bindsOf 404 = .ok (.goto (-42), 3) := by decide +kernel
theorem dX9_bindsOf_407 : decode cX9_bindsOf 407 = .ok (.iinc 8 1, 3) := by decide +kernel
theorem dX9_bindsOf_410 : decode cX9_bindsOf 410 = .ok (.goto (-339), 3) := by decide +kernel
theorem dX9_bindsOf_413 : decode cX9_bindsOf 413 = .ok (.iload 7, 2) := by decide +kernel
theorem dX9_bindsOf_415 : decode cX9_bindsOf 415 = .ok (.ifCond .le 47, 3) := by decide +kernel
theorem dX9_bindsOf_418 : decode cX9_bindsOf 418 = .ok (.iinc 7 (-1), 3) := by decide +kernel
theorem dX9_bindsOf_421 : decode cX9_bindsOf 421 = .ok (.iinc 6 (-1), 3) := by decide +kernel
theorem dX9_bindsOf_424 : decode cX9_bindsOf 424 = .ok (.aload_n 0, 1) := by decide +kernel
theorem dX9_bindsOf_425 : decode cX9_bindsOf 425 = .ok (.getfield 50, 3) := by decide +kernel
theorem dX9_bindsOf_428 : decode cX9_bindsOf 428 = .ok (.iload 6, 2) := by decide +kernel
theorem dX9_bindsOf_430 : decode cX9_bindsOf 430 = .ok (.iconst 1, 1) := by decide +kernel
theorem dX9_bindsOf_431 : decode cX9_bindsOf 431 = .ok (.isub, 1) := by decide +kernel
theorem dX9_bindsOf_432 : decode cX9_bindsOf 432 = .ok (.aload_n 0, 1) := by decide +kernel
theorem dX9_bindsOf_433 : decode cX9_bindsOf 433 = .ok (.getfield 47, 3) := by decide +kernel
theorem dX9_bindsOf_436 : decode cX9_bindsOf 436 = .ok (.iload 7, 2) := by decide +kernel
theorem dX9_bindsOf_438 : decode cX9_bindsOf 438 = .ok (.iaload, 1) := by decide +kernel
theorem dX9_bindsOf_439 : decode cX9_bindsOf 439 = .ok (.aload_n 0, 1) := by decide +kernel
theorem dX9_bindsOf_440 : decode cX9_bindsOf 440 = .ok (.getfield 50, 3) := by decide +kernel
theorem dX9_bindsOf_443 : decode cX9_bindsOf 443 = .ok (.iload 6, 2) := by decide +kernel
theorem dX9_bindsOf_445 : decode cX9_bindsOf 445 = .ok (.iconst 1, 1) := by decide +kernel
theorem dX9_bindsOf_446 : decode cX9_bindsOf 446 = .ok (.isub, 1) := by decide +kernel
theorem dX9_bindsOf_447 : decode cX9_bindsOf 447 = .ok (.iaload, 1) := by decide +kernel
theorem dX9_bindsOf_448 : decode cX9_bindsOf 448 = .ok (.aload_n 0, 1) := by decide +kernel
theorem dX9_bindsOf_449 : decode cX9_bindsOf 449 = .ok (.getfield 50, 3) := by decide +kernel
theorem dX9_bindsOf_452 : decode cX9_bindsOf 452 = .ok (.iload 6, 2) := by decide +kernel
theorem dX9_bindsOf_454 : decode cX9_bindsOf 454 = .ok (.iaload, 1) := by decide +kernel
theorem dX9_bindsOf_455 : decode cX9_bindsOf 455 = .ok (.invokestatic 255, 3) := by decide +kernel
theorem dX9_bindsOf_458 : decode cX9_bindsOf 458 = .ok (.iastore, 1) := by decide +kernel
theorem dX9_bindsOf_459 : decode cX9_bindsOf 459 = .ok (.goto (-46), 3) := by decide +kernel
theorem dX9_bindsOf_462 : decode cX9_bindsOf 462 = .ok (.aload_n 0, 1) := by decide +kernel
theorem dX9_bindsOf_463 : decode cX9_bindsOf 463 = .ok (.getfield 41, 3) := by decide +kernel
theorem dX9_bindsOf_466 : decode cX9_bindsOf 466 = .ok (.iload 5, 2) := by decide +kernel
theorem dX9_bindsOf_468 : decode cX9_bindsOf 468 = .ok (.iconst 4, 1) := by decide +kernel
theorem dX9_bindsOf_469 : decode cX9_bindsOf 469 = .ok (.iadd, 1) := by decide +kernel
theorem dX9_bindsOf_470 : decode cX9_bindsOf 470 = .ok (.iaload, 1) := by decide +kernel
theorem dX9_bindsOf_471 : decode cX9_bindsOf 471 = .ok (.ifCond .ne 7, 3) := by decide +kernel
theorem dX9_bindsOf_474 : decode cX9_bindsOf 474 = .ok (.iconst 2, 1) := by decide +kernel
theorem dX9_bindsOf_475 : decode cX9_bindsOf 475 = .ok (.goto 9, 3) := by decide +kernel
theorem dX9_bindsOf_478 : decode cX9_bindsOf 478 = .ok (.aload_n 0, 1) := by decide +kernel
theorem dX9_bindsOf_479 : decode cX9_bindsOf 479 = .ok (.getfield 50, 3) := by decide +kernel
theorem dX9_bindsOf_482 : decode cX9_bindsOf 482 = .ok (.iconst 0, 1) := by decide +kernel
theorem dX9_bindsOf_483 : decode cX9_bindsOf 483 = .ok (.iaload, 1) := by decide +kernel
theorem dX9_bindsOf_484 : decode cX9_bindsOf 484 = .ok (.ireturn, 1) := by decide +kernel
theorem dX9_isPlace_0 : decode cX9_isPlace 0 = .ok (.aload_n 0, 1) := by decide +kernel
theorem dX9_isPlace_1 : decode cX9_isPlace 1 = .ok (.iload_n 1, 1) := by decide +kernel
theorem dX9_isPlace_2 : decode cX9_isPlace 2 = .ok (.invokevirtual 144, 3) := by decide +kernel
theorem dX9_isPlace_5 : decode cX9_isPlace 5 = .ok (.ifCond .eq 22, 3) := by decide +kernel
theorem dX9_isPlace_8 : decode cX9_isPlace 8 = .ok (.aload_n 0, 1) := by decide +kernel
theorem dX9_isPlace_9 : decode cX9_isPlace 9 = .ok (.iload_n 2, 1) := by decide +kernel
theorem dX9_isPlace_10 : decode cX9_isPlace 10 = .ok (.invokevirtual 262, 3) := by decide +kernel
theorem dX9_isPlace_13 : decode cX9_isPlace 13 = .ok (.ifCond .eq 14, 3) := by decide +kernel
theorem dX9_isPlace_16 : decode cX9_isPlace 16 = .ok (.iload_n 3, 1) := by decide +kernel
theorem dX9_isPlace_17 : decode cX9_isPlace 17 = .ok (.invokestatic 166, 3) := by decide +kernel
theorem dX9_isPlace_20 : decode cX9_isPlace 20 = .ok (.ifCond .eq 7, 3) := by decide +kernel
theorem dX9_isPlace_23 : decode cX9_isPlace 23 = .ok (.iconst 1, 1) := by decide +kernel
theorem dX9_isPlace_24 : decode cX9_isPlace 24 = .ok (.goto 4, 3) := by decide +kernel
theorem dX9_isPlace_27 : decode cX9_isPlace 27 = .ok (.iconst 0, 1) := by decide +kernel
theorem dX9_isPlace_28 : decode cX9_isPlace 28 = .ok (.ireturn, 1) := by decide +kernel
theorem dX9_binds_0 : decode cX9_binds 0 = .ok (.aload_n 0, 1) := by decide +kernel
theorem dX9_binds_1 : decode cX9_binds 1 = .ok (.iconst 0, 1) := by decide +kernel
theorem dX9_binds_2 : decode cX9_binds 2 = .ok (.putfield 124, 3) := by decide +kernel
theorem dX9_binds_5 : decode cX9_binds 5 = .ok (.iload_n 1, 1) := by decide +kernel
theorem dX9_binds_6 : decode cX9_binds 6 = .ok (.iconst 0, 1) := by decide +kernel
theorem dX9_binds_7 : decode cX9_binds 7 = .ok (.aload_n 0, 1) := by decide +kernel
theorem dX9_binds_8 : decode cX9_binds 8 = .ok (.getfield 252, 3) := by decide +kernel
theorem dX9_binds_11 : decode cX9_binds 11 = .ok (.iconst 1, 1) := by decide +kernel
theorem dX9_binds_12 : decode cX9_binds 12 = .ok (.isub, 1) := by decide +kernel
theorem dX9_binds_13 : decode cX9_binds 13 = .ok (.invokestatic 137, 3) := by decide +kernel
theorem dX9_binds_16 : decode cX9_binds 16 = .ok (.ifCond .eq 26, 3) := by decide +kernel
theorem dX9_binds_19 : decode cX9_binds 19 = .ok (.aload_n 0, 1) := by decide +kernel
theorem dX9_binds_20 : decode cX9_binds 20 = .ok (.iload_n 2, 1) := by decide +kernel
theorem dX9_binds_21 : decode cX9_binds 21 = .ok (.iload_n 3, 1) := by decide +kernel
theorem dX9_binds_22 : decode cX9_binds 22 = .ok (.iload 4, 2) := by decide +kernel
theorem dX9_binds_24 : decode cX9_binds 24 = .ok (.invokevirtual 265, 3) := by decide +kernel
theorem dX9_binds_27 : decode cX9_binds 27 = .ok (.ifCond .eq 15, 3) := by decide +kernel
theorem dX9_binds_30 : decode cX9_binds 30 = .ok (.aload_n 0, 1) := by decide +kernel
theorem dX9_binds_31 : decode cX9_binds 31 = .ok (.iload_n 1, 1) := by decide +kernel
theorem dX9_binds_32 : decode cX9_binds 32 = .ok (.iload_n 2, 1) := by decide +kernel
theorem dX9_binds_33 : decode cX9_binds 33 = .ok (.iload_n 3, 1) := by decide +kernel
theorem dX9_binds_34 : decode cX9_binds 34 = .ok (.iload 4, 2) := by decide +kernel
theorem dX9_binds_36 : decode cX9_binds 36 = .ok (.invokevirtual 268, 3) := by decide +kernel
theorem dX9_binds_39 : decode cX9_binds 39 = .ok (.goto 4, 3) := by decide +kernel
theorem dX9_binds_42 : decode cX9_binds 42 = .ok (.iconst (-1), 1) := by decide +kernel
theorem dX9_binds_43 : decode cX9_binds 43 = .ok (.ireturn, 1) := by decide +kernel
theorem dX9_dutyOf_0 : decode cX9_dutyOf 0 = .ok (.iload 4, 2) := by decide +kernel
theorem dX9_dutyOf_2 : decode cX9_dutyOf 2 = .ok (.ifCond .ne 17, 3) := by decide +kernel
theorem dX9_dutyOf_5 : decode cX9_dutyOf 5 = .ok (.aload_n 0, 1) := by decide +kernel
theorem dX9_dutyOf_6 : decode cX9_dutyOf 6 = .ok (.aload_n 0, 1) := by decide +kernel
theorem dX9_dutyOf_7 : decode cX9_dutyOf 7 = .ok (.getfield 26, 3) := by decide +kernel
theorem dX9_dutyOf_10 : decode cX9_dutyOf 10 = .ok (.iload_n 1, 1) := by decide +kernel
theorem dX9_dutyOf_11 : decode cX9_dutyOf 11 = .ok (.iaload, 1) := by decide +kernel
theorem dX9_dutyOf_12 : decode cX9_dutyOf 12 = .ok (.iload_n 1, 1) := by decide +kernel
theorem dX9_dutyOf_13 : decode cX9_dutyOf 13 = .ok (.invokevirtual 162, 3) := by decide +kernel
theorem dX9_dutyOf_16 : decode cX9_dutyOf 16 = .ok (.goto 22, 3) := by decide +kernel
theorem dX9_dutyOf_19 : decode cX9_dutyOf 19 = .ok (.iload 4, 2) := by decide +kernel
theorem dX9_dutyOf_21 : decode cX9_dutyOf 21 = .ok (.iconst 2, 1) := by decide +kernel
theorem dX9_dutyOf_22 : decode cX9_dutyOf 22 = .ok (.if_icmp .eq 9, 3) := by decide +kernel
theorem dX9_dutyOf_25 : decode cX9_dutyOf 25 = .ok (.iload 4, 2) := by decide +kernel
theorem dX9_dutyOf_27 : decode cX9_dutyOf 27 = .ok (.iconst 4, 1) := by decide +kernel
theorem dX9_dutyOf_28 : decode cX9_dutyOf 28 = .ok (.if_icmp .ne 9, 3) := by decide +kernel
theorem dX9_dutyOf_31 : decode cX9_dutyOf 31 = .ok (.sipush 1440, 3) := by decide +kernel
theorem dX9_dutyOf_34 : decode cX9_dutyOf 34 = .ok (.goto 4, 3) := by decide +kernel
theorem dX9_dutyOf_37 : decode cX9_dutyOf 37 = .ok (.iconst 0, 1) := by decide +kernel
theorem dX9_dutyOf_38 : decode cX9_dutyOf 38 = .ok (.istore 6, 2) := by decide +kernel
theorem dX9_dutyOf_40 : decode cX9_dutyOf 40 = .ok (.iconst 0, 1) := by decide +kernel
theorem dX9_dutyOf_41 : decode cX9_dutyOf 41 = .ok (.istore 7, 2) := by decide +kernel
theorem dX9_dutyOf_43 : decode cX9_dutyOf 43 = .ok (.iload 7, 2) := by decide +kernel
theorem dX9_dutyOf_45 : decode cX9_dutyOf 45 = .ok (.aload_n 0, 1) := by decide +kernel
theorem dX9_dutyOf_46 : decode cX9_dutyOf 46 = .ok (.getfield 252, 3) := by decide +kernel
theorem dX9_dutyOf_49 : decode cX9_dutyOf 49 = .ok (.if_icmp .ge 110, 3) := by decide +kernel
theorem dX9_dutyOf_52 : decode cX9_dutyOf 52 = .ok (.aload_n 0, 1) := by decide +kernel
theorem dX9_dutyOf_53 : decode cX9_dutyOf 53 = .ok (.getfield 41, 3) := by decide +kernel
theorem dX9_dutyOf_56 : decode cX9_dutyOf 56 = .ok (.bipush 20, 2) := by decide +kernel
theorem dX9_dutyOf_58 : decode cX9_dutyOf 58 = .ok (.iload 7, 2) := by decide +kernel
theorem dX9_dutyOf_60 : decode cX9_dutyOf 60 = .ok (.imul, 1) := by decide +kernel
theorem dX9_dutyOf_61 : decode cX9_dutyOf 61 = .ok (.bipush 6, 2) := by decide +kernel
theorem dX9_dutyOf_63 : decode cX9_dutyOf 63 = .ok (.iadd, 1) := by decide +kernel
theorem dX9_dutyOf_64 : decode cX9_dutyOf 64 = .ok (.iload 4, 2) := by decide +kernel
theorem dX9_dutyOf_66 : decode cX9_dutyOf 66 = .ok (.iadd, 1) := by decide +kernel
theorem dX9_dutyOf_67 : decode cX9_dutyOf 67 = .ok (.iaload, 1) := by decide +kernel
theorem dX9_dutyOf_68 : decode cX9_dutyOf 68 = .ok (.istore 8, 2) := by decide +kernel
theorem dX9_dutyOf_70 : decode cX9_dutyOf 70 = .ok (.iload 8, 2) := by decide +kernel
theorem dX9_dutyOf_72 : decode cX9_dutyOf 72 = .ok (.bipush (-9), 2) := by decide +kernel
theorem dX9_dutyOf_74 : decode cX9_dutyOf 74 = .ok (.if_icmp .eq 79, 3) := by decide +kernel
theorem dX9_dutyOf_77 : decode cX9_dutyOf 77 = .ok (.aload_n 0, 1) := by decide +kernel
theorem dX9_dutyOf_78 : decode cX9_dutyOf 78 = .ok (.iload 7, 2) := by decide +kernel
theorem dX9_dutyOf_80 : decode cX9_dutyOf 80 = .ok (.iload_n 1, 1) := by decide +kernel
theorem dX9_dutyOf_81 : decode cX9_dutyOf 81 = .ok (.iload_n 2, 1) := by decide +kernel
theorem dX9_dutyOf_82 : decode cX9_dutyOf 82 = .ok (.iload_n 3, 1) := by decide +kernel
theorem dX9_dutyOf_83 : decode cX9_dutyOf 83 = .ok (.invokevirtual 268, 3) := by decide +kernel
theorem dX9_dutyOf_86 : decode cX9_dutyOf 86 = .ok (.iload 5, 2) := by decide +kernel
theorem dX9_dutyOf_88 : decode cX9_dutyOf 88 = .ok (.if_icmp .le 65, 3) := by decide +kernel
theorem dX9_dutyOf_91 : decode cX9_dutyOf 91 = .ok (.iload 4, 2) := by decide +kernel
theorem dX9_dutyOf_93 : decode cX9_dutyOf 93 = .ok (.ifCond .eq 15, 3) := by decide +kernel
theorem dX9_dutyOf_96 : decode cX9_dutyOf 96 = .ok (.iload 4, 2) := by decide +kernel
theorem dX9_dutyOf_98 : decode cX9_dutyOf 98 = .ok (.iconst 2, 1) := by decide +kernel
theorem dX9_dutyOf_99 : decode cX9_dutyOf 99 = .ok (.if_icmp .eq 9, 3) := by decide +kernel
theorem dX9_dutyOf_102 : decode cX9_dutyOf 102 = .ok (.iload 4, 2) := by decide +kernel
theorem dX9_dutyOf_104 : decode cX9_dutyOf 104 = .ok (.iconst 4, 1) := by decide +kernel
theorem dX9_dutyOf_105 : decode cX9_dutyOf 105 = .ok (.if_icmp .ne 7, 3) := by decide +kernel
theorem dX9_dutyOf_108 : decode cX9_dutyOf 108 = .ok (.iconst 1, 1) := by decide +kernel
theorem dX9_dutyOf_109 : decode cX9_dutyOf 109 = .ok (.goto 4, 3) := by decide +kernel
theorem dX9_dutyOf_112 : decode cX9_dutyOf 112 = .ok (.iconst 0, 1) := by decide +kernel
theorem dX9_dutyOf_113 : decode cX9_dutyOf 113 = .ok (.istore 9, 2) := by decide +kernel
theorem dX9_dutyOf_115 : decode cX9_dutyOf 115 = .ok (.iload 9, 2) := by decide +kernel
theorem dX9_dutyOf_117 : decode cX9_dutyOf 117 = .ok (.ifCond .eq 20, 3) := by decide +kernel
theorem dX9_dutyOf_120 : decode cX9_dutyOf 120 = .ok (.iload 8, 2) := by decide +kernel
theorem dX9_dutyOf_122 : decode cX9_dutyOf 122 = .ok (.iload 6, 2) := by decide +kernel
theorem dX9_dutyOf_124 : decode cX9_dutyOf 124 = .ok (.if_icmp .ge 8, 3) := by decide +kernel
theorem dX9_dutyOf_127 : decode cX9_dutyOf 127 = .ok (.iload 8, 2) := by decide +kernel
theorem dX9_dutyOf_129 : decode cX9_dutyOf 129 = .ok (.goto 22, 3) := by decide +kernel
theorem dX9_dutyOf_132 : decode cX9_dutyOf 132 = .ok (.iload 6, 2) := by decide +kernel
theorem dX9_dutyOf_134 : decode cX9_dutyOf 134 = .ok (.goto 17, 3) := by decide +kernel
theorem dX9_dutyOf_137 : decode cX9_dutyOf 137 = .ok (.iload 8, 2) := by decide +kernel
theorem dX9_dutyOf_139 : decode cX9_dutyOf 139 = .ok (.iload 6, 2) := by decide +kernel
theorem dX9_dutyOf_141 : decode cX9_dutyOf 141 = .ok (.if_icmp .le 8, 3) := by decide +kernel
theorem dX9_dutyOf_144 : decode cX9_dutyOf 144 = .ok (.iload 8, 2) := by decide +kernel
theorem dX9_dutyOf_146 : decode cX9_dutyOf 146 = .ok (.goto 5, 3) := by decide +kernel
theorem dX9_dutyOf_149 : decode cX9_dutyOf 149 = .ok (.iload 6, 2) := by decide +kernel
theorem dX9_dutyOf_151 : decode cX9_dutyOf 151 = .ok (.istore 6, 2) := by decide +kernel
theorem dX9_dutyOf_153 : decode cX9_dutyOf 153 = .ok (.iinc 7 1, 3) := by decide +kernel
theorem dX9_dutyOf_156 : decode cX9_dutyOf 156 = .ok (.goto (-113), 3) := by decide +kernel
theorem dX9_dutyOf_159 : decode cX9_dutyOf 159 = .ok (.iload 6, 2) := by decide +kernel
theorem dX9_dutyOf_161 : decode cX9_dutyOf 161 = .ok (.ireturn, 1) := by decide +kernel
theorem dX9_duty_0 : decode cX9_duty 0 = .ok (.aload_n 0, 1) := by decide +kernel
theorem dX9_duty_1 : decode cX9_duty 1 = .ok (.iconst 0, 1) := by decide +kernel
theorem dX9_duty_2 : decode cX9_duty 2 = .ok (.putfield 124, 3) := by decide +kernel
theorem dX9_duty_5 : decode cX9_duty 5 = .ok (.aload_n 0, 1) := by decide +kernel
theorem dX9_duty_6 : decode cX9_duty 6 = .ok (.iload_n 1, 1) := by decide +kernel
theorem dX9_duty_7 : decode cX9_duty 7 = .ok (.iload_n 2, 1) := by decide +kernel
theorem dX9_duty_8 : decode cX9_duty 8 = .ok (.iload_n 3, 1) := by decide +kernel
theorem dX9_duty_9 : decode cX9_duty 9 = .ok (.invokevirtual 265, 3) := by decide +kernel
theorem dX9_duty_12 : decode cX9_duty 12 = .ok (.ifCond .eq 38, 3) := by decide +kernel
theorem dX9_duty_15 : decode cX9_duty 15 = .ok (.iload 4, 2) := by decide +kernel
theorem dX9_duty_17 : decode cX9_duty 17 = .ok (.iconst 0, 1) := by decide +kernel
theorem dX9_duty_18 : decode cX9_duty 18 = .ok (.bipush 6, 2) := by decide +kernel
theorem dX9_duty_20 : decode cX9_duty 20 = .ok (.invokestatic 137, 3) := by decide +kernel
theorem dX9_duty_23 : decode cX9_duty 23 = .ok (.ifCond .eq 27, 3) := by decide +kernel
theorem dX9_duty_26 : decode cX9_duty 26 = .ok (.iload 5, 2) := by decide +kernel
theorem dX9_duty_28 : decode cX9_duty 28 = .ok (.iconst 0, 1) := by decide +kernel
theorem dX9_duty_29 : decode cX9_duty 29 = .ok (.iconst 1, 1) := by decide +kernel
theorem dX9_duty_30 : decode cX9_duty 30 = .ok (.invokestatic 137, 3) := by decide +kernel
theorem dX9_duty_33 : decode cX9_duty 33 = .ok (.ifCond .eq 17, 3) := by decide +kernel
theorem dX9_duty_36 : decode cX9_duty 36 = .ok (.aload_n 0, 1) := by decide +kernel
theorem dX9_duty_37 : decode cX9_duty 37 = .ok (.iload_n 1, 1) := by decide +kernel
theorem dX9_duty_38 : decode cX9_duty 38 = .ok (.iload_n 2, 1) := by decide +kernel
theorem dX9_duty_39 : decode cX9_duty 39 = .ok (.iload_n 3, 1) := by decide +kernel
theorem dX9_duty_40 : decode cX9_duty 40 = .ok (.iload 4, 2) := by decide +kernel
theorem dX9_duty_42 : decode cX9_duty 42 = .ok (.iload 5, 2) := by decide +kernel
theorem dX9_duty_44 : decode cX9_duty 44 = .ok (.invokevirtual 272, 3) := by decide +kernel
theorem dX9_duty_47 : decode cX9_duty 47 = .ok (.goto 4, 3) := by decide +kernel
theorem dX9_duty_50 : decode cX9_duty 50 = .ok (.iconst (-1), 1) := by decide +kernel
theorem dX9_duty_51 : decode cX9_duty 51 = .ok (.ireturn, 1) := by decide +kernel
theorem dX9_why_0 : decode cX9_why 0 = .ok (.aload_n 0, 1) := by decide +kernel
theorem dX9_why_1 : decode cX9_why 1 = .ok (.iconst 0, 1) := by decide +kernel
theorem dX9_why_2 : decode cX9_why 2 = .ok (.putfield 124, 3) := by decide +kernel
theorem dX9_why_5 : decode cX9_why 5 = .ok (.aload_n 0, 1) := by decide +kernel
theorem dX9_why_6 : decode cX9_why 6 = .ok (.iload_n 1, 1) := by decide +kernel
theorem dX9_why_7 : decode cX9_why 7 = .ok (.iload_n 2, 1) := by decide +kernel
theorem dX9_why_8 : decode cX9_why 8 = .ok (.iload_n 3, 1) := by decide +kernel
theorem dX9_why_9 : decode cX9_why 9 = .ok (.invokevirtual 265, 3) := by decide +kernel
theorem dX9_why_12 : decode cX9_why 12 = .ok (.ifCond .eq 24, 3) := by decide +kernel
theorem dX9_why_15 : decode cX9_why 15 = .ok (.iload 4, 2) := by decide +kernel
theorem dX9_why_17 : decode cX9_why 17 = .ok (.iconst 0, 1) := by decide +kernel
theorem dX9_why_18 : decode cX9_why 18 = .ok (.bipush 6, 2) := by decide +kernel
theorem dX9_why_20 : decode cX9_why 20 = .ok (.invokestatic 137, 3) := by decide +kernel
theorem dX9_why_23 : decode cX9_why 23 = .ok (.ifCond .eq 13, 3) := by decide +kernel
theorem dX9_why_26 : decode cX9_why 26 = .ok (.iload 5, 2) := by decide +kernel
theorem dX9_why_28 : decode cX9_why 28 = .ok (.iconst 0, 1) := by decide +kernel
theorem dX9_why_29 : decode cX9_why 29 = .ok (.iconst 1, 1) := by decide +kernel
theorem dX9_why_30 : decode cX9_why 30 = .ok (.invokestatic 137, 3) := by decide +kernel
theorem dX9_why_33 : decode cX9_why 33 = .ok (.ifCond .ne 5, 3) := by decide +kernel
theorem dX9_why_36 : decode cX9_why 36 = .ok (.iconst (-1), 1) := by decide +kernel
theorem dX9_why_37 : decode cX9_why 37 = .ok (.ireturn, 1) := by decide +kernel
theorem dX9_why_38 : decode cX9_why 38 = .ok (.aload_n 0, 1) := by decide +kernel
theorem dX9_why_39 : decode cX9_why 39 = .ok (.iload_n 1, 1) := by decide +kernel
theorem dX9_why_40 : decode cX9_why 40 = .ok (.iload_n 2, 1) := by decide +kernel
theorem dX9_why_41 : decode cX9_why 41 = .ok (.iload_n 3, 1) := by decide +kernel
theorem dX9_why_42 : decode cX9_why 42 = .ok (.iload 4, 2) := by decide +kernel
theorem dX9_why_44 : decode cX9_why 44 = .ok (.iload 5, 2) := by decide +kernel
theorem dX9_why_46 : decode cX9_why 46 = .ok (.invokevirtual 272, 3) := by decide +kernel
theorem dX9_why_49 : decode cX9_why 49 = .ok (.istore 6, 2) := by decide +kernel
theorem dX9_why_51 : decode cX9_why 51 = .ok (.bipush (-9), 2) := by decide +kernel
theorem dX9_why_53 : decode cX9_why 53 = .ok (.istore 7, 2) := by decide +kernel
theorem dX9_why_55 : decode cX9_why 55 = .ok (.iconst 0, 1) := by decide +kernel
theorem dX9_why_56 : decode cX9_why 56 = .ok (.istore 8, 2) := by decide +kernel
theorem dX9_why_58 : decode cX9_why 58 = .ok (.iload 8, 2) := by decide +kernel
theorem dX9_why_60 : decode cX9_why 60 = .ok (.aload_n 0, 1) := by decide +kernel
theorem dX9_why_61 : decode cX9_why 61 = .ok (.getfield 252, 3) := by decide +kernel
theorem dX9_why_64 : decode cX9_why 64 = .ok (.if_icmp .ge 95, 3) := by decide +kernel
theorem dX9_why_67 : decode cX9_why 67 = .ok (.aload_n 0, 1) := by decide +kernel
theorem dX9_why_68 : decode cX9_why 68 = .ok (.getfield 41, 3) := by decide +kernel
theorem dX9_why_71 : decode cX9_why 71 = .ok (.bipush 20, 2) := by decide +kernel
theorem dX9_why_73 : decode cX9_why 73 = .ok (.iload 8, 2) := by decide +kernel
theorem dX9_why_75 : decode cX9_why 75 = .ok (.imul, 1) := by decide +kernel
theorem dX9_why_76 : decode cX9_why 76 = .ok (.bipush 6, 2) := by decide +kernel
theorem dX9_why_78 : decode cX9_why 78 = .ok (.iadd, 1) := by decide +kernel
theorem dX9_why_79 : decode cX9_why 79 = .ok (.iload 4, 2) := by decide +kernel
theorem dX9_why_81 : decode cX9_why 81 = .ok (.iadd, 1) := by decide +kernel
theorem dX9_why_82 : decode cX9_why 82 = .ok (.iaload, 1) := by decide +kernel
theorem dX9_why_83 : decode cX9_why 83 = .ok (.iload 6, 2) := by decide +kernel
theorem dX9_why_85 : decode cX9_why 85 = .ok (.if_icmp .ne 21, 3) := by decide +kernel
theorem dX9_why_88 : decode cX9_why 88 = .ok (.aload_n 0, 1) := by decide +kernel
theorem dX9_why_89 : decode cX9_why 89 = .ok (.iload 8, 2) := by decide +kernel
theorem dX9_why_91 : decode cX9_why 91 = .ok (.iload_n 1, 1) := by decide +kernel
theorem dX9_why_92 : decode cX9_why 92 = .ok (.iload_n 2, 1) := by decide +kernel
theorem dX9_why_93 : decode cX9_why 93 = .ok (.iload_n 3, 1) := by decide +kernel
theorem dX9_why_94 : decode cX9_why 94 = .ok (.invokevirtual 268, 3) := by decide +kernel
theorem dX9_why_97 : decode cX9_why 97 = .ok (.iload 5, 2) := by decide +kernel
theorem dX9_why_99 : decode cX9_why 99 = .ok (.if_icmp .le 7, 3) := by decide +kernel
theorem dX9_why_102 : decode cX9_why 102 = .ok (.iconst 1, 1) := by decide +kernel
theorem dX9_why_103 : decode cX9_why 103 = .ok (.goto 4, 3) := by decide +kernel
theorem dX9_why_106 : decode cX9_why 106 = .ok (.iconst 0, 1) := by decide +kernel
theorem dX9_why_107 : decode cX9_why 107 = .ok (.istore 9, 2) := by decide +kernel
theorem dX9_why_109 : decode cX9_why 109 = .ok (.iload 9, 2) := by decide +kernel
theorem dX9_why_111 : decode cX9_why 111 = .ok (.ifCond .eq 38, 3) := by decide +kernel
theorem dX9_why_114 : decode cX9_why 114 = .ok (.iload 7, 2) := by decide +kernel
theorem dX9_why_116 : decode cX9_why 116 = .ok (.bipush (-9), 2) := by decide +kernel
theorem dX9_why_118 : decode cX9_why 118 = .ok (.if_icmp .eq 18, 3) := by decide +kernel
theorem dX9_why_121 : decode cX9_why 121 = .ok (.aload_n 0, 1) := by decide +kernel
theorem dX9_why_122 : decode cX9_why 122 = .ok (.getfield 41, 3) := by decide +kernel
theorem dX9_why_125 : decode cX9_why 125 = .ok (.bipush 20, 2) := by decide +kernel
theorem dX9_why_127 : decode cX9_why 127 = .ok (.iload 8, 2) := by decide +kernel
theorem dX9_why_129 : decode cX9_why 129 = .ok (.imul, 1) := by decide +kernel
theorem dX9_why_130 : decode cX9_why 130 = .ok (.iaload, 1) := by decide +kernel
theorem dX9_why_131 : decode cX9_why 131 = .ok (.iload 7, 2) := by decide +kernel
theorem dX9_why_133 : decode cX9_why 133 = .ok (.if_icmp .ge 16, 3) := by decide +kernel
theorem dX9_why_136 : decode cX9_why 136 = .ok (.aload_n 0, 1) := by decide +kernel
theorem dX9_why_137 : decode cX9_why 137 = .ok (.getfield 41, 3) := by decide +kernel
theorem dX9_why_140 : decode cX9_why 140 = .ok (.bipush 20, 2) := by decide +kernel
theorem dX9_why_142 : decode cX9_why 142 = .ok (.iload 8, 2) := by decide +kernel
theorem dX9_why_144 : decode cX9_why 144 = .ok (.imul, 1) := by decide +kernel
theorem dX9_why_145 : decode cX9_why 145 = .ok (.iaload, 1) := by decide +kernel
theorem dX9_why_146 : decode cX9_why 146 = .ok (.goto 5, 3) := by decide +kernel
theorem dX9_why_149 : decode cX9_why 149 = .ok (.iload 7, 2) := by decide +kernel
theorem dX9_why_151 : decode cX9_why 151 = .ok (.istore 7, 2) := by decide +kernel
theorem dX9_why_153 : decode cX9_why 153 = .ok (.iinc 8 1, 3) := by decide +kernel
theorem dX9_why_156 : decode cX9_why 156 = .ok (.goto (-98), 3) := by decide +kernel
theorem dX9_why_159 : decode cX9_why 159 = .ok (.iload 7, 2) := by decide +kernel
theorem dX9_why_161 : decode cX9_why 161 = .ok (.ireturn, 1) := by decide +kernel
theorem dX9_quarrel_0 : decode cX9_quarrel 0 = .ok (.aload_n 0, 1) := by decide +kernel
theorem dX9_quarrel_1 : decode cX9_quarrel 1 = .ok (.iconst 0, 1) := by decide +kernel
theorem dX9_quarrel_2 : decode cX9_quarrel 2 = .ok (.putfield 124, 3) := by decide +kernel
theorem dX9_quarrel_5 : decode cX9_quarrel 5 = .ok (.aload_n 0, 1) := by decide +kernel
theorem dX9_quarrel_6 : decode cX9_quarrel 6 = .ok (.iload_n 1, 1) := by decide +kernel
theorem dX9_quarrel_7 : decode cX9_quarrel 7 = .ok (.iload_n 2, 1) := by decide +kernel
theorem dX9_quarrel_8 : decode cX9_quarrel 8 = .ok (.iload_n 3, 1) := by decide +kernel
theorem dX9_quarrel_9 : decode cX9_quarrel 9 = .ok (.invokevirtual 265, 3) := by decide +kernel
theorem dX9_quarrel_12 : decode cX9_quarrel 12 = .ok (.ifCond .ne 5, 3) := by decide +kernel
theorem dX9_quarrel_15 : decode cX9_quarrel 15 = .ok (.iconst (-1), 1) := by decide +kernel
theorem dX9_quarrel_16 : decode cX9_quarrel 16 = .ok (.ireturn, 1) := by decide +kernel
theorem dX9_quarrel_17 : decode cX9_quarrel 17 = .ok (.iconst 0, 1) := by decide +kernel
theorem dX9_quarrel_18 : decode cX9_quarrel 18 = .ok (.istore 4, 2) := by decide +kernel
theorem dX9_quarrel_20 : decode cX9_quarrel 20 = .ok (.iload 4, 2) := by decide +kernel
theorem dX9_quarrel_22 : decode cX9_quarrel 22 = .ok (.aload_n 0, 1) := by decide +kernel
theorem dX9_quarrel_23 : decode cX9_quarrel 23 = .ok (.getfield 252, 3) := by decide +kernel
theorem dX9_quarrel_26 : decode cX9_quarrel 26 = .ok (.if_icmp .ge 177, 3) := by decide +kernel
theorem dX9_quarrel_29 : decode cX9_quarrel 29 = .ok (.iload 4, 2) := by decide +kernel
theorem dX9_quarrel_31 : decode cX9_quarrel 31 = .ok (.iconst 1, 1) := by decide +kernel
theorem dX9_quarrel_32 : decode cX9_quarrel 32 = .ok (.iadd, 1) := by decide +kernel
theorem dX9_quarrel_33 : decode cX9_quarrel 33 = .ok (.istore 5, 2) := by decide +kernel
theorem dX9_quarrel_35 : decode cX9_quarrel 35 = .ok (.iload 5, 2) := by decide +kernel
theorem dX9_quarrel_37 : decode cX9_quarrel 37 = .ok (.aload_n 0, 1) := by decide +kernel
theorem dX9_quarrel_38 : decode cX9_quarrel 38 = .ok (.getfield 252, 3) := by decide +kernel
theorem dX9_quarrel_41 : decode cX9_quarrel 41 = .ok (.if_icmp .ge 156, 3) := by decide +kernel
theorem dX9_quarrel_44 : decode cX9_quarrel 44 = .ok (.bipush 20, 2) := by decide +kernel
theorem dX9_quarrel_46 : decode cX9_quarrel 46 = .ok (.iload 4, 2) := by decide +kernel
theorem dX9_quarrel_48 : decode cX9_quarrel 48 = .ok (.imul, 1) := by decide +kernel
theorem dX9_quarrel_49 : decode cX9_quarrel 49 = .ok (.istore 6, 2) := by decide +kernel
theorem dX9_quarrel_51 : decode cX9_quarrel 51 = .ok (.bipush 20, 2) := by decide +kernel
theorem dX9_quarrel_53 : decode cX9_quarrel 53 = .ok (.iload 5, 2) := by decide +kernel
theorem dX9_quarrel_55 : decode cX9_quarrel 55 = .ok (.imul, 1) := by decide +kernel
theorem dX9_quarrel_56 : decode cX9_quarrel 56 = .ok (.istore 7, 2) := by decide +kernel
theorem dX9_quarrel_58 : decode cX9_quarrel 58 = .ok (.aload_n 0, 1) := by decide +kernel
theorem dX9_quarrel_59 : decode cX9_quarrel 59 = .ok (.getfield 41, 3) := by decide +kernel
theorem dX9_quarrel_62 : decode cX9_quarrel 62 = .ok (.iload 6, 2) := by decide +kernel
theorem dX9_quarrel_64 : decode cX9_quarrel 64 = .ok (.bipush 7, 2) := by decide +kernel
theorem dX9_quarrel_66 : decode cX9_quarrel 66 = .ok (.iadd, 1) := by decide +kernel
theorem dX9_quarrel_67 : decode cX9_quarrel 67 = .ok (.iaload, 1) := by decide +kernel
theorem dX9_quarrel_68 : decode cX9_quarrel 68 = .ok (.bipush (-9), 2) := by decide +kernel
theorem dX9_quarrel_70 : decode cX9_quarrel 70 = .ok (.if_icmp .eq 68, 3) := by decide +kernel
theorem dX9_quarrel_73 : decode cX9_quarrel 73 = .ok (.aload_n 0, 1) := by decide +kernel
theorem dX9_quarrel_74 : decode cX9_quarrel 74 = .ok (.getfield 41, 3) := by decide +kernel
theorem dX9_quarrel_77 : decode cX9_quarrel 77 = .ok (.iload 7, 2) := by decide +kernel
theorem dX9_quarrel_79 : decode cX9_quarrel 79 = .ok (.bipush 7, 2) := by decide +kernel
theorem dX9_quarrel_81 : decode cX9_quarrel 81 = .ok (.iadd, 1) := by decide +kernel
theorem dX9_quarrel_82 : decode cX9_quarrel 82 = .ok (.iaload, 1) := by decide +kernel
theorem dX9_quarrel_83 : decode cX9_quarrel 83 = .ok (.bipush (-9), 2) := by decide +kernel
theorem dX9_quarrel_85 : decode cX9_quarrel 85 = .ok (.if_icmp .eq 53, 3) := by decide +kernel
theorem dX9_quarrel_88 : decode cX9_quarrel 88 = .ok (.aload_n 0, 1) := by decide +kernel
theorem dX9_quarrel_89 : decode cX9_quarrel 89 = .ok (.getfield 41, 3) := by decide +kernel
theorem dX9_quarrel_92 : decode cX9_quarrel 92 = .ok (.iload 6, 2) := by decide +kernel
theorem dX9_quarrel_94 : decode cX9_quarrel 94 = .ok (.bipush 7, 2) := by decide +kernel
theorem dX9_quarrel_96 : decode cX9_quarrel 96 = .ok (.iadd, 1) := by decide +kernel
theorem dX9_quarrel_97 : decode cX9_quarrel 97 = .ok (.iaload, 1) := by decide +kernel
theorem dX9_quarrel_98 : decode cX9_quarrel 98 = .ok (.aload_n 0, 1) := by decide +kernel
theorem dX9_quarrel_99 : decode cX9_quarrel 99 = .ok (.getfield 41, 3) := by decide +kernel
theorem dX9_quarrel_102 : decode cX9_quarrel 102 = .ok (.iload 7, 2) := by decide +kernel
theorem dX9_quarrel_104 : decode cX9_quarrel 104 = .ok (.bipush 8, 2) := by decide +kernel
theorem dX9_quarrel_106 : decode cX9_quarrel 106 = .ok (.iadd, 1) := by decide +kernel
theorem dX9_quarrel_107 : decode cX9_quarrel 107 = .ok (.iaload, 1) := by decide +kernel
theorem dX9_quarrel_108 : decode cX9_quarrel 108 = .ok (.if_icmp .ge 26, 3) := by decide +kernel
theorem dX9_quarrel_111 : decode cX9_quarrel 111 = .ok (.aload_n 0, 1) := by decide +kernel
theorem dX9_quarrel_112 : decode cX9_quarrel 112 = .ok (.getfield 41, 3) := by decide +kernel
theorem dX9_quarrel_115 : decode cX9_quarrel 115 = .ok (.iload 7, 2) := by decide +kernel
theorem dX9_quarrel_117 : decode cX9_quarrel 117 = .ok (.bipush 7, 2) := by decide +kernel
theorem dX9_quarrel_119 : decode cX9_quarrel 119 = .ok (.iadd, 1) := by decide +kernel
theorem dX9_quarrel_120 : decode cX9_quarrel 120 = .ok (.iaload, 1) := by decide +kernel
theorem dX9_quarrel_121 : decode cX9_quarrel 121 = .ok (.aload_n 0, 1) := by decide +kernel
theorem dX9_quarrel_122 : decode cX9_quarrel 122 = .ok (.getfield 41, 3) := by decide +kernel
theorem dX9_quarrel_125 : decode cX9_quarrel 125 = .ok (.iload 6, 2) := by decide +kernel
theorem dX9_quarrel_127 : decode cX9_quarrel 127 = .ok (.bipush 8, 2) := by decide +kernel
theorem dX9_quarrel_129 : decode cX9_quarrel 129 = .ok (.iadd, 1) := by decide +kernel
theorem dX9_quarrel_130 : decode cX9_quarrel 130 = .ok (.iaload, 1) := by decide +kernel
theorem dX9_quarrel_131 : decode cX9_quarrel 131 = .ok (.if_icmp .lt 7, 3) := by decide +kernel
theorem dX9_quarrel_134 : decode cX9_quarrel 134 = .ok (.iconst 1, 1) := by decide +kernel
theorem dX9_quarrel_135 : decode cX9_quarrel 135 = .ok (.goto 4, 3) := by decide +kernel
theorem dX9_quarrel_138 : decode cX9_quarrel 138 = .ok (.iconst 0, 1) := by decide +kernel
theorem dX9_quarrel_139 : decode cX9_quarrel 139 = .ok (.istore 8, 2) := by decide +kernel
theorem dX9_quarrel_141 : decode cX9_quarrel 141 = .ok (.iload 8, 2) := by decide +kernel
theorem dX9_quarrel_143 : decode cX9_quarrel 143 = .ok (.ifCond .eq 48, 3) := by decide +kernel
theorem dX9_quarrel_146 : decode cX9_quarrel 146 = .ok (.aload_n 0, 1) := by decide +kernel
theorem dX9_quarrel_147 : decode cX9_quarrel 147 = .ok (.iload 4, 2) := by decide +kernel
theorem dX9_quarrel_149 : decode cX9_quarrel 149 = .ok (.iload_n 1, 1) := by decide +kernel
theorem dX9_quarrel_150 : decode cX9_quarrel 150 = .ok (.iload_n 2, 1) := by decide +kernel
theorem dX9_quarrel_151 : decode cX9_quarrel 151 = .ok (.iload_n 3, 1) := by decide +kernel
theorem dX9_quarrel_152 : decode cX9_quarrel 152 = .ok (.invokevirtual 268, 3) := by decide +kernel
theorem dX9_quarrel_155 : decode cX9_quarrel 155 = .ok (.iconst 2, 1) := by decide +kernel
theorem dX9_quarrel_156 : decode cX9_quarrel 156 = .ok (.if_icmp .ne 35, 3) := by decide +kernel
theorem dX9_quarrel_159 : decode cX9_quarrel 159 = .ok (.aload_n 0, 1) := by decide +kernel
theorem dX9_quarrel_160 : decode cX9_quarrel 160 = .ok (.iload 5, 2) := by decide +kernel
theorem dX9_quarrel_162 : decode cX9_quarrel 162 = .ok (.iload_n 1, 1) := by decide +kernel
theorem dX9_quarrel_163 : decode cX9_quarrel 163 = .ok (.iload_n 2, 1) := by decide +kernel
theorem dX9_quarrel_164 : decode cX9_quarrel 164 = .ok (.iload_n 3, 1) := by decide +kernel
theorem dX9_quarrel_165 : decode cX9_quarrel 165 = .ok (.invokevirtual 268, 3) := by decide +kernel
theorem dX9_quarrel_168 : decode cX9_quarrel 168 = .ok (.iconst 2, 1) := by decide +kernel
theorem dX9_quarrel_169 : decode cX9_quarrel 169 = .ok (.if_icmp .ne 22, 3) := by decide +kernel
theorem dX9_quarrel_172 : decode cX9_quarrel 172 = .ok (.bipush 100, 2) := by decide +kernel
theorem dX9_quarrel_174 : decode cX9_quarrel 174 = .ok (.aload_n 0, 1) := by decide +kernel
theorem dX9_quarrel_175 : decode cX9_quarrel 175 = .ok (.getfield 41, 3) := by decide +kernel
theorem dX9_quarrel_178 : decode cX9_quarrel 178 = .ok (.iload 6, 2) := by decide +kernel
theorem dX9_quarrel_180 : decode cX9_quarrel 180 = .ok (.iaload, 1) := by decide +kernel
theorem dX9_quarrel_181 : decode cX9_quarrel 181 = .ok (.imul, 1) := by decide +kernel
theorem dX9_quarrel_182 : decode cX9_quarrel 182 = .ok (.aload_n 0, 1) := by decide +kernel
theorem dX9_quarrel_183 : decode cX9_quarrel 183 = .ok (.getfield 41, 3) := by decide +kernel
theorem dX9_quarrel_186 : decode cX9_quarrel 186 = .ok (.iload 7, 2) := by decide +kernel
theorem dX9_quarrel_188 : decode cX9_quarrel 188 = .ok (.iaload, 1) := by decide +kernel
theorem dX9_quarrel_189 : decode cX9_quarrel 189 = .ok (.iadd, 1) := by decide +kernel
theorem dX9_quarrel_190 : decode cX9_quarrel 190 = .ok (.ireturn, 1) := by decide +kernel
theorem dX9_quarrel_191 : decode cX9_quarrel 191 = .ok (.iinc 5 1, 3) := by decide +kernel
theorem dX9_quarrel_194 : decode cX9_quarrel 194 = .ok (.goto (-159), 3) := by decide +kernel
theorem dX9_quarrel_197 : decode cX9_quarrel 197 = .ok (.iinc 4 1, 3) := by decide +kernel
theorem dX9_quarrel_200 : decode cX9_quarrel 200 = .ok (.goto (-180), 3) := by decide +kernel
theorem dX9_quarrel_203 : decode cX9_quarrel 203 = .ok (.bipush (-9), 2) := by decide +kernel
theorem dX9_quarrel_205 : decode cX9_quarrel 205 = .ok (.ireturn, 1) := by decide +kernel
theorem dX9_rule_0 : decode cX9_rule 0 = .ok (.aload_n 0, 1) := by decide +kernel
theorem dX9_rule_1 : decode cX9_rule 1 = .ok (.iconst 0, 1) := by decide +kernel
theorem dX9_rule_2 : decode cX9_rule 2 = .ok (.putfield 124, 3) := by decide +kernel
theorem dX9_rule_5 : decode cX9_rule 5 = .ok (.iload_n 1, 1) := by decide +kernel
theorem dX9_rule_6 : decode cX9_rule 6 = .ok (.iconst 0, 1) := by decide +kernel
theorem dX9_rule_7 : decode cX9_rule 7 = .ok (.aload_n 0, 1) := by decide +kernel
theorem dX9_rule_8 : decode cX9_rule 8 = .ok (.getfield 252, 3) := by decide +kernel
theorem dX9_rule_11 : decode cX9_rule 11 = .ok (.iconst 1, 1) := by decide +kernel
theorem dX9_rule_12 : decode cX9_rule 12 = .ok (.isub, 1) := by decide +kernel
theorem dX9_rule_13 : decode cX9_rule 13 = .ok (.invokestatic 137, 3) := by decide +kernel
theorem dX9_rule_16 : decode cX9_rule 16 = .ok (.ifCond .eq 12, 3) := by decide +kernel
theorem dX9_rule_19 : decode cX9_rule 19 = .ok (.iload_n 2, 1) := by decide +kernel
theorem dX9_rule_20 : decode cX9_rule 20 = .ok (.iconst 0, 1) := by decide +kernel
theorem dX9_rule_21 : decode cX9_rule 21 = .ok (.iconst 4, 1) := by decide +kernel
theorem dX9_rule_22 : decode cX9_rule 22 = .ok (.invokestatic 137, 3) := by decide +kernel
theorem dX9_rule_25 : decode cX9_rule 25 = .ok (.ifCond .ne 7, 3) := by decide +kernel
theorem dX9_rule_28 : decode cX9_rule 28 = .ok (.iconst (-1), 1) := by decide +kernel
theorem dX9_rule_29 : decode cX9_rule 29 = .ok (.goto 33, 3) := by decide +kernel
theorem dX9_rule_32 : decode cX9_rule 32 = .ok (.iload_n 2, 1) := by decide +kernel
theorem dX9_rule_33 : decode cX9_rule 33 = .ok (.iconst 4, 1) := by decide +kernel
theorem dX9_rule_34 : decode cX9_rule 34 = .ok (.if_icmp .ne 17, 3) := by decide +kernel
theorem dX9_rule_37 : decode cX9_rule 37 = .ok (.aload_n 0, 1) := by decide +kernel
theorem dX9_rule_38 : decode cX9_rule 38 = .ok (.getfield 41, 3) := by decide +kernel
theorem dX9_rule_41 : decode cX9_rule 41 = .ok (.bipush 20, 2) := by decide +kernel
theorem dX9_rule_43 : decode cX9_rule 43 = .ok (.iload_n 1, 1) := by decide +kernel
theorem dX9_rule_44 : decode cX9_rule 44 = .ok (.imul, 1) := by decide +kernel
theorem dX9_rule_45 : decode cX9_rule 45 = .ok (.iconst 5, 1) := by decide +kernel
theorem dX9_rule_46 : decode cX9_rule 46 = .ok (.iadd, 1) := by decide +kernel
theorem dX9_rule_47 : decode cX9_rule 47 = .ok (.iaload, 1) := by decide +kernel
theorem dX9_rule_48 : decode cX9_rule 48 = .ok (.goto 14, 3) := by decide +kernel
theorem dX9_rule_51 : decode cX9_rule 51 = .ok (.aload_n 0, 1) := by decide +kernel
theorem dX9_rule_52 : decode cX9_rule 52 = .ok (.getfield 41, 3) := by decide +kernel
theorem dX9_rule_55 : decode cX9_rule 55 = .ok (.bipush 20, 2) := by decide +kernel
theorem dX9_rule_57 : decode cX9_rule 57 = .ok (.iload_n 1, 1) := by decide +kernel
theorem dX9_rule_58 : decode cX9_rule 58 = .ok (.imul, 1) := by decide +kernel
theorem dX9_rule_59 : decode cX9_rule 59 = .ok (.iload_n 2, 1) := by decide +kernel
theorem dX9_rule_60 : decode cX9_rule 60 = .ok (.iadd, 1) := by decide +kernel
theorem dX9_rule_61 : decode cX9_rule 61 = .ok (.iaload, 1) := by decide +kernel
theorem dX9_rule_62 : decode cX9_rule 62 = .ok (.ireturn, 1) := by decide +kernel
theorem dX9_line_0 : decode cX9_line 0 = .ok (.aload_n 0, 1) := by decide +kernel
theorem dX9_line_1 : decode cX9_line 1 = .ok (.iconst 0, 1) := by decide +kernel
theorem dX9_line_2 : decode cX9_line 2 = .ok (.putfield 124, 3) := by decide +kernel
theorem dX9_line_5 : decode cX9_line 5 = .ok (.aload_n 0, 1) := by decide +kernel
theorem dX9_line_6 : decode cX9_line 6 = .ok (.iload_n 1, 1) := by decide +kernel
theorem dX9_line_7 : decode cX9_line 7 = .ok (.invokevirtual 144, 3) := by decide +kernel
theorem dX9_line_10 : decode cX9_line 10 = .ok (.ifCond .eq 51, 3) := by decide +kernel
theorem dX9_line_13 : decode cX9_line 13 = .ok (.iload_n 2, 1) := by decide +kernel
theorem dX9_line_14 : decode cX9_line 14 = .ok (.invokestatic 166, 3) := by decide +kernel
theorem dX9_line_17 : decode cX9_line 17 = .ok (.ifCond .eq 44, 3) := by decide +kernel
theorem dX9_line_20 : decode cX9_line 20 = .ok (.iload_n 3, 1) := by decide +kernel
theorem dX9_line_21 : decode cX9_line 21 = .ok (.bipush (-9), 2) := by decide +kernel
theorem dX9_line_23 : decode cX9_line 23 = .ok (.if_icmp .eq 11, 3) := by decide +kernel
theorem dX9_line_26 : decode cX9_line 26 = .ok (.aload_n 0, 1) := by decide +kernel
theorem dX9_line_27 : decode cX9_line 27 = .ok (.iload_n 3, 1) := by decide +kernel
theorem dX9_line_28 : decode cX9_line 28 = .ok (.invokevirtual 262, 3) := by decide +kernel
theorem dX9_line_31 : decode cX9_line 31 = .ok (.ifCond .eq 30, 3) := by decide +kernel
theorem dX9_line_34 : decode cX9_line 34 = .ok (.iload 4, 2) := by decide +kernel
theorem dX9_line_36 : decode cX9_line 36 = .ok (.iconst 0, 1) := by decide +kernel
theorem dX9_line_37 : decode cX9_line 37 = .ok (.sipush 1439, 3) := by decide +kernel
theorem dX9_line_40 : decode cX9_line 40 = .ok (.invokestatic 137, 3) := by decide +kernel
theorem dX9_line_43 : decode cX9_line 43 = .ok (.ifCond .eq 18, 3) := by decide +kernel
theorem dX9_line_46 : decode cX9_line 46 = .ok (.iload 5, 2) := by decide +kernel
theorem dX9_line_48 : decode cX9_line 48 = .ok (.iload 4, 2) := by decide +kernel
theorem dX9_line_50 : decode cX9_line 50 = .ok (.iconst 1, 1) := by decide +kernel
theorem dX9_line_51 : decode cX9_line 51 = .ok (.iadd, 1) := by decide +kernel
theorem dX9_line_52 : decode cX9_line 52 = .ok (.sipush 1440, 3) := by decide +kernel
theorem dX9_line_55 : decode cX9_line 55 = .ok (.invokestatic 137, 3) := by decide +kernel
theorem dX9_line_58 : decode cX9_line 58 = .ok (.ifCond .ne 5, 3) := by decide +kernel
theorem dX9_line_61 : decode cX9_line 61 = .ok (.iconst (-1), 1) := by decide +kernel
theorem dX9_line_62 : decode cX9_line 62 = .ok (.ireturn, 1) := by decide +kernel
theorem dX9_line_63 : decode cX9_line 63 = .ok (.aload_n 0, 1) := by decide +kernel
theorem dX9_line_64 : decode cX9_line 64 = .ok (.getfield 275, 3) := by decide +kernel
theorem dX9_line_67 : decode cX9_line 67 = .ok (.bipush 60, 2) := by decide +kernel
theorem dX9_line_69 : decode cX9_line 69 = .ok (.if_icmp .ne 6, 3) := by decide +kernel
theorem dX9_line_72 : decode cX9_line 72 = .ok (.bipush (-3), 2) := by decide +kernel
theorem dX9_line_74 : decode cX9_line 74 = .ok (.ireturn, 1) := by decide +kernel
theorem dX9_line_75 : decode cX9_line 75 = .ok (.aload_n 0, 1) := by decide +kernel
theorem dX9_line_76 : decode cX9_line 76 = .ok (.getfield 53, 3) := by decide +kernel
theorem dX9_line_79 : decode cX9_line 79 = .ok (.aload_n 0, 1) := by decide +kernel
theorem dX9_line_80 : decode cX9_line 80 = .ok (.getfield 275, 3) := by decide +kernel
theorem dX9_line_83 : decode cX9_line 83 = .ok (.iload_n 1, 1) := by decide +kernel
theorem dX9_line_84 : decode cX9_line 84 = .ok (.iastore, 1) := by decide +kernel
theorem dX9_line_85 : decode cX9_line 85 = .ok (.aload_n 0, 1) := by decide +kernel
theorem dX9_line_86 : decode cX9_line 86 = .ok (.getfield 56, 3) := by decide +kernel
theorem dX9_line_89 : decode cX9_line 89 = .ok (.aload_n 0, 1) := by decide +kernel
theorem dX9_line_90 : decode cX9_line 90 = .ok (.getfield 275, 3) := by decide +kernel
theorem dX9_line_93 : decode cX9_line 93 = .ok (.iload_n 2, 1) := by decide +kernel
theorem dX9_line_94 : decode cX9_line 94 = .ok (.iastore, 1) := by decide +kernel
theorem dX9_line_95 : decode cX9_line 95 = .ok (.aload_n 0, 1) := by decide +kernel
theorem dX9_line_96 : decode cX9_line 96 = .ok (.getfield 59, 3) := by decide +kernel
theorem dX9_line_99 : decode cX9_line 99 = .ok (.aload_n 0, 1) := by decide +kernel
theorem dX9_line_100 : decode cX9_line 100 = .ok (.getfield 275, 3) := by decide +kernel
theorem dX9_line_103 : decode cX9_line 103 = .ok (.iload_n 3, 1) := by decide +kernel
theorem dX9_line_104 : decode cX9_line 104 = .ok (.iastore, 1) := by decide +kernel
theorem dX9_line_105 : decode cX9_line 105 = .ok (.aload_n 0, 1) := by decide +kernel
theorem dX9_line_106 : decode cX9_line 106 = .ok (.getfield 62, 3) := by decide +kernel
theorem dX9_line_109 : decode cX9_line 109 = .ok (.aload_n 0, 1) := by decide +kernel
theorem dX9_line_110 : decode cX9_line 110 = .ok (.getfield 275, 3) := by decide +kernel
