theorem dL_cell_0 : decode cL_cell 0 = .ok (.iload_n 1, 1) := by decide +kernel
theorem dL_cell_1 : decode cL_cell 1 = .ok (.aload_n 0, 1) := by decide +kernel
theorem dL_cell_2 : decode cL_cell 2 = .ok (.arraylength, 1) := by decide +kernel
theorem dL_cell_3 : decode cL_cell 3 = .ok (.if_icmp .ge 9, 3) := by decide +kernel
theorem dL_cell_6 : decode cL_cell 6 = .ok (.aload_n 0, 1) := by decide +kernel
theorem dL_cell_7 : decode cL_cell 7 = .ok (.iload_n 1, 1) := by decide +kernel
theorem dL_cell_8 : decode cL_cell 8 = .ok (.iaload, 1) := by decide +kernel
theorem dL_cell_9 : decode cL_cell 9 = .ok (.goto 11, 3) := by decide +kernel
theorem dL_cell_12 : decode cL_cell 12 = .ok (.ldc 7, 2) := by decide +kernel
theorem dL_cell_14 : decode cL_cell 14 = .ok (.iload_n 1, 1) := by decide +kernel
theorem dL_cell_15 : decode cL_cell 15 = .ok (.sipush 1459, 3) := by decide +kernel
theorem dL_cell_18 : decode cL_cell 18 = .ok (.iadd, 1) := by decide +kernel
theorem dL_cell_19 : decode cL_cell 19 = .ok (.imul, 1) := by decide +kernel
theorem dL_cell_20 : decode cL_cell 20 = .ok (.ireturn, 1) := by decide +kernel
theorem dL_up_0 : decode cL_up 0 = .ok (.iload_n 0, 1) := by decide +kernel
theorem dL_up_1 : decode cL_up 1 = .ok (.ldc 8, 2) := by decide +kernel
theorem dL_up_3 : decode cL_up 3 = .ok (.iand, 1) := by decide +kernel
theorem dL_up_4 : decode cL_up 4 = .ok (.iload_n 1, 1) := by decide +kernel
theorem dL_up_5 : decode cL_up 5 = .ok (.irem, 1) := by decide +kernel
theorem dL_up_6 : decode cL_up 6 = .ok (.ireturn, 1) := by decide +kernel
theorem dL_isRead_0 : decode cL_isRead 0 = .ok (.aload_n 0, 1) := by decide +kernel
theorem dL_isRead_1 : decode cL_isRead 1 = .ok (.invokevirtual 9, 3) := by decide +kernel
theorem dL_isRead_4 : decode cL_isRead 4 = .ok (.ifCond .lt 7, 3) := by decide +kernel
theorem dL_isRead_7 : decode cL_isRead 7 = .ok (.iconst 1, 1) := by decide +kernel
theorem dL_isRead_8 : decode cL_isRead 8 = .ok (.goto 4, 3) := by decide +kernel
theorem dL_isRead_11 : decode cL_isRead 11 = .ok (.iconst 0, 1) := by decide +kernel
theorem dL_isRead_12 : decode cL_isRead 12 = .ok (.istore 4, 2) := by decide +kernel
theorem dL_isRead_14 : decode cL_isRead 14 = .ok (.aload_n 0, 1) := by decide +kernel
theorem dL_isRead_15 : decode cL_isRead 15 = .ok (.iconst 4, 1) := by decide +kernel
theorem dL_isRead_16 : decode cL_isRead 16 = .ok (.invokevirtual 15, 3) := by decide +kernel
theorem dL_isRead_19 : decode cL_isRead 19 = .ok (.istore 5, 2) := by decide +kernel
theorem dL_isRead_21 : decode cL_isRead 21 = .ok (.iconst 1, 1) := by decide +kernel
theorem dL_isRead_22 : decode cL_isRead 22 = .ok (.iload_n 2, 1) := by decide +kernel
theorem dL_isRead_23 : decode cL_isRead 23 = .ok (.iconst 4, 1) := by decide +kernel
theorem dL_isRead_24 : decode cL_isRead 24 = .ok (.invokestatic 19, 3) := by decide +kernel
theorem dL_isRead_27 : decode cL_isRead 27 = .ok (.iadd, 1) := by decide +kernel
theorem dL_isRead_28 : decode cL_isRead 28 = .ok (.istore 6, 2) := by decide +kernel
theorem dL_isRead_30 : decode cL_isRead 30 = .ok (.iload 5, 2) := by decide +kernel
theorem dL_isRead_32 : decode cL_isRead 32 = .ok (.iload 6, 2) := by decide +kernel
theorem dL_isRead_34 : decode cL_isRead 34 = .ok (.iadd, 1) := by decide +kernel
theorem dL_isRead_35 : decode cL_isRead 35 = .ok (.bipush 24, 2) := by decide +kernel
theorem dL_isRead_37 : decode cL_isRead 37 = .ok (.if_icmp .le 25, 3) := by decide +kernel
theorem dL_isRead_40 : decode cL_isRead 40 = .ok (.iload 4, 2) := by decide +kernel
theorem dL_isRead_42 : decode cL_isRead 42 = .ok (.ifCond .eq 18, 3) := by decide +kernel
theorem dL_isRead_45 : decode cL_isRead 45 = .ok (.aload_n 0, 1) := by decide +kernel
theorem dL_isRead_46 : decode cL_isRead 46 = .ok (.ldc2_w 25, 3) := by decide +kernel
theorem dL_isRead_49 : decode cL_isRead 49 = .ok (.invokevirtual 27, 3) := by decide +kernel
theorem dL_isRead_52 : decode cL_isRead 52 = .ok (.iconst 1, 1) := by decide +kernel
theorem dL_isRead_53 : decode cL_isRead 53 = .ok (.if_icmp .ne 7, 3) := by decide +kernel
theorem dL_isRead_56 : decode cL_isRead 56 = .ok (.iconst 1, 1) := by decide +kernel
theorem dL_isRead_57 : decode cL_isRead 57 = .ok (.goto 4, 3) := by decide +kernel
theorem dL_isRead_60 : decode cL_isRead 60 = .ok (.iconst 0, 1) := by decide +kernel
theorem dL_isRead_61 : decode cL_isRead 61 = .ok (.ireturn, 1) := by decide +kernel
theorem dL_isRead_62 : decode cL_isRead 62 = .ok (.iconst 0, 1) := by decide +kernel
theorem dL_isRead_63 : decode cL_isRead 63 = .ok (.istore 7, 2) := by decide +kernel
theorem dL_isRead_65 : decode cL_isRead 65 = .ok (.iload 7, 2) := by decide +kernel
theorem dL_isRead_67 : decode cL_isRead 67 = .ok (.iload 6, 2) := by decide +kernel
theorem dL_isRead_69 : decode cL_isRead 69 = .ok (.if_icmp .ge 248, 3) := by decide +kernel
theorem dL_isRead_72 : decode cL_isRead 72 = .ok (.iload_n 2, 1) := by decide +kernel
theorem dL_isRead_73 : decode cL_isRead 73 = .ok (.iconst 2, 1) := by decide +kernel
theorem dL_isRead_74 : decode cL_isRead 74 = .ok (.iload 7, 2) := by decide +kernel
theorem dL_isRead_76 : decode cL_isRead 76 = .ok (.imul, 1) := by decide +kernel
theorem dL_isRead_77 : decode cL_isRead 77 = .ok (.ishr, 1) := by decide +kernel
theorem dL_isRead_78 : decode cL_isRead 78 = .ok (.iload_n 3, 1) := by decide +kernel
theorem dL_isRead_79 : decode cL_isRead 79 = .ok (.iconst 3, 1) := by decide +kernel
theorem dL_isRead_80 : decode cL_isRead 80 = .ok (.iload 7, 2) := by decide +kernel
theorem dL_isRead_82 : decode cL_isRead 82 = .ok (.imul, 1) := by decide +kernel
theorem dL_isRead_83 : decode cL_isRead 83 = .ok (.ishr, 1) := by decide +kernel
theorem dL_isRead_84 : decode cL_isRead 84 = .ok (.ixor, 1) := by decide +kernel
theorem dL_isRead_85 : decode cL_isRead 85 = .ok (.istore 8, 2) := by decide +kernel
theorem dL_isRead_87 : decode cL_isRead 87 = .ok (.iconst 1, 1) := by decide +kernel
theorem dL_isRead_88 : decode cL_isRead 88 = .ok (.iload 8, 2) := by decide +kernel
theorem dL_isRead_90 : decode cL_isRead 90 = .ok (.iload 8, 2) := by decide +kernel
theorem dL_isRead_92 : decode cL_isRead 92 = .ok (.bipush 9, 2) := by decide +kernel
theorem dL_isRead_94 : decode cL_isRead 94 = .ok (.ishr, 1) := by decide +kernel
theorem dL_isRead_95 : decode cL_isRead 95 = .ok (.iconst 5, 1) := by decide +kernel
theorem dL_isRead_96 : decode cL_isRead 96 = .ok (.invokestatic 19, 3) := by decide +kernel
theorem dL_isRead_99 : decode cL_isRead 99 = .ok (.ifCond .ne 8, 3) := by decide +kernel
theorem dL_isRead_102 : decode cL_isRead 102 = .ok (.bipush 8, 2) := by decide +kernel
theorem dL_isRead_104 : decode cL_isRead 104 = .ok (.goto 4, 3) := by decide +kernel
theorem dL_isRead_107 : decode cL_isRead 107 = .ok (.iconst 4, 1) := by decide +kernel
theorem dL_isRead_108 : decode cL_isRead 108 = .ok (.invokestatic 19, 3) := by decide +kernel
theorem dL_isRead_111 : decode cL_isRead 111 = .ok (.iadd, 1) := by decide +kernel
theorem dL_isRead_112 : decode cL_isRead 112 = .ok (.istore 9, 2) := by decide +kernel
theorem dL_isRead_114 : decode cL_isRead 114 = .ok (.iconst (-1), 1) := by decide +kernel
theorem dL_isRead_115 : decode cL_isRead 115 = .ok (.istore 10, 2) := by decide +kernel
theorem dL_isRead_117 : decode cL_isRead 117 = .ok (.iload 4, 2) := by decide +kernel
theorem dL_isRead_119 : decode cL_isRead 119 = .ok (.ifCond .eq 29, 3) := by decide +kernel
theorem dL_isRead_122 : decode cL_isRead 122 = .ok (.iload 7, 2) := by decide +kernel
theorem dL_isRead_124 : decode cL_isRead 124 = .ok (.ifCond .eq 13, 3) := by decide +kernel
theorem dL_isRead_127 : decode cL_isRead 127 = .ok (.aload_n 0, 1) := by decide +kernel
theorem dL_isRead_128 : decode cL_isRead 128 = .ok (.ldc2_w 31, 3) := by decide +kernel
theorem dL_isRead_131 : decode cL_isRead 131 = .ok (.invokevirtual 27, 3) := by decide +kernel
theorem dL_isRead_134 : decode cL_isRead 134 = .ok (.ifCond .le 14, 3) := by decide +kernel
theorem dL_isRead_137 : decode cL_isRead 137 = .ok (.aload_n 1, 1) := by decide +kernel
theorem dL_isRead_138 : decode cL_isRead 138 = .ok (.invokevirtual 9, 3) := by decide +kernel
theorem dL_isRead_141 : decode cL_isRead 141 = .ok (.ifCond .lt 7, 3) := by decide +kernel
theorem dL_isRead_144 : decode cL_isRead 144 = .ok (.iconst 1, 1) := by decide +kernel
theorem dL_isRead_145 : decode cL_isRead 145 = .ok (.goto 4, 3) := by decide +kernel
theorem dL_isRead_148 : decode cL_isRead 148 = .ok (.iconst 0, 1) := by decide +kernel
theorem dL_isRead_149 : decode cL_isRead 149 = .ok (.istore 4, 2) := by decide +kernel
theorem dL_isRead_151 : decode cL_isRead 151 = .ok (.iconst 0, 1) := by decide +kernel
theorem dL_isRead_152 : decode cL_isRead 152 = .ok (.istore 11, 2) := by decide +kernel
theorem dL_isRead_154 : decode cL_isRead 154 = .ok (.iload 11, 2) := by decide +kernel
theorem dL_isRead_156 : decode cL_isRead 156 = .ok (.iload 9, 2) := by decide +kernel
theorem dL_isRead_158 : decode cL_isRead 158 = .ok (.if_icmp .ge 99, 3) := by decide +kernel
theorem dL_isRead_161 : decode cL_isRead 161 = .ok (.iload 8, 2) := by decide +kernel
theorem dL_isRead_163 : decode cL_isRead 163 = .ok (.iload 11, 2) := by decide +kernel
theorem dL_isRead_165 : decode cL_isRead 165 = .ok (.ishr, 1) := by decide +kernel
theorem dL_isRead_166 : decode cL_isRead 166 = .ok (.iload 10, 2) := by decide +kernel
theorem dL_isRead_168 : decode cL_isRead 168 = .ok (.ifCond .ge 8, 3) := by decide +kernel
theorem dL_isRead_171 : decode cL_isRead 171 = .ok (.bipush 6, 2) := by decide +kernel
theorem dL_isRead_173 : decode cL_isRead 173 = .ok (.goto 4, 3) := by decide +kernel
theorem dL_isRead_176 : decode cL_isRead 176 = .ok (.iconst 5, 1) := by decide +kernel
theorem dL_isRead_177 : decode cL_isRead 177 = .ok (.invokestatic 19, 3) := by decide +kernel
theorem dL_isRead_180 : decode cL_isRead 180 = .ok (.istore 12, 2) := by decide +kernel
theorem dL_isRead_182 : decode cL_isRead 182 = .ok (.iload 10, 2) := by decide +kernel
theorem dL_isRead_184 : decode cL_isRead 184 = .ok (.ifCond .lt 17, 3) := by decide +kernel
theorem dL_isRead_187 : decode cL_isRead 187 = .ok (.iload 12, 2) := by decide +kernel
theorem dL_isRead_189 : decode cL_isRead 189 = .ok (.iload 10, 2) := by decide +kernel
theorem dL_isRead_191 : decode cL_isRead 191 = .ok (.if_icmp .lt 10, 3) := by decide +kernel
theorem dL_isRead_194 : decode cL_isRead 194 = .ok (.iload 12, 2) := by decide +kernel
theorem dL_isRead_196 : decode cL_isRead 196 = .ok (.iconst 1, 1) := by decide +kernel
theorem dL_isRead_197 : decode cL_isRead 197 = .ok (.iadd, 1) := by decide +kernel
theorem dL_isRead_198 : decode cL_isRead 198 = .ok (.goto 5, 3) := by decide +kernel
theorem dL_isRead_201 : decode cL_isRead 201 = .ok (.iload 12, 2) := by decide +kernel
theorem dL_isRead_203 : decode cL_isRead 203 = .ok (.istore 12, 2) := by decide +kernel
theorem dL_isRead_205 : decode cL_isRead 205 = .ok (.iload 12, 2) := by decide +kernel
theorem dL_isRead_207 : decode cL_isRead 207 = .ok (.istore 10, 2) := by decide +kernel
theorem dL_isRead_209 : decode cL_isRead 209 = .ok (.iload 4, 2) := by decide +kernel
theorem dL_isRead_211 : decode cL_isRead 211 = .ok (.ifCond .eq 37, 3) := by decide +kernel
theorem dL_isRead_214 : decode cL_isRead 214 = .ok (.aload_n 0, 1) := by decide +kernel
theorem dL_isRead_215 : decode cL_isRead 215 = .ok (.bipush 48, 2) := by decide +kernel
theorem dL_isRead_217 : decode cL_isRead 217 = .ok (.iload 12, 2) := by decide +kernel
theorem dL_isRead_219 : decode cL_isRead 219 = .ok (.iadd, 1) := by decide +kernel
theorem dL_isRead_220 : decode cL_isRead 220 = .ok (.i2l, 1) := by decide +kernel
theorem dL_isRead_221 : decode cL_isRead 221 = .ok (.invokevirtual 27, 3) := by decide +kernel
theorem dL_isRead_224 : decode cL_isRead 224 = .ok (.ifCond .le 24, 3) := by decide +kernel
theorem dL_isRead_227 : decode cL_isRead 227 = .ok (.aload_n 1, 1) := by decide +kernel
theorem dL_isRead_228 : decode cL_isRead 228 = .ok (.bipush 48, 2) := by decide +kernel
theorem dL_isRead_230 : decode cL_isRead 230 = .ok (.iload 12, 2) := by decide +kernel
theorem dL_isRead_232 : decode cL_isRead 232 = .ok (.iadd, 1) := by decide +kernel
theorem dL_isRead_233 : decode cL_isRead 233 = .ok (.i2l, 1) := by decide +kernel
theorem dL_isRead_234 : decode cL_isRead 234 = .ok (.invokevirtual 27, 3) := by decide +kernel
theorem dL_isRead_237 : decode cL_isRead 237 = .ok (.iload 11, 2) := by decide +kernel
theorem dL_isRead_239 : decode cL_isRead 239 = .ok (.iconst 1, 1) := by decide +kernel
theorem dL_isRead_240 : decode cL_isRead 240 = .ok (.iadd, 1) := by decide +kernel
theorem dL_isRead_241 : decode cL_isRead 241 = .ok (.if_icmp .ne 7, 3) := by decide +kernel
theorem dL_isRead_244 : decode cL_isRead 244 = .ok (.iconst 1, 1) := by decide +kernel
theorem dL_isRead_245 : decode cL_isRead 245 = .ok (.goto 4, 3) := by decide +kernel
theorem dL_isRead_248 : decode cL_isRead 248 = .ok (.iconst 0, 1) := by decide +kernel
theorem dL_isRead_249 : decode cL_isRead 249 = .ok (.istore 4, 2) := by decide +kernel
theorem dL_isRead_251 : decode cL_isRead 251 = .ok (.iinc 11 1, 3) := by decide +kernel
theorem dL_isRead_254 : decode cL_isRead 254 = .ok (.goto (-100), 3) := by decide +kernel
theorem dL_isRead_257 : decode cL_isRead 257 = .ok (.iload 4, 2) := by decide +kernel
theorem dL_isRead_259 : decode cL_isRead 259 = .ok (.ifCond .eq 49, 3) := by decide +kernel
theorem dL_isRead_262 : decode cL_isRead 262 = .ok (.aload_n 1, 1) := by decide +kernel
theorem dL_isRead_263 : decode cL_isRead 263 = .ok (.invokevirtual 33, 3) := by decide +kernel
theorem dL_isRead_266 : decode cL_isRead 266 = .ok (.iload 5, 2) := by decide +kernel
theorem dL_isRead_268 : decode cL_isRead 268 = .ok (.iload 7, 2) := by decide +kernel
theorem dL_isRead_270 : decode cL_isRead 270 = .ok (.iadd, 1) := by decide +kernel
theorem dL_isRead_271 : decode cL_isRead 271 = .ok (.iconst 1, 1) := by decide +kernel
theorem dL_isRead_272 : decode cL_isRead 272 = .ok (.iadd, 1) := by decide +kernel
theorem dL_isRead_273 : decode cL_isRead 273 = .ok (.if_icmp .ne 35, 3) := by decide +kernel
theorem dL_isRead_276 : decode cL_isRead 276 = .ok (.aload_n 1, 1) := by decide +kernel
theorem dL_isRead_277 : decode cL_isRead 277 = .ok (.iload 5, 2) := by decide +kernel
theorem dL_isRead_279 : decode cL_isRead 279 = .ok (.iload 7, 2) := by decide +kernel
theorem dL_isRead_281 : decode cL_isRead 281 = .ok (.iadd, 1) := by decide +kernel
theorem dL_isRead_282 : decode cL_isRead 282 = .ok (.iconst 5, 1) := by decide +kernel
theorem dL_isRead_283 : decode cL_isRead 283 = .ok (.invokevirtual 36, 3) := by decide +kernel
theorem dL_isRead_286 : decode cL_isRead 286 = .ok (.iload 9, 2) := by decide +kernel
theorem dL_isRead_288 : decode cL_isRead 288 = .ok (.if_icmp .ne 20, 3) := by decide +kernel
theorem dL_isRead_291 : decode cL_isRead 291 = .ok (.aload_n 1, 1) := by decide +kernel
theorem dL_isRead_292 : decode cL_isRead 292 = .ok (.iload 5, 2) := by decide +kernel
theorem dL_isRead_294 : decode cL_isRead 294 = .ok (.iload 7, 2) := by decide +kernel
theorem dL_isRead_296 : decode cL_isRead 296 = .ok (.iadd, 1) := by decide +kernel
theorem dL_isRead_297 : decode cL_isRead 297 = .ok (.iconst 0, 1) := by decide +kernel
theorem dL_isRead_298 : decode cL_isRead 298 = .ok (.invokevirtual 36, 3) := by decide +kernel
theorem dL_isRead_301 : decode cL_isRead 301 = .ok (.ifCond .ne 7, 3) := by decide +kernel
theorem dL_isRead_304 : decode cL_isRead 304 = .ok (.iconst 1, 1) := by decide +kernel
theorem dL_isRead_305 : decode cL_isRead 305 = .ok (.goto 4, 3) := by decide +kernel
theorem dL_isRead_308 : decode cL_isRead 308 = .ok (.iconst 0, 1) := by decide +kernel
theorem dL_isRead_309 : decode cL_isRead 309 = .ok (.istore 4, 2) := by decide +kernel
theorem dL_isRead_311 : decode cL_isRead 311 = .ok (.iinc 7 1, 3) := by decide +kernel
theorem dL_isRead_314 : decode cL_isRead 314 = .ok (.goto (-249), 3) := by decide +kernel
theorem dL_isRead_317 : decode cL_isRead 317 = .ok (.iload 4, 2) := by decide +kernel
theorem dL_isRead_319 : decode cL_isRead 319 = .ok (.ifCond .eq 32, 3) := by decide +kernel
theorem dL_isRead_322 : decode cL_isRead 322 = .ok (.aload_n 0, 1) := by decide +kernel
theorem dL_isRead_323 : decode cL_isRead 323 = .ok (.invokevirtual 33, 3) := by decide +kernel
theorem dL_isRead_326 : decode cL_isRead 326 = .ok (.iload 5, 2) := by decide +kernel
theorem dL_isRead_328 : decode cL_isRead 328 = .ok (.iload 6, 2) := by decide +kernel
theorem dL_isRead_330 : decode cL_isRead 330 = .ok (.iadd, 1) := by decide +kernel
theorem dL_isRead_331 : decode cL_isRead 331 = .ok (.if_icmp .ne 20, 3) := by decide +kernel
theorem dL_isRead_334 : decode cL_isRead 334 = .ok (.aload_n 0, 1) := by decide +kernel
theorem dL_isRead_335 : decode cL_isRead 335 = .ok (.iconst 4, 1) := by decide +kernel
theorem dL_isRead_336 : decode cL_isRead 336 = .ok (.invokevirtual 15, 3) := by decide +kernel
theorem dL_isRead_339 : decode cL_isRead 339 = .ok (.iload 5, 2) := by decide +kernel
theorem dL_isRead_341 : decode cL_isRead 341 = .ok (.iload 6, 2) := by decide +kernel
theorem dL_isRead_343 : decode cL_isRead 343 = .ok (.iadd, 1) := by decide +kernel
theorem dL_isRead_344 : decode cL_isRead 344 = .ok (.if_icmp .ne 7, 3) := by decide +kernel
theorem dL_isRead_347 : decode cL_isRead 347 = .ok (.iconst 1, 1) := by decide +kernel
theorem dL_isRead_348 : decode cL_isRead 348 = .ok (.goto 4, 3) := by decide +kernel
theorem dL_isRead_351 : decode cL_isRead 351 = .ok (.iconst 0, 1) := by decide +kernel
theorem dL_isRead_352 : decode cL_isRead 352 = .ok (.ireturn, 1) := by decide +kernel
theorem ggL_isRead_X6_wipe : GoodIn wsL_isRead wsX6_wipe := goodIn_r _ [7, 8, 9, 10, 11, 12, 13, 14, 15, 16, 17, 18, 230, 231, 232, 233, 234, 235, 236, 237] (by decide +kernel) (by decide +kernel)
theorem gL_isRead_X6_wipe : GoodIn wsL_isRead (wsV RL 9 RX6 yX6_wipe wsX6_wipe) := goodIn_app (goodIn_of _ (by decide +kernel)) ggL_isRead_X6_wipe
theorem ggL_isRead_X6_count : GoodIn wsL_isRead wsX6_count := goodIn_r _ [22, 23, 24, 25, 26, 27, 28, 8, 29, 30, 31, 32, 33, 34, 35, 36, 37, 38, 39, 40, 41, 42, 43, 44, 45, 46, 47, 48, 49, 50, 51, 52, 53, 54, 55, 56, 57, 9, 10, 11, 12, 13, 14, 58, 59, 60, 61, 62, 63, 230, 231, 232, 233, 234, 235, 238, 239, 240, 241, 242, 243, 244, 245, 246, 247, 248, 249, 250, 251, 252, 253, 254, 255, 256, 257, 258, 259, 260, 261, 262, 263, 236, 237, 264, 265, 266] (by decide +kernel) (by decide +kernel)
theorem gL_isRead_X6_count : GoodIn wsL_isRead (wsV RL 15 RX6 yX6_count wsX6_count) := goodIn_app (goodIn_of _ (by decide +kernel)) ggL_isRead_X6_count
theorem ggL_isRead_L_up : GoodIn wsL_isRead wsL_up := goodIn_r _ [67, 68] (by decide +kernel) (by decide +kernel)
theorem gL_isRead_L_up : GoodIn wsL_isRead (va_wsS RL 19 yL_up wsL_up) := goodIn_app (goodIn_of _ (by decide +kernel)) ggL_isRead_L_up
theorem ggL_isRead_X6_put : GoodIn wsL_isRead wsX6_put := goodIn_r _ [72, 8, 73, 74, 12, 75, 76, 77, 78, 9, 10, 11, 13, 14, 79, 80, 81, 82, 83, 230, 231, 232, 233, 234, 235, 236, 237] (by decide +kernel) (by decide +kernel)
theorem gL_isRead_X6_put : GoodIn wsL_isRead (wsV RL 27 RX6 yX6_put wsX6_put) := goodIn_app (goodIn_of _ (by decide +kernel)) ggL_isRead_X6_put
theorem ggL_isRead_X6_read : GoodIn wsL_isRead wsX6_read := goodIn_r _ [87, 8, 23, 26, 29, 88, 89, 90, 12, 91, 14, 83, 92, 93, 94, 95, 96, 97, 98, 99, 100, 101, 102, 103, 104, 105, 61, 106, 107, 108, 63, 109, 110, 111, 112, 113, 114, 115, 33, 116, 117, 118, 119, 120, 121, 41, 35, 122, 123, 124, 125, 126, 127, 128, 129, 130, 131, 132, 133, 134, 135, 136, 137, 138, 139, 140, 141, 142, 143, 144, 145, 146, 147, 148, 149, 150, 151, 152, 153, 154, 155, 156, 157, 158, 159, 160, 161, 162, 163, 164, 165, 166, 167, 168, 169, 170, 171, 172, 173, 174, 175, 176, 177, 178, 179, 180, 181, 182, 183, 184, 185, 186, 187, 188, 189, 190, 36, 191, 192, 193, 194, 195, 196, 197, 198, 199, 200, 201, 202, 203, 204, 205, 15, 16, 17, 18, 230, 231, 232, 233, 234, 235, 238, 239, 240, 241, 242, 243, 244, 236, 237, 264, 265, 266, 257, 258, 259, 260, 261, 262, 263, 267, 268, 245, 246, 247, 248, 249, 250, 251, 252, 253, 254, 255, 256] (by decide +kernel) (by decide +kernel)
theorem gL_isRead_X6_read : GoodIn wsL_isRead (wsV RL 33 RX6 yX6_read wsX6_read) := goodIn_app (goodIn_of _ (by decide +kernel)) ggL_isRead_X6_read
theorem ggL_isRead_X6_person : GoodIn wsL_isRead wsX6_person := goodIn_r _ [209, 23, 210, 211, 212, 213, 214, 215, 216, 217, 218, 219, 33, 220, 122, 35, 221, 195, 196, 149, 197, 154, 155, 153, 151, 222, 223, 224, 225, 192, 193, 194, 198, 199, 200, 201, 41, 226, 227, 228, 141, 229, 145, 143, 230, 231, 232, 233, 234, 235, 245, 246, 247, 248, 249, 250, 251, 252, 253, 254, 255, 256, 238, 239, 240, 241, 242, 243, 244, 257, 258, 259, 260, 261, 262, 263, 267, 268] (by decide +kernel) (by decide +kernel)
theorem gL_isRead_X6_person : GoodIn wsL_isRead (wsV RL 36 RX6 yX6_person wsX6_person) := goodIn_app (goodIn_of _ (by decide +kernel)) ggL_isRead_X6_person
