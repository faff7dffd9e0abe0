theorem dL_isWell_0 : decode cL_isWell 0 = .ok (.iconst 0, 1) := by decide +kernel
theorem dL_isWell_1 : decode cL_isWell 1 = .ok (.istore_n 1, 1) := by decide +kernel
theorem dL_isWell_2 : decode cL_isWell 2 = .ok (.iconst 0, 1) := by decide +kernel
theorem dL_isWell_3 : decode cL_isWell 3 = .ok (.istore_n 2, 1) := by decide +kernel
theorem dL_isWell_4 : decode cL_isWell 4 = .ok (.iconst 0, 1) := by decide +kernel
theorem dL_isWell_5 : decode cL_isWell 5 = .ok (.istore_n 3, 1) := by decide +kernel
theorem dL_isWell_6 : decode cL_isWell 6 = .ok (.iconst 0, 1) := by decide +kernel
theorem dL_isWell_7 : decode cL_isWell 7 = .ok (.istore 4, 2) := by decide +kernel
theorem dL_isWell_9 : decode cL_isWell 9 = .ok (.iconst 0, 1) := by decide +kernel
theorem dL_isWell_10 : decode cL_isWell 10 = .ok (.istore 5, 2) := by decide +kernel
theorem dL_isWell_12 : decode cL_isWell 12 = .ok (.iconst 0, 1) := by decide +kernel
theorem dL_isWell_13 : decode cL_isWell 13 = .ok (.istore 6, 2) := by decide +kernel
theorem dL_isWell_15 : decode cL_isWell 15 = .ok (.iconst 0, 1) := by decide +kernel
theorem dL_isWell_16 : decode cL_isWell 16 = .ok (.istore 7, 2) := by decide +kernel
theorem dL_isWell_18 : decode cL_isWell 18 = .ok (.iconst 4, 1) := by decide +kernel
theorem dL_isWell_19 : decode cL_isWell 19 = .ok (.newarray .int, 2) := by decide +kernel
theorem dL_isWell_21 : decode cL_isWell 21 = .ok (.astore 8, 2) := by decide +kernel
theorem dL_isWell_23 : decode cL_isWell 23 = .ok (.iconst 1, 1) := by decide +kernel
theorem dL_isWell_24 : decode cL_isWell 24 = .ok (.istore 9, 2) := by decide +kernel
theorem dL_isWell_26 : decode cL_isWell 26 = .ok (.iconst 0, 1) := by decide +kernel
theorem dL_isWell_27 : decode cL_isWell 27 = .ok (.istore 10, 2) := by decide +kernel
theorem dL_isWell_29 : decode cL_isWell 29 = .ok (.iload 10, 2) := by decide +kernel
theorem dL_isWell_31 : decode cL_isWell 31 = .ok (.aload_n 0, 1) := by decide +kernel
theorem dL_isWell_32 : decode cL_isWell 32 = .ok (.iconst 4, 1) := by decide +kernel
theorem dL_isWell_33 : decode cL_isWell 33 = .ok (.invokevirtual 15, 3) := by decide +kernel
theorem dL_isWell_36 : decode cL_isWell 36 = .ok (.if_icmp .ge 254, 3) := by decide +kernel
theorem dL_isWell_39 : decode cL_isWell 39 = .ok (.aload_n 0, 1) := by decide +kernel
theorem dL_isWell_40 : decode cL_isWell 40 = .ok (.iload 10, 2) := by decide +kernel
theorem dL_isWell_42 : decode cL_isWell 42 = .ok (.iconst 0, 1) := by decide +kernel
theorem dL_isWell_43 : decode cL_isWell 43 = .ok (.invokevirtual 36, 3) := by decide +kernel
theorem dL_isWell_46 : decode cL_isWell 46 = .ok (.istore 11, 2) := by decide +kernel
theorem dL_isWell_48 : decode cL_isWell 48 = .ok (.aload 8, 2) := by decide +kernel
theorem dL_isWell_50 : decode cL_isWell 50 = .ok (.iload 11, 2) := by decide +kernel
theorem dL_isWell_52 : decode cL_isWell 52 = .ok (.dup2, 1) := by decide +kernel
theorem dL_isWell_53 : decode cL_isWell 53 = .ok (.iaload, 1) := by decide +kernel
theorem dL_isWell_54 : decode cL_isWell 54 = .ok (.iconst 1, 1) := by decide +kernel
theorem dL_isWell_55 : decode cL_isWell 55 = .ok (.iadd, 1) := by decide +kernel
theorem dL_isWell_56 : decode cL_isWell 56 = .ok (.iastore, 1) := by decide +kernel
theorem dL_isWell_57 : decode cL_isWell 57 = .ok (.iload_n 1, 1) := by decide +kernel
theorem dL_isWell_58 : decode cL_isWell 58 = .ok (.aload_n 0, 1) := by decide +kernel
theorem dL_isWell_59 : decode cL_isWell 59 = .ok (.iload 10, 2) := by decide +kernel
theorem dL_isWell_61 : decode cL_isWell 61 = .ok (.iconst 3, 1) := by decide +kernel
theorem dL_isWell_62 : decode cL_isWell 62 = .ok (.invokevirtual 36, 3) := by decide +kernel
theorem dL_isWell_65 : decode cL_isWell 65 = .ok (.iadd, 1) := by decide +kernel
theorem dL_isWell_66 : decode cL_isWell 66 = .ok (.istore_n 1, 1) := by decide +kernel
theorem dL_isWell_67 : decode cL_isWell 67 = .ok (.iload_n 3, 1) := by decide +kernel
theorem dL_isWell_68 : decode cL_isWell 68 = .ok (.aload_n 0, 1) := by decide +kernel
theorem dL_isWell_69 : decode cL_isWell 69 = .ok (.iload 10, 2) := by decide +kernel
theorem dL_isWell_71 : decode cL_isWell 71 = .ok (.bipush 6, 2) := by decide +kernel
theorem dL_isWell_73 : decode cL_isWell 73 = .ok (.invokevirtual 36, 3) := by decide +kernel
theorem dL_isWell_76 : decode cL_isWell 76 = .ok (.iadd, 1) := by decide +kernel
theorem dL_isWell_77 : decode cL_isWell 77 = .ok (.istore_n 3, 1) := by decide +kernel
theorem dL_isWell_78 : decode cL_isWell 78 = .ok (.iload 4, 2) := by decide +kernel
theorem dL_isWell_80 : decode cL_isWell 80 = .ok (.aload_n 0, 1) := by decide +kernel
theorem dL_isWell_81 : decode cL_isWell 81 = .ok (.iload 10, 2) := by decide +kernel
theorem dL_isWell_83 : decode cL_isWell 83 = .ok (.bipush 7, 2) := by decide +kernel
theorem dL_isWell_85 : decode cL_isWell 85 = .ok (.invokevirtual 36, 3) := by decide +kernel
theorem dL_isWell_88 : decode cL_isWell 88 = .ok (.iadd, 1) := by decide +kernel
theorem dL_isWell_89 : decode cL_isWell 89 = .ok (.istore 4, 2) := by decide +kernel
theorem dL_isWell_91 : decode cL_isWell 91 = .ok (.iload 7, 2) := by decide +kernel
theorem dL_isWell_93 : decode cL_isWell 93 = .ok (.aload_n 0, 1) := by decide +kernel
theorem dL_isWell_94 : decode cL_isWell 94 = .ok (.iload 10, 2) := by decide +kernel
theorem dL_isWell_96 : decode cL_isWell 96 = .ok (.iconst 4, 1) := by decide +kernel
theorem dL_isWell_97 : decode cL_isWell 97 = .ok (.invokevirtual 36, 3) := by decide +kernel
theorem dL_isWell_100 : decode cL_isWell 100 = .ok (.iadd, 1) := by decide +kernel
theorem dL_isWell_101 : decode cL_isWell 101 = .ok (.istore 7, 2) := by decide +kernel
theorem dL_isWell_103 : decode cL_isWell 103 = .ok (.iload 9, 2) := by decide +kernel
theorem dL_isWell_105 : decode cL_isWell 105 = .ok (.ifCond .eq 176, 3) := by decide +kernel
theorem dL_isWell_108 : decode cL_isWell 108 = .ok (.iload 11, 2) := by decide +kernel
theorem dL_isWell_110 : decode cL_isWell 110 = .ok (.iconst 2, 1) := by decide +kernel
theorem dL_isWell_111 : decode cL_isWell 111 = .ok (.if_icmp .ge 46, 3) := by decide +kernel
theorem dL_isWell_114 : decode cL_isWell 114 = .ok (.aload_n 0, 1) := by decide +kernel
theorem dL_isWell_115 : decode cL_isWell 115 = .ok (.iload 10, 2) := by decide +kernel
theorem dL_isWell_117 : decode cL_isWell 117 = .ok (.iconst 4, 1) := by decide +kernel
theorem dL_isWell_118 : decode cL_isWell 118 = .ok (.invokevirtual 36, 3) := by decide +kernel
theorem dL_isWell_121 : decode cL_isWell 121 = .ok (.aload_n 0, 1) := by decide +kernel
theorem dL_isWell_122 : decode cL_isWell 122 = .ok (.iload 10, 2) := by decide +kernel
theorem dL_isWell_124 : decode cL_isWell 124 = .ok (.iconst 5, 1) := by decide +kernel
theorem dL_isWell_125 : decode cL_isWell 125 = .ok (.invokevirtual 36, 3) := by decide +kernel
theorem dL_isWell_128 : decode cL_isWell 128 = .ok (.if_icmp .ge 153, 3) := by decide +kernel
theorem dL_isWell_131 : decode cL_isWell 131 = .ok (.aload_n 0, 1) := by decide +kernel
theorem dL_isWell_132 : decode cL_isWell 132 = .ok (.iload 10, 2) := by decide +kernel
theorem dL_isWell_134 : decode cL_isWell 134 = .ok (.iconst 1, 1) := by decide +kernel
theorem dL_isWell_135 : decode cL_isWell 135 = .ok (.invokevirtual 36, 3) := by decide +kernel
theorem dL_isWell_138 : decode cL_isWell 138 = .ok (.ifCond .lt 143, 3) := by decide +kernel
theorem dL_isWell_141 : decode cL_isWell 141 = .ok (.aload_n 0, 1) := by decide +kernel
theorem dL_isWell_142 : decode cL_isWell 142 = .ok (.iload 10, 2) := by decide +kernel
theorem dL_isWell_144 : decode cL_isWell 144 = .ok (.bipush 8, 2) := by decide +kernel
theorem dL_isWell_146 : decode cL_isWell 146 = .ok (.invokevirtual 36, 3) := by decide +kernel
theorem dL_isWell_149 : decode cL_isWell 149 = .ok (.bipush (-6), 2) := by decide +kernel
theorem dL_isWell_151 : decode cL_isWell 151 = .ok (.if_icmp .ne 130, 3) := by decide +kernel
theorem dL_isWell_154 : decode cL_isWell 154 = .ok (.goto 52, 3) := by decide +kernel
theorem dL_isWell_157 : decode cL_isWell 157 = .ok (.aload_n 0, 1) := by decide +kernel
theorem dL_isWell_158 : decode cL_isWell 158 = .ok (.iload 10, 2) := by decide +kernel
theorem dL_isWell_160 : decode cL_isWell 160 = .ok (.iconst 1, 1) := by decide +kernel
theorem dL_isWell_161 : decode cL_isWell 161 = .ok (.invokevirtual 36, 3) := by decide +kernel
theorem dL_isWell_164 : decode cL_isWell 164 = .ok (.bipush (-6), 2) := by decide +kernel
theorem dL_isWell_166 : decode cL_isWell 166 = .ok (.if_icmp .ne 115, 3) := by decide +kernel
theorem dL_isWell_169 : decode cL_isWell 169 = .ok (.aload_n 0, 1) := by decide +kernel
theorem dL_isWell_170 : decode cL_isWell 170 = .ok (.iload 10, 2) := by decide +kernel
theorem dL_isWell_172 : decode cL_isWell 172 = .ok (.iconst 3, 1) := by decide +kernel
theorem dL_isWell_173 : decode cL_isWell 173 = .ok (.invokevirtual 36, 3) := by decide +kernel
theorem dL_isWell_176 : decode cL_isWell 176 = .ok (.ifCond .ne 105, 3) := by decide +kernel
theorem dL_isWell_179 : decode cL_isWell 179 = .ok (.aload_n 0, 1) := by decide +kernel
theorem dL_isWell_180 : decode cL_isWell 180 = .ok (.iload 10, 2) := by decide +kernel
theorem dL_isWell_182 : decode cL_isWell 182 = .ok (.bipush 8, 2) := by decide +kernel
theorem dL_isWell_184 : decode cL_isWell 184 = .ok (.invokevirtual 36, 3) := by decide +kernel
theorem dL_isWell_187 : decode cL_isWell 187 = .ok (.ifCond .lt 94, 3) := by decide +kernel
theorem dL_isWell_190 : decode cL_isWell 190 = .ok (.aload_n 0, 1) := by decide +kernel
theorem dL_isWell_191 : decode cL_isWell 191 = .ok (.iload 10, 2) := by decide +kernel
theorem dL_isWell_193 : decode cL_isWell 193 = .ok (.bipush 8, 2) := by decide +kernel
theorem dL_isWell_195 : decode cL_isWell 195 = .ok (.invokevirtual 36, 3) := by decide +kernel
theorem dL_isWell_198 : decode cL_isWell 198 = .ok (.aload_n 0, 1) := by decide +kernel
theorem dL_isWell_199 : decode cL_isWell 199 = .ok (.iconst 3, 1) := by decide +kernel
theorem dL_isWell_200 : decode cL_isWell 200 = .ok (.invokevirtual 15, 3) := by decide +kernel
theorem dL_isWell_203 : decode cL_isWell 203 = .ok (.if_icmp .gt 78, 3) := by decide +kernel
theorem dL_isWell_206 : decode cL_isWell 206 = .ok (.iload 11, 2) := by decide +kernel
theorem dL_isWell_208 : decode cL_isWell 208 = .ok (.iconst 2, 1) := by decide +kernel
theorem dL_isWell_209 : decode cL_isWell 209 = .ok (.if_icmp .ne 20, 3) := by decide +kernel
theorem dL_isWell_212 : decode cL_isWell 212 = .ok (.aload_n 0, 1) := by decide +kernel
theorem dL_isWell_213 : decode cL_isWell 213 = .ok (.iload 10, 2) := by decide +kernel
theorem dL_isWell_215 : decode cL_isWell 215 = .ok (.iconst 4, 1) := by decide +kernel
theorem dL_isWell_216 : decode cL_isWell 216 = .ok (.invokevirtual 36, 3) := by decide +kernel
theorem dL_isWell_219 : decode cL_isWell 219 = .ok (.aload_n 0, 1) := by decide +kernel
theorem dL_isWell_220 : decode cL_isWell 220 = .ok (.iload 10, 2) := by decide +kernel
theorem dL_isWell_222 : decode cL_isWell 222 = .ok (.iconst 5, 1) := by decide +kernel
theorem dL_isWell_223 : decode cL_isWell 223 = .ok (.invokevirtual 36, 3) := by decide +kernel
theorem dL_isWell_226 : decode cL_isWell 226 = .ok (.if_icmp .ne 55, 3) := by decide +kernel
theorem dL_isWell_229 : decode cL_isWell 229 = .ok (.iload 11, 2) := by decide +kernel
theorem dL_isWell_231 : decode cL_isWell 231 = .ok (.ifCond .ne 7, 3) := by decide +kernel
theorem dL_isWell_234 : decode cL_isWell 234 = .ok (.iconst 1, 1) := by decide +kernel
theorem dL_isWell_235 : decode cL_isWell 235 = .ok (.goto 4, 3) := by decide +kernel
theorem dL_isWell_238 : decode cL_isWell 238 = .ok (.iconst 0, 1) := by decide +kernel
theorem dL_isWell_239 : decode cL_isWell 239 = .ok (.aload_n 0, 1) := by decide +kernel
theorem dL_isWell_240 : decode cL_isWell 240 = .ok (.iload 10, 2) := by decide +kernel
theorem dL_isWell_242 : decode cL_isWell 242 = .ok (.iconst 2, 1) := by decide +kernel
theorem dL_isWell_243 : decode cL_isWell 243 = .ok (.invokevirtual 36, 3) := by decide +kernel
theorem dL_isWell_246 : decode cL_isWell 246 = .ok (.ifCond .lt 7, 3) := by decide +kernel
theorem dL_isWell_249 : decode cL_isWell 249 = .ok (.iconst 1, 1) := by decide +kernel
theorem dL_isWell_250 : decode cL_isWell 250 = .ok (.goto 4, 3) := by decide +kernel
theorem dL_isWell_253 : decode cL_isWell 253 = .ok (.iconst 0, 1) := by decide +kernel
theorem dL_isWell_254 : decode cL_isWell 254 = .ok (.if_icmp .ne 27, 3) := by decide +kernel
theorem dL_isWell_257 : decode cL_isWell 257 = .ok (.aload_n 0, 1) := by decide +kernel
theorem dL_isWell_258 : decode cL_isWell 258 = .ok (.iload 10, 2) := by decide +kernel
theorem dL_isWell_260 : decode cL_isWell 260 = .ok (.iconst 3, 1) := by decide +kernel
theorem dL_isWell_261 : decode cL_isWell 261 = .ok (.invokevirtual 36, 3) := by decide +kernel
theorem dL_isWell_264 : decode cL_isWell 264 = .ok (.ifCond .eq 13, 3) := by decide +kernel
theorem dL_isWell_267 : decode cL_isWell 267 = .ok (.aload_n 0, 1) := by decide +kernel
theorem dL_isWell_268 : decode cL_isWell 268 = .ok (.iload 10, 2) := by decide +kernel
theorem dL_isWell_270 : decode cL_isWell 270 = .ok (.iconst 4, 1) := by decide +kernel
theorem dL_isWell_271 : decode cL_isWell 271 = .ok (.invokevirtual 36, 3) := by decide +kernel
theorem dL_isWell_274 : decode cL_isWell 274 = .ok (.ifCond .le 7, 3) := by decide +kernel
theorem dL_isWell_277 : decode cL_isWell 277 = .ok (.iconst 1, 1) := by decide +kernel
theorem dL_isWell_278 : decode cL_isWell 278 = .ok (.goto 4, 3) := by decide +kernel
theorem dL_isWell_281 : decode cL_isWell 281 = .ok (.iconst 0, 1) := by decide +kernel
theorem dL_isWell_282 : decode cL_isWell 282 = .ok (.istore 9, 2) := by decide +kernel
theorem dL_isWell_284 : decode cL_isWell 284 = .ok (.iinc 10 1, 3) := by decide +kernel
theorem dL_isWell_287 : decode cL_isWell 287 = .ok (.goto (-258), 3) := by decide +kernel
theorem dL_isWell_290 : decode cL_isWell 290 = .ok (.iconst 0, 1) := by decide +kernel
theorem dL_isWell_291 : decode cL_isWell 291 = .ok (.istore 10, 2) := by decide +kernel
theorem dL_isWell_293 : decode cL_isWell 293 = .ok (.iload 10, 2) := by decide +kernel
theorem dL_isWell_295 : decode cL_isWell 295 = .ok (.bipush 6, 2) := by decide +kernel
theorem dL_isWell_297 : decode cL_isWell 297 = .ok (.if_icmp .ge 171, 3) := by decide +kernel
theorem dL_isWell_300 : decode cL_isWell 300 = .ok (.iconst 0, 1) := by decide +kernel
theorem dL_isWell_301 : decode cL_isWell 301 = .ok (.istore 11, 2) := by decide +kernel
theorem dL_isWell_303 : decode cL_isWell 303 = .ok (.iconst 0, 1) := by decide +kernel
theorem dL_isWell_304 : decode cL_isWell 304 = .ok (.istore 12, 2) := by decide +kernel
theorem dL_isWell_306 : decode cL_isWell 306 = .ok (.iconst 0, 1) := by decide +kernel
theorem dL_isWell_307 : decode cL_isWell 307 = .ok (.istore 13, 2) := by decide +kernel
theorem dL_isWell_309 : decode cL_isWell 309 = .ok (.iload 13, 2) := by decide +kernel
