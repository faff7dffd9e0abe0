theorem dL_isStep_0 : decode cL_isStep 0 = .ok (.iload_n 2, 1) := by decide +kernel
theorem dL_isStep_1 : decode cL_isStep 1 = .ok (.iconst 4, 1) := by decide +kernel
theorem dL_isStep_2 : decode cL_isStep 2 = .ok (.ishr, 1) := by decide +kernel
theorem dL_isStep_3 : decode cL_isStep 3 = .ok (.istore 4, 2) := by decide +kernel
theorem dL_isStep_5 : decode cL_isStep 5 = .ok (.iload 4, 2) := by decide +kernel
theorem dL_isStep_7 : decode cL_isStep 7 = .ok (.bipush 6, 2) := by decide +kernel
theorem dL_isStep_9 : decode cL_isStep 9 = .ok (.invokestatic 19, 3) := by decide +kernel
theorem dL_isStep_12 : decode cL_isStep 12 = .ok (.istore 5, 2) := by decide +kernel
theorem dL_isStep_14 : decode cL_isStep 14 = .ok (.iload_n 2, 1) := by decide +kernel
theorem dL_isStep_15 : decode cL_isStep 15 = .ok (.bipush 18, 2) := by decide +kernel
theorem dL_isStep_17 : decode cL_isStep 17 = .ok (.invokestatic 19, 3) := by decide +kernel
theorem dL_isStep_20 : decode cL_isStep 20 = .ok (.tableswitch 669 0 9 #[56, 168, 301, 382, 458, 592, 660, 660, 660, 660], 56) := by decide +kernel
theorem dL_isStep_76 : decode cL_isStep 76 = .ok (.iload 4, 2) := by decide +kernel
theorem dL_isStep_78 : decode cL_isStep 78 = .ok (.iconst 3, 1) := by decide +kernel
theorem dL_isStep_79 : decode cL_isStep 79 = .ok (.invokestatic 19, 3) := by decide +kernel
theorem dL_isStep_82 : decode cL_isStep 82 = .ok (.istore 6, 2) := by decide +kernel
theorem dL_isStep_84 : decode cL_isStep 84 = .ok (.iload 6, 2) := by decide +kernel
theorem dL_isStep_86 : decode cL_isStep 86 = .ok (.ifCond .ne 14, 3) := by decide +kernel
theorem dL_isStep_89 : decode cL_isStep 89 = .ok (.iconst 1, 1) := by decide +kernel
theorem dL_isStep_90 : decode cL_isStep 90 = .ok (.iload_n 3, 1) := by decide +kernel
theorem dL_isStep_91 : decode cL_isStep 91 = .ok (.bipush 6, 2) := by decide +kernel
theorem dL_isStep_93 : decode cL_isStep 93 = .ok (.invokestatic 19, 3) := by decide +kernel
theorem dL_isStep_96 : decode cL_isStep 96 = .ok (.iadd, 1) := by decide +kernel
theorem dL_isStep_97 : decode cL_isStep 97 = .ok (.goto 38, 3) := by decide +kernel
theorem dL_isStep_100 : decode cL_isStep 100 = .ok (.iload 6, 2) := by decide +kernel
theorem dL_isStep_102 : decode cL_isStep 102 = .ok (.iconst 1, 1) := by decide +kernel
theorem dL_isStep_103 : decode cL_isStep 103 = .ok (.if_icmp .ne 12, 3) := by decide +kernel
theorem dL_isStep_106 : decode cL_isStep 106 = .ok (.iload_n 3, 1) := by decide +kernel
theorem dL_isStep_107 : decode cL_isStep 107 = .ok (.bipush 21, 2) := by decide +kernel
theorem dL_isStep_109 : decode cL_isStep 109 = .ok (.invokestatic 19, 3) := by decide +kernel
theorem dL_isStep_112 : decode cL_isStep 112 = .ok (.goto 23, 3) := by decide +kernel
theorem dL_isStep_115 : decode cL_isStep 115 = .ok (.iload_n 3, 1) := by decide +kernel
theorem dL_isStep_116 : decode cL_isStep 116 = .ok (.iload 4, 2) := by decide +kernel
theorem dL_isStep_118 : decode cL_isStep 118 = .ok (.iconst 2, 1) := by decide +kernel
theorem dL_isStep_119 : decode cL_isStep 119 = .ok (.invokestatic 19, 3) := by decide +kernel
theorem dL_isStep_122 : decode cL_isStep 122 = .ok (.ifCond .ne 8, 3) := by decide +kernel
theorem dL_isStep_125 : decode cL_isStep 125 = .ok (.bipush 61, 2) := by decide +kernel
theorem dL_isStep_127 : decode cL_isStep 127 = .ok (.goto 5, 3) := by decide +kernel
theorem dL_isStep_130 : decode cL_isStep 130 = .ok (.bipush 12, 2) := by decide +kernel
theorem dL_isStep_132 : decode cL_isStep 132 = .ok (.invokestatic 19, 3) := by decide +kernel
theorem dL_isStep_135 : decode cL_isStep 135 = .ok (.istore 7, 2) := by decide +kernel
theorem dL_isStep_137 : decode cL_isStep 137 = .ok (.aload_n 0, 1) := by decide +kernel
theorem dL_isStep_138 : decode cL_isStep 138 = .ok (.iload 6, 2) := by decide +kernel
theorem dL_isStep_140 : decode cL_isStep 140 = .ok (.invokevirtual 15, 3) := by decide +kernel
theorem dL_isStep_143 : decode cL_isStep 143 = .ok (.istore 8, 2) := by decide +kernel
theorem dL_isStep_145 : decode cL_isStep 145 = .ok (.aload_n 0, 1) := by decide +kernel
theorem dL_isStep_146 : decode cL_isStep 146 = .ok (.iload 6, 2) := by decide +kernel
theorem dL_isStep_148 : decode cL_isStep 148 = .ok (.iload 7, 2) := by decide +kernel
theorem dL_isStep_150 : decode cL_isStep 150 = .ok (.invokevirtual 39, 3) := by decide +kernel
theorem dL_isStep_153 : decode cL_isStep 153 = .ok (.iload 8, 2) := by decide +kernel
theorem dL_isStep_155 : decode cL_isStep 155 = .ok (.if_icmp .ne 31, 3) := by decide +kernel
theorem dL_isStep_158 : decode cL_isStep 158 = .ok (.aload_n 1, 1) := by decide +kernel
theorem dL_isStep_159 : decode cL_isStep 159 = .ok (.iload 6, 2) := by decide +kernel
theorem dL_isStep_161 : decode cL_isStep 161 = .ok (.iload 7, 2) := by decide +kernel
theorem dL_isStep_163 : decode cL_isStep 163 = .ok (.invokevirtual 39, 3) := by decide +kernel
theorem dL_isStep_166 : decode cL_isStep 166 = .ok (.iload 8, 2) := by decide +kernel
theorem dL_isStep_168 : decode cL_isStep 168 = .ok (.if_icmp .ne 18, 3) := by decide +kernel
theorem dL_isStep_171 : decode cL_isStep 171 = .ok (.aload_n 0, 1) := by decide +kernel
theorem dL_isStep_172 : decode cL_isStep 172 = .ok (.iload 6, 2) := by decide +kernel
theorem dL_isStep_174 : decode cL_isStep 174 = .ok (.invokevirtual 15, 3) := by decide +kernel
theorem dL_isStep_177 : decode cL_isStep 177 = .ok (.iload 7, 2) := by decide +kernel
theorem dL_isStep_179 : decode cL_isStep 179 = .ok (.if_icmp .ne 7, 3) := by decide +kernel
theorem dL_isStep_182 : decode cL_isStep 182 = .ok (.iconst 1, 1) := by decide +kernel
theorem dL_isStep_183 : decode cL_isStep 183 = .ok (.goto 4, 3) := by decide +kernel
theorem dL_isStep_186 : decode cL_isStep 186 = .ok (.iconst 0, 1) := by decide +kernel
theorem dL_isStep_187 : decode cL_isStep 187 = .ok (.ireturn, 1) := by decide +kernel
theorem dL_isStep_188 : decode cL_isStep 188 = .ok (.iload_n 3, 1) := by decide +kernel
theorem dL_isStep_189 : decode cL_isStep 189 = .ok (.iconst 3, 1) := by decide +kernel
theorem dL_isStep_190 : decode cL_isStep 190 = .ok (.invokestatic 19, 3) := by decide +kernel
theorem dL_isStep_193 : decode cL_isStep 193 = .ok (.ifCond .le 7, 3) := by decide +kernel
theorem dL_isStep_196 : decode cL_isStep 196 = .ok (.iconst 1, 1) := by decide +kernel
theorem dL_isStep_197 : decode cL_isStep 197 = .ok (.goto 4, 3) := by decide +kernel
theorem dL_isStep_200 : decode cL_isStep 200 = .ok (.iconst 0, 1) := by decide +kernel
theorem dL_isStep_201 : decode cL_isStep 201 = .ok (.istore 6, 2) := by decide +kernel
theorem dL_isStep_203 : decode cL_isStep 203 = .ok (.aload_n 0, 1) := by decide +kernel
theorem dL_isStep_204 : decode cL_isStep 204 = .ok (.iload 5, 2) := by decide +kernel
theorem dL_isStep_206 : decode cL_isStep 206 = .ok (.iconst 0, 1) := by decide +kernel
theorem dL_isStep_207 : decode cL_isStep 207 = .ok (.invokevirtual 42, 3) := by decide +kernel
theorem dL_isStep_210 : decode cL_isStep 210 = .ok (.iconst 1, 1) := by decide +kernel
theorem dL_isStep_211 : decode cL_isStep 211 = .ok (.if_icmp .ne 7, 3) := by decide +kernel
theorem dL_isStep_214 : decode cL_isStep 214 = .ok (.iconst 1, 1) := by decide +kernel
theorem dL_isStep_215 : decode cL_isStep 215 = .ok (.goto 4, 3) := by decide +kernel
theorem dL_isStep_218 : decode cL_isStep 218 = .ok (.iconst 0, 1) := by decide +kernel
theorem dL_isStep_219 : decode cL_isStep 219 = .ok (.istore 7, 2) := by decide +kernel
theorem dL_isStep_221 : decode cL_isStep 221 = .ok (.aload_n 0, 1) := by decide +kernel
theorem dL_isStep_222 : decode cL_isStep 222 = .ok (.iload 5, 2) := by decide +kernel
theorem dL_isStep_224 : decode cL_isStep 224 = .ok (.iload 6, 2) := by decide +kernel
theorem dL_isStep_226 : decode cL_isStep 226 = .ok (.invokevirtual 45, 3) := by decide +kernel
theorem dL_isStep_229 : decode cL_isStep 229 = .ok (.istore 8, 2) := by decide +kernel
theorem dL_isStep_231 : decode cL_isStep 231 = .ok (.iconst 0, 1) := by decide +kernel
theorem dL_isStep_232 : decode cL_isStep 232 = .ok (.istore 9, 2) := by decide +kernel
theorem dL_isStep_234 : decode cL_isStep 234 = .ok (.iconst 0, 1) := by decide +kernel
theorem dL_isStep_235 : decode cL_isStep 235 = .ok (.istore 10, 2) := by decide +kernel
theorem dL_isStep_237 : decode cL_isStep 237 = .ok (.iload 10, 2) := by decide +kernel
theorem dL_isStep_239 : decode cL_isStep 239 = .ok (.bipush 6, 2) := by decide +kernel
theorem dL_isStep_241 : decode cL_isStep 241 = .ok (.if_icmp .ge 21, 3) := by decide +kernel
theorem dL_isStep_244 : decode cL_isStep 244 = .ok (.iload 9, 2) := by decide +kernel
theorem dL_isStep_246 : decode cL_isStep 246 = .ok (.aload_n 0, 1) := by decide +kernel
theorem dL_isStep_247 : decode cL_isStep 247 = .ok (.iload 10, 2) := by decide +kernel
theorem dL_isStep_249 : decode cL_isStep 249 = .ok (.iconst 0, 1) := by decide +kernel
theorem dL_isStep_250 : decode cL_isStep 250 = .ok (.invokevirtual 42, 3) := by decide +kernel
theorem dL_isStep_253 : decode cL_isStep 253 = .ok (.iadd, 1) := by decide +kernel
theorem dL_isStep_254 : decode cL_isStep 254 = .ok (.istore 9, 2) := by decide +kernel
theorem dL_isStep_256 : decode cL_isStep 256 = .ok (.iinc 10 1, 3) := by decide +kernel
theorem dL_isStep_259 : decode cL_isStep 259 = .ok (.goto (-22), 3) := by decide +kernel
theorem dL_isStep_262 : decode cL_isStep 262 = .ok (.iload 8, 2) := by decide +kernel
theorem dL_isStep_264 : decode cL_isStep 264 = .ok (.aload_n 1, 1) := by decide +kernel
theorem dL_isStep_265 : decode cL_isStep 265 = .ok (.iload 5, 2) := by decide +kernel
theorem dL_isStep_267 : decode cL_isStep 267 = .ok (.iload 6, 2) := by decide +kernel
theorem dL_isStep_269 : decode cL_isStep 269 = .ok (.invokevirtual 45, 3) := by decide +kernel
theorem dL_isStep_272 : decode cL_isStep 272 = .ok (.if_icmp .ne 47, 3) := by decide +kernel
theorem dL_isStep_275 : decode cL_isStep 275 = .ok (.iload 8, 2) := by decide +kernel
theorem dL_isStep_277 : decode cL_isStep 277 = .ok (.iload 6, 2) := by decide +kernel
theorem dL_isStep_279 : decode cL_isStep 279 = .ok (.iload 7, 2) := by decide +kernel
theorem dL_isStep_281 : decode cL_isStep 281 = .ok (.if_icmp .ne 8, 3) := by decide +kernel
theorem dL_isStep_284 : decode cL_isStep 284 = .ok (.bipush (-5), 2) := by decide +kernel
theorem dL_isStep_286 : decode cL_isStep 286 = .ok (.goto 5, 3) := by decide +kernel
theorem dL_isStep_289 : decode cL_isStep 289 = .ok (.iload 9, 2) := by decide +kernel
theorem dL_isStep_291 : decode cL_isStep 291 = .ok (.if_icmp .ne 28, 3) := by decide +kernel
theorem dL_isStep_294 : decode cL_isStep 294 = .ok (.aload_n 0, 1) := by decide +kernel
theorem dL_isStep_295 : decode cL_isStep 295 = .ok (.iload 5, 2) := by decide +kernel
theorem dL_isStep_297 : decode cL_isStep 297 = .ok (.iconst 0, 1) := by decide +kernel
theorem dL_isStep_298 : decode cL_isStep 298 = .ok (.invokevirtual 42, 3) := by decide +kernel
theorem dL_isStep_301 : decode cL_isStep 301 = .ok (.iconst 1, 1) := by decide +kernel
theorem dL_isStep_302 : decode cL_isStep 302 = .ok (.if_icmp .ne 7, 3) := by decide +kernel
theorem dL_isStep_305 : decode cL_isStep 305 = .ok (.iconst 1, 1) := by decide +kernel
theorem dL_isStep_306 : decode cL_isStep 306 = .ok (.goto 4, 3) := by decide +kernel
theorem dL_isStep_309 : decode cL_isStep 309 = .ok (.iconst 0, 1) := by decide +kernel
theorem dL_isStep_310 : decode cL_isStep 310 = .ok (.iload 6, 2) := by decide +kernel
theorem dL_isStep_312 : decode cL_isStep 312 = .ok (.if_icmp .ne 7, 3) := by decide +kernel
theorem dL_isStep_315 : decode cL_isStep 315 = .ok (.iconst 1, 1) := by decide +kernel
theorem dL_isStep_316 : decode cL_isStep 316 = .ok (.goto 4, 3) := by decide +kernel
theorem dL_isStep_319 : decode cL_isStep 319 = .ok (.iconst 0, 1) := by decide +kernel
theorem dL_isStep_320 : decode cL_isStep 320 = .ok (.ireturn, 1) := by decide +kernel
theorem dL_isStep_321 : decode cL_isStep 321 = .ok (.aload_n 0, 1) := by decide +kernel
theorem dL_isStep_322 : decode cL_isStep 322 = .ok (.iload 5, 2) := by decide +kernel
theorem dL_isStep_324 : decode cL_isStep 324 = .ok (.iconst 1, 1) := by decide +kernel
theorem dL_isStep_325 : decode cL_isStep 325 = .ok (.invokevirtual 42, 3) := by decide +kernel
theorem dL_isStep_328 : decode cL_isStep 328 = .ok (.istore 6, 2) := by decide +kernel
theorem dL_isStep_330 : decode cL_isStep 330 = .ok (.iload_n 3, 1) := by decide +kernel
theorem dL_isStep_331 : decode cL_isStep 331 = .ok (.iconst 4, 1) := by decide +kernel
theorem dL_isStep_332 : decode cL_isStep 332 = .ok (.invokestatic 19, 3) := by decide +kernel
theorem dL_isStep_335 : decode cL_isStep 335 = .ok (.istore 7, 2) := by decide +kernel
theorem dL_isStep_337 : decode cL_isStep 337 = .ok (.aload_n 0, 1) := by decide +kernel
theorem dL_isStep_338 : decode cL_isStep 338 = .ok (.iload 5, 2) := by decide +kernel
theorem dL_isStep_340 : decode cL_isStep 340 = .ok (.iconst 4, 1) := by decide +kernel
theorem dL_isStep_341 : decode cL_isStep 341 = .ok (.invokevirtual 42, 3) := by decide +kernel
theorem dL_isStep_344 : decode cL_isStep 344 = .ok (.istore 8, 2) := by decide +kernel
theorem dL_isStep_346 : decode cL_isStep 346 = .ok (.aload_n 0, 1) := by decide +kernel
theorem dL_isStep_347 : decode cL_isStep 347 = .ok (.iload 5, 2) := by decide +kernel
theorem dL_isStep_349 : decode cL_isStep 349 = .ok (.iload 7, 2) := by decide +kernel
theorem dL_isStep_351 : decode cL_isStep 351 = .ok (.invokevirtual 49, 3) := by decide +kernel
theorem dL_isStep_354 : decode cL_isStep 354 = .ok (.iload 6, 2) := by decide +kernel
theorem dL_isStep_356 : decode cL_isStep 356 = .ok (.if_icmp .ne 44, 3) := by decide +kernel
theorem dL_isStep_359 : decode cL_isStep 359 = .ok (.aload_n 1, 1) := by decide +kernel
theorem dL_isStep_360 : decode cL_isStep 360 = .ok (.iload 5, 2) := by decide +kernel
theorem dL_isStep_362 : decode cL_isStep 362 = .ok (.iload 7, 2) := by decide +kernel
theorem dL_isStep_364 : decode cL_isStep 364 = .ok (.invokevirtual 49, 3) := by decide +kernel
theorem dL_isStep_367 : decode cL_isStep 367 = .ok (.iload 6, 2) := by decide +kernel
theorem dL_isStep_369 : decode cL_isStep 369 = .ok (.if_icmp .ne 31, 3) := by decide +kernel
theorem dL_isStep_372 : decode cL_isStep 372 = .ok (.aload_n 0, 1) := by decide +kernel
theorem dL_isStep_373 : decode cL_isStep 373 = .ok (.iload 5, 2) := by decide +kernel
theorem dL_isStep_375 : decode cL_isStep 375 = .ok (.iconst 1, 1) := by decide +kernel
theorem dL_isStep_376 : decode cL_isStep 376 = .ok (.invokevirtual 42, 3) := by decide +kernel
theorem dL_isStep_379 : decode cL_isStep 379 = .ok (.iload 7, 2) := by decide +kernel
theorem dL_isStep_381 : decode cL_isStep 381 = .ok (.if_icmp .ne 19, 3) := by decide +kernel
theorem dL_isStep_384 : decode cL_isStep 384 = .ok (.aload_n 0, 1) := by decide +kernel
theorem dL_isStep_385 : decode cL_isStep 385 = .ok (.iload 5, 2) := by decide +kernel
theorem dL_isStep_387 : decode cL_isStep 387 = .ok (.iconst 4, 1) := by decide +kernel
theorem dL_isStep_388 : decode cL_isStep 388 = .ok (.invokevirtual 42, 3) := by decide +kernel
theorem dL_isStep_391 : decode cL_isStep 391 = .ok (.iload 8, 2) := by decide +kernel
theorem dL_isStep_393 : decode cL_isStep 393 = .ok (.if_icmp .ne 7, 3) := by decide +kernel
theorem dL_isStep_396 : decode cL_isStep 396 = .ok (.iconst 1, 1) := by decide +kernel
theorem dL_isStep_397 : decode cL_isStep 397 = .ok (.goto 4, 3) := by decide +kernel
theorem dL_isStep_400 : decode cL_isStep 400 = .ok (.iconst 0, 1) := by decide +kernel
theorem dL_isStep_401 : decode cL_isStep 401 = .ok (.ireturn, 1) := by decide +kernel
theorem dL_isStep_402 : decode cL_isStep 402 = .ok (.aload_n 0, 1) := by decide +kernel
theorem dL_isStep_403 : decode cL_isStep 403 = .ok (.iload 5, 2) := by decide +kernel
theorem dL_isStep_405 : decode cL_isStep 405 = .ok (.iconst 2, 1) := by decide +kernel
theorem dL_isStep_406 : decode cL_isStep 406 = .ok (.invokevirtual 42, 3) := by decide +kernel
theorem dL_isStep_409 : decode cL_isStep 409 = .ok (.istore 6, 2) := by decide +kernel
theorem dL_isStep_411 : decode cL_isStep 411 = .ok (.aload_n 0, 1) := by decide +kernel
theorem dL_isStep_412 : decode cL_isStep 412 = .ok (.iconst 1, 1) := by decide +kernel
theorem dL_isStep_413 : decode cL_isStep 413 = .ok (.invokevirtual 15, 3) := by decide +kernel
theorem dL_isStep_416 : decode cL_isStep 416 = .ok (.iload 6, 2) := by decide +kernel
theorem dL_isStep_418 : decode cL_isStep 418 = .ok (.if_icmp .le 14, 3) := by decide +kernel
theorem dL_isStep_421 : decode cL_isStep 421 = .ok (.aload_n 0, 1) := by decide +kernel
theorem dL_isStep_422 : decode cL_isStep 422 = .ok (.iconst 1, 1) := by decide +kernel
theorem dL_isStep_423 : decode cL_isStep 423 = .ok (.invokevirtual 15, 3) := by decide +kernel
theorem dL_isStep_426 : decode cL_isStep 426 = .ok (.iload 6, 2) := by decide +kernel
theorem dL_isStep_428 : decode cL_isStep 428 = .ok (.isub, 1) := by decide +kernel
theorem dL_isStep_429 : decode cL_isStep 429 = .ok (.goto 4, 3) := by decide +kernel
theorem dL_isStep_432 : decode cL_isStep 432 = .ok (.iconst 0, 1) := by decide +kernel
theorem dL_isStep_433 : decode cL_isStep 433 = .ok (.istore 7, 2) := by decide +kernel
theorem dL_isStep_435 : decode cL_isStep 435 = .ok (.aload_n 0, 1) := by decide +kernel
theorem dL_isStep_436 : decode cL_isStep 436 = .ok (.iload 5, 2) := by decide +kernel
theorem dL_isStep_438 : decode cL_isStep 438 = .ok (.invokevirtual 52, 3) := by decide +kernel
theorem dL_isStep_441 : decode cL_isStep 441 = .ok (.iload 7, 2) := by decide +kernel
theorem dL_isStep_443 : decode cL_isStep 443 = .ok (.if_icmp .ne 33, 3) := by decide +kernel
theorem dL_isStep_446 : decode cL_isStep 446 = .ok (.aload_n 1, 1) := by decide +kernel
