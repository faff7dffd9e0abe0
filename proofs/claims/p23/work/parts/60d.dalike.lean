theorem dL_areAlike_0 : decode cL_areAlike 0 = .ok (.iconst 1, 1) := by decide +kernel
theorem dL_areAlike_1 : decode cL_areAlike 1 = .ok (.iload_n 2, 1) := by decide +kernel
theorem dL_areAlike_2 : decode cL_areAlike 2 = .ok (.sipush 300, 3) := by decide +kernel
theorem dL_areAlike_5 : decode cL_areAlike 5 = .ok (.invokestatic 19, 3) := by decide +kernel
theorem dL_areAlike_8 : decode cL_areAlike 8 = .ok (.iadd, 1) := by decide +kernel
theorem dL_areAlike_9 : decode cL_areAlike 9 = .ok (.istore_n 3, 1) := by decide +kernel
theorem dL_areAlike_10 : decode cL_areAlike 10 = .ok (.aload_n 0, 1) := by decide +kernel
theorem dL_areAlike_11 : decode cL_areAlike 11 = .ok (.invokevirtual 71, 3) := by decide +kernel
theorem dL_areAlike_14 : decode cL_areAlike 14 = .ok (.aload_n 1, 1) := by decide +kernel
theorem dL_areAlike_15 : decode cL_areAlike 15 = .ok (.invokevirtual 71, 3) := by decide +kernel
theorem dL_areAlike_18 : decode cL_areAlike 18 = .ok (.if_icmp .ne 18, 3) := by decide +kernel
theorem dL_areAlike_21 : decode cL_areAlike 21 = .ok (.aload_n 0, 1) := by decide +kernel
theorem dL_areAlike_22 : decode cL_areAlike 22 = .ok (.invokevirtual 74, 3) := by decide +kernel
theorem dL_areAlike_25 : decode cL_areAlike 25 = .ok (.aload_n 1, 1) := by decide +kernel
theorem dL_areAlike_26 : decode cL_areAlike 26 = .ok (.invokevirtual 74, 3) := by decide +kernel
theorem dL_areAlike_29 : decode cL_areAlike 29 = .ok (.if_icmp .ne 7, 3) := by decide +kernel
theorem dL_areAlike_32 : decode cL_areAlike 32 = .ok (.iconst 1, 1) := by decide +kernel
theorem dL_areAlike_33 : decode cL_areAlike 33 = .ok (.goto 4, 3) := by decide +kernel
theorem dL_areAlike_36 : decode cL_areAlike 36 = .ok (.iconst 0, 1) := by decide +kernel
theorem dL_areAlike_37 : decode cL_areAlike 37 = .ok (.istore 4, 2) := by decide +kernel
theorem dL_areAlike_39 : decode cL_areAlike 39 = .ok (.iconst 0, 1) := by decide +kernel
theorem dL_areAlike_40 : decode cL_areAlike 40 = .ok (.istore 5, 2) := by decide +kernel
theorem dL_areAlike_42 : decode cL_areAlike 42 = .ok (.iload 5, 2) := by decide +kernel
theorem dL_areAlike_44 : decode cL_areAlike 44 = .ok (.bipush 15, 2) := by decide +kernel
theorem dL_areAlike_46 : decode cL_areAlike 46 = .ok (.if_icmp .ge 59, 3) := by decide +kernel
theorem dL_areAlike_49 : decode cL_areAlike 49 = .ok (.iload 4, 2) := by decide +kernel
theorem dL_areAlike_51 : decode cL_areAlike 51 = .ok (.ifCond .eq 45, 3) := by decide +kernel
theorem dL_areAlike_54 : decode cL_areAlike 54 = .ok (.aload_n 0, 1) := by decide +kernel
theorem dL_areAlike_55 : decode cL_areAlike 55 = .ok (.iload 5, 2) := by decide +kernel
theorem dL_areAlike_57 : decode cL_areAlike 57 = .ok (.invokevirtual 15, 3) := by decide +kernel
theorem dL_areAlike_60 : decode cL_areAlike 60 = .ok (.aload_n 1, 1) := by decide +kernel
theorem dL_areAlike_61 : decode cL_areAlike 61 = .ok (.iload 5, 2) := by decide +kernel
theorem dL_areAlike_63 : decode cL_areAlike 63 = .ok (.invokevirtual 15, 3) := by decide +kernel
theorem dL_areAlike_66 : decode cL_areAlike 66 = .ok (.if_icmp .ne 30, 3) := by decide +kernel
theorem dL_areAlike_69 : decode cL_areAlike 69 = .ok (.iload 5, 2) := by decide +kernel
theorem dL_areAlike_71 : decode cL_areAlike 71 = .ok (.iconst 3, 1) := by decide +kernel
theorem dL_areAlike_72 : decode cL_areAlike 72 = .ok (.if_icmp .gt 20, 3) := by decide +kernel
theorem dL_areAlike_75 : decode cL_areAlike 75 = .ok (.aload_n 0, 1) := by decide +kernel
theorem dL_areAlike_76 : decode cL_areAlike 76 = .ok (.iload_n 3, 1) := by decide +kernel
theorem dL_areAlike_77 : decode cL_areAlike 77 = .ok (.iload 5, 2) := by decide +kernel
theorem dL_areAlike_79 : decode cL_areAlike 79 = .ok (.invokevirtual 77, 3) := by decide +kernel
theorem dL_areAlike_82 : decode cL_areAlike 82 = .ok (.aload_n 1, 1) := by decide +kernel
theorem dL_areAlike_83 : decode cL_areAlike 83 = .ok (.iload_n 3, 1) := by decide +kernel
theorem dL_areAlike_84 : decode cL_areAlike 84 = .ok (.iload 5, 2) := by decide +kernel
theorem dL_areAlike_86 : decode cL_areAlike 86 = .ok (.invokevirtual 77, 3) := by decide +kernel
theorem dL_areAlike_89 : decode cL_areAlike 89 = .ok (.if_icmp .ne 7, 3) := by decide +kernel
theorem dL_areAlike_92 : decode cL_areAlike 92 = .ok (.iconst 1, 1) := by decide +kernel
theorem dL_areAlike_93 : decode cL_areAlike 93 = .ok (.goto 4, 3) := by decide +kernel
theorem dL_areAlike_96 : decode cL_areAlike 96 = .ok (.iconst 0, 1) := by decide +kernel
theorem dL_areAlike_97 : decode cL_areAlike 97 = .ok (.istore 4, 2) := by decide +kernel
theorem dL_areAlike_99 : decode cL_areAlike 99 = .ok (.iinc 5 1, 3) := by decide +kernel
theorem dL_areAlike_102 : decode cL_areAlike 102 = .ok (.goto (-60), 3) := by decide +kernel
theorem dL_areAlike_105 : decode cL_areAlike 105 = .ok (.iconst 0, 1) := by decide +kernel
theorem dL_areAlike_106 : decode cL_areAlike 106 = .ok (.istore 5, 2) := by decide +kernel
theorem dL_areAlike_108 : decode cL_areAlike 108 = .ok (.iload 5, 2) := by decide +kernel
theorem dL_areAlike_110 : decode cL_areAlike 110 = .ok (.aload_n 0, 1) := by decide +kernel
theorem dL_areAlike_111 : decode cL_areAlike 111 = .ok (.iconst 4, 1) := by decide +kernel
theorem dL_areAlike_112 : decode cL_areAlike 112 = .ok (.invokevirtual 15, 3) := by decide +kernel
theorem dL_areAlike_115 : decode cL_areAlike 115 = .ok (.if_icmp .ge 56, 3) := by decide +kernel
theorem dL_areAlike_118 : decode cL_areAlike 118 = .ok (.iconst 0, 1) := by decide +kernel
theorem dL_areAlike_119 : decode cL_areAlike 119 = .ok (.istore 6, 2) := by decide +kernel
theorem dL_areAlike_121 : decode cL_areAlike 121 = .ok (.iload 6, 2) := by decide +kernel
theorem dL_areAlike_123 : decode cL_areAlike 123 = .ok (.bipush 9, 2) := by decide +kernel
theorem dL_areAlike_125 : decode cL_areAlike 125 = .ok (.if_icmp .ge 40, 3) := by decide +kernel
theorem dL_areAlike_128 : decode cL_areAlike 128 = .ok (.iload 4, 2) := by decide +kernel
theorem dL_areAlike_130 : decode cL_areAlike 130 = .ok (.ifCond .eq 26, 3) := by decide +kernel
theorem dL_areAlike_133 : decode cL_areAlike 133 = .ok (.aload_n 0, 1) := by decide +kernel
theorem dL_areAlike_134 : decode cL_areAlike 134 = .ok (.iload 5, 2) := by decide +kernel
theorem dL_areAlike_136 : decode cL_areAlike 136 = .ok (.iload 6, 2) := by decide +kernel
theorem dL_areAlike_138 : decode cL_areAlike 138 = .ok (.invokevirtual 36, 3) := by decide +kernel
theorem dL_areAlike_141 : decode cL_areAlike 141 = .ok (.aload_n 1, 1) := by decide +kernel
theorem dL_areAlike_142 : decode cL_areAlike 142 = .ok (.iload 5, 2) := by decide +kernel
theorem dL_areAlike_144 : decode cL_areAlike 144 = .ok (.iload 6, 2) := by decide +kernel
theorem dL_areAlike_146 : decode cL_areAlike 146 = .ok (.invokevirtual 36, 3) := by decide +kernel
theorem dL_areAlike_149 : decode cL_areAlike 149 = .ok (.if_icmp .ne 7, 3) := by decide +kernel
theorem dL_areAlike_152 : decode cL_areAlike 152 = .ok (.iconst 1, 1) := by decide +kernel
theorem dL_areAlike_153 : decode cL_areAlike 153 = .ok (.goto 4, 3) := by decide +kernel
theorem dL_areAlike_156 : decode cL_areAlike 156 = .ok (.iconst 0, 1) := by decide +kernel
theorem dL_areAlike_157 : decode cL_areAlike 157 = .ok (.istore 4, 2) := by decide +kernel
theorem dL_areAlike_159 : decode cL_areAlike 159 = .ok (.iinc 6 1, 3) := by decide +kernel
theorem dL_areAlike_162 : decode cL_areAlike 162 = .ok (.goto (-41), 3) := by decide +kernel
theorem dL_areAlike_165 : decode cL_areAlike 165 = .ok (.iinc 5 1, 3) := by decide +kernel
theorem dL_areAlike_168 : decode cL_areAlike 168 = .ok (.goto (-60), 3) := by decide +kernel
theorem dL_areAlike_171 : decode cL_areAlike 171 = .ok (.iconst 0, 1) := by decide +kernel
theorem dL_areAlike_172 : decode cL_areAlike 172 = .ok (.istore 5, 2) := by decide +kernel
theorem dL_areAlike_174 : decode cL_areAlike 174 = .ok (.iload 5, 2) := by decide +kernel
theorem dL_areAlike_176 : decode cL_areAlike 176 = .ok (.bipush 42, 2) := by decide +kernel
theorem dL_areAlike_178 : decode cL_areAlike 178 = .ok (.if_icmp .ge 52, 3) := by decide +kernel
theorem dL_areAlike_181 : decode cL_areAlike 181 = .ok (.iload 4, 2) := by decide +kernel
theorem dL_areAlike_183 : decode cL_areAlike 183 = .ok (.ifCond .eq 38, 3) := by decide +kernel
theorem dL_areAlike_186 : decode cL_areAlike 186 = .ok (.aload_n 0, 1) := by decide +kernel
theorem dL_areAlike_187 : decode cL_areAlike 187 = .ok (.iload 5, 2) := by decide +kernel
theorem dL_areAlike_189 : decode cL_areAlike 189 = .ok (.bipush 7, 2) := by decide +kernel
theorem dL_areAlike_191 : decode cL_areAlike 191 = .ok (.idiv, 1) := by decide +kernel
theorem dL_areAlike_192 : decode cL_areAlike 192 = .ok (.iload 5, 2) := by decide +kernel
theorem dL_areAlike_194 : decode cL_areAlike 194 = .ok (.bipush 7, 2) := by decide +kernel
theorem dL_areAlike_196 : decode cL_areAlike 196 = .ok (.irem, 1) := by decide +kernel
theorem dL_areAlike_197 : decode cL_areAlike 197 = .ok (.invokevirtual 42, 3) := by decide +kernel
theorem dL_areAlike_200 : decode cL_areAlike 200 = .ok (.aload_n 1, 1) := by decide +kernel
theorem dL_areAlike_201 : decode cL_areAlike 201 = .ok (.iload 5, 2) := by decide +kernel
theorem dL_areAlike_203 : decode cL_areAlike 203 = .ok (.bipush 7, 2) := by decide +kernel
theorem dL_areAlike_205 : decode cL_areAlike 205 = .ok (.idiv, 1) := by decide +kernel
theorem dL_areAlike_206 : decode cL_areAlike 206 = .ok (.iload 5, 2) := by decide +kernel
theorem dL_areAlike_208 : decode cL_areAlike 208 = .ok (.bipush 7, 2) := by decide +kernel
theorem dL_areAlike_210 : decode cL_areAlike 210 = .ok (.irem, 1) := by decide +kernel
theorem dL_areAlike_211 : decode cL_areAlike 211 = .ok (.invokevirtual 42, 3) := by decide +kernel
theorem dL_areAlike_214 : decode cL_areAlike 214 = .ok (.if_icmp .ne 7, 3) := by decide +kernel
theorem dL_areAlike_217 : decode cL_areAlike 217 = .ok (.iconst 1, 1) := by decide +kernel
theorem dL_areAlike_218 : decode cL_areAlike 218 = .ok (.goto 4, 3) := by decide +kernel
theorem dL_areAlike_221 : decode cL_areAlike 221 = .ok (.iconst 0, 1) := by decide +kernel
theorem dL_areAlike_222 : decode cL_areAlike 222 = .ok (.istore 4, 2) := by decide +kernel
theorem dL_areAlike_224 : decode cL_areAlike 224 = .ok (.iinc 5 1, 3) := by decide +kernel
theorem dL_areAlike_227 : decode cL_areAlike 227 = .ok (.goto (-53), 3) := by decide +kernel
theorem dL_areAlike_230 : decode cL_areAlike 230 = .ok (.iload_n 2, 1) := by decide +kernel
theorem dL_areAlike_231 : decode cL_areAlike 231 = .ok (.iconst 5, 1) := by decide +kernel
theorem dL_areAlike_232 : decode cL_areAlike 232 = .ok (.ishr, 1) := by decide +kernel
theorem dL_areAlike_233 : decode cL_areAlike 233 = .ok (.aload_n 0, 1) := by decide +kernel
theorem dL_areAlike_234 : decode cL_areAlike 234 = .ok (.iconst 4, 1) := by decide +kernel
theorem dL_areAlike_235 : decode cL_areAlike 235 = .ok (.invokevirtual 15, 3) := by decide +kernel
theorem dL_areAlike_238 : decode cL_areAlike 238 = .ok (.iconst 1, 1) := by decide +kernel
theorem dL_areAlike_239 : decode cL_areAlike 239 = .ok (.iadd, 1) := by decide +kernel
theorem dL_areAlike_240 : decode cL_areAlike 240 = .ok (.invokestatic 19, 3) := by decide +kernel
theorem dL_areAlike_243 : decode cL_areAlike 243 = .ok (.istore 5, 2) := by decide +kernel
theorem dL_areAlike_245 : decode cL_areAlike 245 = .ok (.iload 4, 2) := by decide +kernel
theorem dL_areAlike_247 : decode cL_areAlike 247 = .ok (.ifCond .eq 22, 3) := by decide +kernel
theorem dL_areAlike_250 : decode cL_areAlike 250 = .ok (.aload_n 0, 1) := by decide +kernel
theorem dL_areAlike_251 : decode cL_areAlike 251 = .ok (.iload 5, 2) := by decide +kernel
theorem dL_areAlike_253 : decode cL_areAlike 253 = .ok (.invokevirtual 80, 3) := by decide +kernel
theorem dL_areAlike_256 : decode cL_areAlike 256 = .ok (.aload_n 1, 1) := by decide +kernel
theorem dL_areAlike_257 : decode cL_areAlike 257 = .ok (.iload 5, 2) := by decide +kernel
theorem dL_areAlike_259 : decode cL_areAlike 259 = .ok (.invokevirtual 80, 3) := by decide +kernel
theorem dL_areAlike_262 : decode cL_areAlike 262 = .ok (.if_icmp .ne 7, 3) := by decide +kernel
theorem dL_areAlike_265 : decode cL_areAlike 265 = .ok (.iconst 1, 1) := by decide +kernel
theorem dL_areAlike_266 : decode cL_areAlike 266 = .ok (.goto 4, 3) := by decide +kernel
theorem dL_areAlike_269 : decode cL_areAlike 269 = .ok (.iconst 0, 1) := by decide +kernel
theorem dL_areAlike_270 : decode cL_areAlike 270 = .ok (.ireturn, 1) := by decide +kernel
theorem ggL_areAlike_L_up : GoodIn wsL_areAlike wsL_up := goodIn_r _ [4, 5] (by decide +kernel) (by decide +kernel)
theorem gL_areAlike_L_up : GoodIn wsL_areAlike (va_wsS RL 19 yL_up wsL_up) := goodIn_app (goodIn_of _ (by decide +kernel)) ggL_areAlike_L_up
theorem ggL_areAlike_X6_longest : GoodIn wsL_areAlike wsX6_longest := goodIn_r _ [10, 11, 12, 13, 14, 15, 16, 17, 18, 19, 20, 21, 22, 23, 24, 237, 238, 239, 240, 241, 242, 243, 244, 245, 246, 247, 248, 249, 250, 251, 252, 253, 254, 255, 256, 257, 258] (by decide +kernel) (by decide +kernel)
theorem gL_areAlike_X6_longest : GoodIn wsL_areAlike (wsV RL 71 RX6 yX6_longest wsX6_longest) := goodIn_app (goodIn_of _ (by decide +kernel)) ggL_areAlike_X6_longest
theorem ggL_areAlike_X6_bestClerk : GoodIn wsL_areAlike wsX6_bestClerk := goodIn_r _ [28, 11, 29, 30, 31, 32, 9, 33, 34, 35, 36, 37, 16, 38, 39, 40, 41, 42, 43, 18, 44, 45, 46, 47, 48, 49, 50, 51, 52, 53, 54, 55, 56, 57, 58, 59, 60, 61, 62, 63, 22, 64, 65, 66, 24, 67, 68, 69, 70, 71, 72, 73, 74, 75, 76, 77, 78, 79, 80, 81, 82, 83, 13, 14, 15, 17, 84, 85, 86, 87, 88, 89, 90, 91, 92, 93, 94, 95, 96, 97, 20, 21, 23, 98, 99, 100, 101, 102, 103, 104, 105, 106, 107, 108, 109, 110, 111, 112, 113, 114, 115, 116, 117, 118, 119, 120, 121, 122, 123, 124, 125, 126, 127, 128, 129, 130, 131, 132, 133, 134, 135, 136, 137, 138, 139, 140, 141, 142, 143, 144, 145, 146, 147, 148, 149, 150, 151, 152, 153, 154, 155, 156, 157, 158, 159, 160, 161, 162, 237, 238, 239, 240, 241, 242, 243, 244, 245, 246, 247, 248, 249, 250, 251, 252, 253, 254, 255, 256, 257, 258, 259, 260, 261, 262, 263, 264, 265, 266, 267, 268, 269, 270] (by decide +kernel) (by decide +kernel)
theorem gL_areAlike_X6_bestClerk : GoodIn wsL_areAlike (wsV RL 74 RX6 yX6_bestClerk wsX6_bestClerk) := goodIn_app (goodIn_of _ (by decide +kernel)) ggL_areAlike_X6_bestClerk
theorem ggL_areAlike_X6_count : GoodIn wsL_areAlike wsX6_count := goodIn_r _ [166, 11, 167, 168, 169, 170, 171, 172, 173, 159, 160, 161, 16, 162, 44, 133, 174, 175, 176, 177, 18, 121, 178, 179, 180, 181, 122, 182, 183, 184, 185, 154, 186, 187, 188, 189, 123, 190, 191, 192, 193, 194, 195, 196, 197, 198, 199, 200, 201, 237, 238, 239, 240, 241, 242, 250, 251, 252, 253, 254, 255, 256, 259, 260, 261, 262, 263, 264, 265, 266, 267, 268, 269, 270, 243, 244, 245, 246, 247, 248, 249, 271, 272, 273, 274, 275] (by decide +kernel) (by decide +kernel)
theorem gL_areAlike_X6_count : GoodIn wsL_areAlike (wsV RL 15 RX6 yX6_count wsX6_count) := goodIn_app (goodIn_of _ (by decide +kernel)) ggL_areAlike_X6_count
theorem ggL_areAlike_X6_ifPassed : GoodIn wsL_areAlike wsX6_ifPassed := goodIn_r _ [205, 34, 11, 35, 36, 37, 16, 38, 39, 40, 41, 42, 43, 18, 44, 45, 46, 47, 48, 49, 50, 51, 52, 53, 54, 55, 56, 57, 58, 59, 60, 61, 62, 63, 22, 64, 65, 66, 24, 67, 68, 69, 70, 71, 72, 73, 74, 75, 76, 77, 78, 79, 80, 81, 82, 83, 84, 85, 86, 87, 88, 89, 90, 91, 92, 93, 94, 95, 96, 97, 20, 21, 23, 98, 99, 100, 101, 102, 103, 104, 105, 106, 107, 108, 109, 110, 111, 112, 113, 114, 115, 116, 117, 118, 119, 120, 121, 122, 123, 124, 125, 126, 127, 128, 129, 130, 131, 132, 133, 134, 135, 136, 137, 138, 139, 140, 14, 15, 17, 141, 142, 143, 144, 145, 146, 147, 148, 149, 150, 151, 152, 153, 154, 155, 156, 157, 158, 159, 160, 161, 162, 182, 183, 184, 185, 186, 187, 188, 189, 237, 238, 239, 240, 241, 242, 250, 251, 252, 253, 254, 255, 256, 243, 244, 245, 246, 247, 248, 249, 257, 258, 259, 260, 261, 262, 263, 264, 265, 266, 267, 268, 269, 270] (by decide +kernel) (by decide +kernel)
theorem gL_areAlike_X6_ifPassed : GoodIn wsL_areAlike (wsV RL 77 RX6 yX6_ifPassed wsX6_ifPassed) := goodIn_app (goodIn_of _ (by decide +kernel)) ggL_areAlike_X6_ifPassed
theorem ggL_areAlike_X6_person : GoodIn wsL_areAlike wsX6_person := goodIn_r _ [209, 11, 210, 211, 212, 213, 214, 215, 216, 217, 103, 104, 16, 105, 45, 44, 218, 137, 138, 70, 139, 75, 76, 74, 72, 219, 220, 221, 222, 135, 96, 136, 140, 14, 15, 17, 18, 223, 111, 112, 22, 113, 24, 65, 237, 238, 239, 240, 241, 242, 259, 260, 261, 262, 263, 264, 265, 266, 267, 268, 269, 270, 250, 251, 252, 253, 254, 255, 256, 243, 244, 245, 246, 247, 248, 249, 257, 258] (by decide +kernel) (by decide +kernel)
theorem gL_areAlike_X6_person : GoodIn wsL_areAlike (wsV RL 36 RX6 yX6_person wsX6_person) := goodIn_app (goodIn_of _ (by decide +kernel)) ggL_areAlike_X6_person
theorem ggL_areAlike_X6_windowOf : GoodIn wsL_areAlike wsX6_windowOf := goodIn_r _ [227, 11, 228, 29, 229, 12, 230, 231, 232, 13, 14, 15, 16, 17, 18, 19, 20, 21, 22, 23, 24, 237, 238, 239, 240, 241, 242, 243, 244, 245, 246, 247, 248, 249, 250, 251, 252, 253, 254, 255, 256, 257, 258] (by decide +kernel) (by decide +kernel)
theorem gL_areAlike_X6_windowOf : GoodIn wsL_areAlike (wsV RL 42 RX6 yX6_windowOf wsX6_windowOf) := goodIn_app (goodIn_of _ (by decide +kernel)) ggL_areAlike_X6_windowOf
theorem ggL_areAlike_X6_untilDone : GoodIn wsL_areAlike wsX6_untilDone := goodIn_r _ [236, 11, 210, 34, 217, 103, 104, 16, 105, 45, 44, 35, 36, 37, 38, 39, 40, 41, 42, 43, 18, 46, 47, 48, 49, 50, 51, 52, 53, 54, 55, 56, 57, 58, 59, 60, 61, 62, 63, 22, 64, 65, 66, 24, 67, 68, 69, 70, 71, 72, 73, 74, 75, 76, 77, 78, 79, 80, 81, 82, 83, 84, 85, 86, 87, 88, 89, 90, 91, 92, 93, 94, 95, 96, 97, 20, 21, 23, 98, 99, 100, 101, 102, 106, 107, 108, 109, 110, 111, 112, 113, 114, 115, 116, 117, 118, 119, 120, 121, 122, 123, 124, 125, 126, 127, 128, 129, 130, 131, 132, 133, 134, 135, 136, 137, 138, 139, 140, 14, 15, 17, 141, 142, 143, 144, 145, 146, 147, 148, 149, 150, 151, 152, 153, 154, 155, 156, 157, 158, 237, 238, 239, 240, 241, 242, 259, 260, 261, 262, 263, 264, 265, 266, 267, 268, 269, 270, 250, 251, 252, 253, 254, 255, 256, 243, 244, 245, 246, 247, 248, 249, 257, 258] (by decide +kernel) (by decide +kernel)
theorem gL_areAlike_X6_untilDone : GoodIn wsL_areAlike (wsV RL 80 RX6 yX6_untilDone wsX6_untilDone) := goodIn_app (goodIn_of _ (by decide +kernel)) ggL_areAlike_X6_untilDone
