theorem inlX0 : ∀ w ∈ wsX00, w ∈ wsL_law := fun _ h => List.mem_append_left _ (List.mem_append_left _ (List.mem_append_left _ (List.mem_append_left _ (List.mem_append_left _ (List.mem_append_right _ h)))))
theorem inlX1 : ∀ w ∈ wsX10, w ∈ wsL_law := fun _ h => List.mem_append_left _ (List.mem_append_right _ h)
theorem inlX2 : ∀ w ∈ wsX20, w ∈ wsL_law := fun _ h => List.mem_append_left _ (List.mem_append_left _ (List.mem_append_left _ (List.mem_append_left _ (List.mem_append_left _ (List.mem_append_left _ (List.mem_append_right _ h))))))
theorem inlX3 : ∀ w ∈ wsX30, w ∈ wsL_law := fun _ h => List.mem_append_left _ (List.mem_append_left _ (List.mem_append_left _ (List.mem_append_left _ (List.mem_append_right _ h))))
theorem inlX4 : ∀ w ∈ wsX40, w ∈ wsL_law := fun _ h => List.mem_append_left _ (List.mem_append_left _ (List.mem_append_right _ h))
theorem inlX5 : ∀ w ∈ wsX50, w ∈ wsL_law := fun _ h => List.mem_append_left _ (List.mem_append_left _ (List.mem_append_left _ (List.mem_append_right _ h)))
theorem inlX6 : ∀ w ∈ wsX60, w ∈ wsL_law := fun _ h => List.mem_append_left _ (List.mem_append_left _ (List.mem_append_left _ (List.mem_append_left _ (List.mem_append_left _ (List.mem_append_left _ (List.mem_append_left _ (List.mem_append_right _ h)))))))
theorem gs_wsX60 : GoodIn wsL_law wsX60 := goodIn_sub inlX6 (by decide +kernel)
theorem gs_wsX20 : GoodIn wsL_law wsX20 := goodIn_sub inlX2 (by decide +kernel)
theorem gs_wsX40 : GoodIn wsL_law wsX40 := goodIn_sub inlX4 (by decide +kernel)
theorem gs_wsX50 : GoodIn wsL_law wsX50 := goodIn_sub inlX5 (by decide +kernel)
theorem gs_wsX30 : GoodIn wsL_law wsX30 := goodIn_sub inlX3 (by decide +kernel)
theorem gs_wsX00 : GoodIn wsL_law wsX00 := goodIn_sub inlX0 (by decide +kernel)
theorem gs_wsX10 : GoodIn wsL_law wsX10 := goodIn_sub inlX1 (by decide +kernel)
set_option maxRecDepth 20000 in
theorem gs_wsL_isStep_r1 : GoodIn wsL_law wsL_isStep_r1 := goodIn_r _ [143, 144, 83, 145, 146, 104, 105, 106, 2, 107, 12, 108, 109, 110, 111, 112, 24, 17, 113, 114, 115, 11, 116, 39] (by decide +kernel) (by decide +kernel)
set_option maxRecDepth 20000 in
theorem gs_wsL_isStep_r2 : GoodIn wsL_law wsL_isStep_r2 := goodIn_r _ [117, 118, 119, 120, 121, 37, 122, 123, 124, 125, 126, 127, 128, 129, 130, 131, 132, 133, 134, 135, 136, 137, 95, 96] (by decide +kernel) (by decide +kernel)
set_option maxRecDepth 20000 in
theorem gs_wsL_isStep_r3 : GoodIn wsL_law wsL_isStep_r3 := goodIn_r _ [97, 23, 98, 99, 138, 139, 140, 16, 141, 142, 296, 297, 298, 299, 300, 301, 302, 180, 181, 182, 183, 184, 74, 185] (by decide +kernel) (by decide +kernel)
set_option maxRecDepth 20000 in
theorem gs_wsL_isStep_r4 : GoodIn wsL_law wsL_isStep_r4 := goodIn_r _ [186, 187, 188, 189, 190, 191, 192, 35, 193, 194, 195, 196, 197, 198, 199, 200, 201, 202, 203, 41, 204, 48, 49, 55] (by decide +kernel) (by decide +kernel)
set_option maxRecDepth 20000 in
theorem gs_wsL_isStep_r5 : GoodIn wsL_law wsL_isStep_r5 := goodIn_r _ [205, 206, 53, 54, 207, 208, 209, 52, 210, 60, 211, 212, 213, 214, 215, 43, 216, 65, 217, 218, 66, 219, 220, 221] (by decide +kernel) (by decide +kernel)
set_option maxRecDepth 20000 in
theorem gs_wsL_isStep_r6 : GoodIn wsL_law wsL_isStep_r6 := goodIn_r _ [222, 223, 224, 67, 225, 303, 304, 305, 306, 307, 308, 309, 310, 311, 312, 313, 314, 262, 263, 264, 315, 316, 317, 318] (by decide +kernel) (by decide +kernel)
set_option maxRecDepth 20000 in
theorem gs_wsL_isStep_r7 : GoodIn wsL_law wsL_isStep_r7 := goodIn_r _ [319, 320, 321, 322, 323, 324, 325, 326, 327, 328, 329, 330, 331, 332, 333, 334, 335, 336, 236, 237, 269, 270, 271, 272] (by decide +kernel) (by decide +kernel)
set_option maxRecDepth 20000 in
theorem gs_wsL_isStep_r8 : GoodIn wsL_law wsL_isStep_r8 := goodIn_r _ [273, 274, 275, 276, 277, 278, 279, 280, 281, 282, 283, 284, 258, 259, 260, 285, 286, 287, 288, 255, 256, 257, 261, 289] (by decide +kernel) (by decide +kernel)
set_option maxRecDepth 20000 in
theorem gs_wsL_isStep_r9 : GoodIn wsL_law wsL_isStep_r9 := goodIn_r _ [290, 291, 292, 337, 338, 339, 340, 341, 342, 343, 344, 345, 346, 347, 348, 349, 350, 351, 352, 353, 354, 355, 356, 357] (by decide +kernel) (by decide +kernel)
set_option maxRecDepth 20000 in
theorem gs_wsL_isStep_r10 : GoodIn wsL_law wsL_isStep_r10 := goodIn_r _ [18, 20, 358, 359, 360, 361, 362, 86, 87, 88, 89, 90, 91, 92, 93, 94, 100, 101, 102, 103, 147, 148, 149, 150] (by decide +kernel) (by decide +kernel)
set_option maxRecDepth 20000 in
theorem gs_wsL_isStep_r11 : GoodIn wsL_law wsL_isStep_r11 := goodIn_r _ [151, 152, 153, 154, 155, 156, 157, 158, 159, 160, 80, 161, 162, 163, 164, 165, 166, 167, 168, 169, 170, 171, 172, 173] (by decide +kernel) (by decide +kernel)
set_option maxRecDepth 20000 in
theorem gs_wsL_isStep_r12 : GoodIn wsL_law wsL_isStep_r12 := goodIn_r _ [174, 175, 176, 177, 178, 179, 226, 227, 228, 229, 230, 231, 232, 233, 234, 235, 238, 239, 240, 241, 242, 243, 244, 245] (by decide +kernel) (by decide +kernel)
set_option maxRecDepth 20000 in
theorem gs_wsL_isStep_r13 : GoodIn wsL_law wsL_isStep_r13 := goodIn_r _ [246, 247, 248, 249, 250, 251, 252, 253, 254, 265, 266, 267, 268, 363, 364, 365, 366, 367, 368, 369, 370, 371, 372, 373] (by decide +kernel) (by decide +kernel)
set_option maxRecDepth 20000 in
theorem gs_wsL_isStep_r14 : GoodIn wsL_law wsL_isStep_r14 := goodIn_r _ [374, 375, 376, 377, 378, 379, 380, 381, 382, 383, 384, 385, 386, 387, 388, 389, 390, 391, 392, 393, 394, 395, 396, 397] (by decide +kernel) (by decide +kernel)
set_option maxRecDepth 20000 in
theorem gs_wsL_isStep_r15 : GoodIn wsL_law wsL_isStep_r15 := goodIn_r _ [398, 399, 400, 401] (by decide +kernel) (by decide +kernel)
theorem ggL_law_L_isStep : GoodIn wsL_law wsL_isStep := goodIn_app (a := [Cond.code yL_isStep cL_isStep 12 (some .boolean)]) (lwi_one 295 rfl rfl) (goodIn_app (goodIn_app (goodIn_app (goodIn_app (goodIn_app (goodIn_app (goodIn_app (goodIn_app gs_wsL_isStep_r1 (goodIn_app gs_wsL_isStep_r2 (goodIn_app gs_wsL_isStep_r3 (goodIn_app gs_wsL_isStep_r4 (goodIn_app gs_wsL_isStep_r5 (goodIn_app gs_wsL_isStep_r6 (goodIn_app gs_wsL_isStep_r7 (goodIn_app gs_wsL_isStep_r8 (goodIn_app gs_wsL_isStep_r9 (goodIn_app gs_wsL_isStep_r10 (goodIn_app gs_wsL_isStep_r11 (goodIn_app gs_wsL_isStep_r12 (goodIn_app gs_wsL_isStep_r13 (goodIn_app gs_wsL_isStep_r14 gs_wsL_isStep_r15)))))))))))))) gs_wsX60) gs_wsX20) gs_wsX40) gs_wsX50) gs_wsX30) gs_wsX00) gs_wsX10)
