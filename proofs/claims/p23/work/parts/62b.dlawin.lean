set_option maxRecDepth 20000 in
theorem lwi_wsL_law_r1 : GoodIn lw_tbl wsL_law_r1 := goodIn_r _ [18, 19, 9, 20, 21, 22, 23, 24, 25, 26, 27, 10, 220, 221, 186, 187, 14, 222, 223, 218, 224, 205, 206, 15] (by decide +kernel) (by decide +kernel)
set_option maxRecDepth 20000 in
theorem lwi_wsL_law_r2 : GoodIn lw_tbl wsL_law_r2 := goodIn_r _ [225, 28, 29, 30, 31, 34, 35, 36, 37, 38, 40, 159, 41, 161, 43, 162, 45, 11, 100, 13, 46, 47, 48, 49] (by decide +kernel) (by decide +kernel)
set_option maxRecDepth 20000 in
theorem lwi_wsL_law_r3 : GoodIn lw_tbl wsL_law_r3 := goodIn_r _ [64, 67, 50, 51, 12, 79, 82, 70, 53, 54, 55, 63, 56, 101, 102, 103, 104, 107, 111, 130, 105, 188, 189, 190] (by decide +kernel) (by decide +kernel)
set_option maxRecDepth 20000 in
theorem lwi_wsL_law_r4 : GoodIn lw_tbl wsL_law_r4 := goodIn_r _ [191, 192, 195, 194, 208, 209, 210, 219, 211, 239, 240, 8, 241, 242, 243, 244, 245, 290, 305, 246, 247, 248, 249, 250] (by decide +kernel) (by decide +kernel)
set_option maxRecDepth 20000 in
theorem lwi_wsL_law_r5 : GoodIn lw_tbl wsL_law_r5 := goodIn_r _ [251, 252, 253, 212, 254, 255, 256, 257, 258, 259, 260, 261, 160, 166, 164, 168, 170, 262, 263, 264, 265, 112, 266, 267] (by decide +kernel) (by decide +kernel)
set_option maxRecDepth 20000 in
theorem lwi_wsL_law_r6 : GoodIn lw_tbl wsL_law_r6 := goodIn_r _ [268, 269, 72, 270, 271, 272, 273, 118, 274, 275, 276, 277, 123, 278, 279, 280, 281, 129, 282, 283, 284, 285, 197, 286] (by decide +kernel) (by decide +kernel)
set_option maxRecDepth 20000 in
theorem lwi_wsL_law_r7 : GoodIn lw_tbl wsL_law_r7 := goodIn_r _ [287, 288, 289, 291, 292, 293, 294, 295, 296, 297, 298, 299, 300, 301, 302, 303, 304, 306, 307, 308, 309, 310, 311, 312] (by decide +kernel) (by decide +kernel)
set_option maxRecDepth 20000 in
theorem lwi_wsL_law_r8 : GoodIn lw_tbl wsL_law_r8 := goodIn_r _ [313, 314, 315, 316, 317, 319, 0, 320, 321, 322, 323, 324, 325, 326, 327, 328, 196, 350, 351, 17, 352, 329, 330, 331] (by decide +kernel) (by decide +kernel)
set_option maxRecDepth 20000 in
theorem lwi_wsL_law_r9 : GoodIn lw_tbl wsL_law_r9 := goodIn_r _ [332, 333, 335, 334, 16, 163, 165, 167, 169, 336, 337, 338, 339, 73, 76, 340, 341, 342, 343, 344, 57, 345, 346, 347] (by decide +kernel) (by decide +kernel)
set_option maxRecDepth 20000 in
theorem lwi_wsL_law_r10 : GoodIn lw_tbl wsL_law_r10 := goodIn_r _ [348, 349, 108, 114, 117, 120, 122, 125, 127, 132, 353, 354, 355, 356, 357, 358, 359, 360, 361, 362, 363, 364, 365, 367] (by decide +kernel) (by decide +kernel)
set_option maxRecDepth 20000 in
theorem lwi_wsL_law_r11 : GoodIn lw_tbl wsL_law_r11 := goodIn_r _ [1, 368, 369, 370, 371, 372, 373, 374, 375, 376, 377, 379, 2, 380, 126, 81, 106, 381, 382, 383, 384, 385, 386, 387] (by decide +kernel) (by decide +kernel)
set_option maxRecDepth 20000 in
theorem lwi_wsL_law_r12 : GoodIn lw_tbl wsL_law_r12 := goodIn_r _ [388, 389, 390, 391, 392, 393, 394, 395, 396, 113, 119, 115, 109, 124, 128, 131, 397, 398, 399, 400, 401, 402, 403, 404] (by decide +kernel) (by decide +kernel)
set_option maxRecDepth 20000 in
theorem lwi_wsL_law_r14 : GoodIn lw_tbl wsL_law_r14 := goodIn_r _ [74, 77, 426, 427, 428, 429, 430, 431, 432, 433, 434, 435, 436, 437, 438, 66, 439, 440, 441, 442, 443, 444, 445, 446] (by decide +kernel) (by decide +kernel)
set_option maxRecDepth 20000 in
theorem lwi_wsL_law_r15 : GoodIn lw_tbl wsL_law_r15 := goodIn_r _ [447, 448, 449, 450, 451, 452, 453, 454, 455, 456, 457, 458, 459, 460, 461, 462, 463, 464, 465, 466, 467, 468, 469, 470] (by decide +kernel) (by decide +kernel)
set_option maxRecDepth 20000 in
theorem lwi_wsL_law_r16 : GoodIn lw_tbl wsL_law_r16 := goodIn_r _ [471, 472, 473, 474, 475, 476, 477, 478, 479, 480, 481, 133, 482, 484, 3, 485, 84, 121, 486, 487, 488, 489, 490, 491] (by decide +kernel) (by decide +kernel)
set_option maxRecDepth 20000 in
theorem lwi_wsL_law_r18 : GoodIn lw_tbl wsL_law_r18 := goodIn_r _ [508, 509, 510, 511, 512, 513, 514, 515, 516, 518, 7, 519, 520, 521, 522, 523, 524, 525, 526, 527] (by decide +kernel) (by decide +kernel)
set_option maxRecDepth 20000 in
theorem lwi_wsX60 : GoodIn lw_tbl wsX60 := goodIn_p _ [] (by decide +kernel) (by decide +kernel)
set_option maxRecDepth 20000 in
theorem lwi_wsX20 : GoodIn lw_tbl wsX20 := goodIn_p _ [] (by decide +kernel) (by decide +kernel)
set_option maxRecDepth 20000 in
theorem lwi_wsX00 : GoodIn lw_tbl wsX00 := goodIn_p _ [] (by decide +kernel) (by decide +kernel)
set_option maxRecDepth 20000 in
theorem lwi_wsX30 : GoodIn lw_tbl wsX30 := goodIn_p _ [] (by decide +kernel) (by decide +kernel)
set_option maxRecDepth 20000 in
theorem lwi_wsX50 : GoodIn lw_tbl wsX50 := goodIn_p _ [] (by decide +kernel) (by decide +kernel)
set_option maxRecDepth 20000 in
theorem lwi_wsX40 : GoodIn lw_tbl wsX40 := goodIn_p _ [] (by decide +kernel) (by decide +kernel)
set_option maxRecDepth 20000 in
theorem lwi_wsX10 : GoodIn lw_tbl wsX10 := goodIn_p _ [] (by decide +kernel) (by decide +kernel)
theorem wsL_law_in : ∀ w ∈ wsL_law, w ∈ lw_tbl := fun w h => (show GoodIn lw_tbl wsL_law from (goodIn_app (goodIn_app (goodIn_app (goodIn_app (goodIn_app (goodIn_app (goodIn_app (goodIn_app (goodIn_app lwi_wsL_law_r1 (goodIn_app lwi_wsL_law_r2 (goodIn_app lwi_wsL_law_r3 (goodIn_app lwi_wsL_law_r4 (goodIn_app lwi_wsL_law_r5 (goodIn_app lwi_wsL_law_r6 (goodIn_app lwi_wsL_law_r7 (goodIn_app lwi_wsL_law_r8 (goodIn_app lwi_wsL_law_r9 (goodIn_app lwi_wsL_law_r10 (goodIn_app lwi_wsL_law_r11 (goodIn_app lwi_wsL_law_r12 (goodIn_app lwi_wsL_law_r13 (goodIn_app lwi_wsL_law_r14 (goodIn_app lwi_wsL_law_r15 (goodIn_app lwi_wsL_law_r16 (goodIn_app lwi_wsL_law_r17 lwi_wsL_law_r18))))))))))))))))) lwi_wsX60) lwi_wsX20) lwi_wsX00) lwi_wsX30) lwi_wsX50) lwi_wsX40) lwi_wsX10) (fun _ h => absurd h List.not_mem_nil))) w h |>.1
