set_option maxRecDepth 20000 in
theorem lwi_wsL_law_r1 : GoodIn lw_tbl wsL_law_r1 := goodIn_p _ [49, 52] (by decide +kernel) (by decide +kernel)
set_option maxRecDepth 20000 in
theorem lwi_wsL_law_r2 : GoodIn lw_tbl wsL_law_r2 := goodIn_p _ [57] (by decide +kernel) (by decide +kernel)
set_option maxRecDepth 20000 in
theorem lwi_wsL_law_r3 : GoodIn lw_tbl wsL_law_r3 := goodIn_p _ [75, 81, 130] (by decide +kernel) (by decide +kernel)
set_option maxRecDepth 20000 in
theorem lwi_wsL_law_r4 : GoodIn lw_tbl wsL_law_r4 := goodIn_p _ [217, 236, 552] (by decide +kernel) (by decide +kernel)
set_option maxRecDepth 20000 in
theorem lwi_wsL_law_r5 : GoodIn lw_tbl wsL_law_r5 := goodIn_p _ [269, 278, 302, 282] (by decide +kernel) (by decide +kernel)
set_option maxRecDepth 20000 in
theorem lwi_wsL_law_r6 : GoodIn lw_tbl wsL_law_r6 := goodIn_p _ [289, 293, 298] (by decide +kernel) (by decide +kernel)
set_option maxRecDepth 20000 in
theorem lwi_wsL_law_r7 : GoodIn lw_tbl wsL_law_r7 := goodIn_p _ [594, 597, 601] (by decide +kernel) (by decide +kernel)
set_option maxRecDepth 20000 in
theorem lwi_wsL_law_r8 : GoodIn lw_tbl wsL_law_r8 := goodIn_p _ [607, 306, 310, 314, 611, 614] (by decide +kernel) (by decide +kernel)
set_option maxRecDepth 20000 in
theorem lwi_wsL_law_r9 : GoodIn lw_tbl wsL_law_r9 := goodIn_p _ [619, 318, 623, 322, 325] (by decide +kernel) (by decide +kernel)
set_option maxRecDepth 20000 in
theorem lwi_wsL_law_r10 : GoodIn lw_tbl wsL_law_r10 := goodIn_p _ [628, 329, 333, 336, 340] (by decide +kernel) (by decide +kernel)
set_option maxRecDepth 20000 in
theorem lwi_wsL_law_r11 : GoodIn lw_tbl wsL_law_r11 := goodIn_p _ [344, 348, 353, 358, 362, 366] (by decide +kernel) (by decide +kernel)
set_option maxRecDepth 20000 in
theorem lwi_wsL_law_r12 : GoodIn lw_tbl wsL_law_r12 := goodIn_p _ [370, 374, 379, 383, 784] (by decide +kernel) (by decide +kernel)
set_option maxRecDepth 20000 in
theorem lwi_wsL_law_r13 : GoodIn lw_tbl wsL_law_r13 := goodIn_p _ [774, 778, 789, 652, 697] (by decide +kernel) (by decide +kernel)
set_option maxRecDepth 20000 in
theorem lwi_wsL_law_r14 : GoodIn lw_tbl wsL_law_r14 := goodIn_p _ [387, 391, 395, 399, 403] (by decide +kernel) (by decide +kernel)
set_option maxRecDepth 20000 in
theorem lwi_wsL_law_r15 : GoodIn lw_tbl wsL_law_r15 := goodIn_p _ [407, 632, 636, 640, 644, 648] (by decide +kernel) (by decide +kernel)
set_option maxRecDepth 20000 in
theorem lwi_wsL_law_r16 : GoodIn lw_tbl wsL_law_r16 := goodIn_p _ [411, 415, 419, 423, 427] (by decide +kernel) (by decide +kernel)
set_option maxRecDepth 20000 in
theorem lwi_wsL_law_r17 : GoodIn lw_tbl wsL_law_r17 := goodIn_p _ [431, 436, 440, 444] (by decide +kernel) (by decide +kernel)
set_option maxRecDepth 20000 in
theorem lwi_wsL_law_r18 : GoodIn lw_tbl wsL_law_r18 := goodIn_p _ [656, 661, 665, 669, 673] (by decide +kernel) (by decide +kernel)
set_option maxRecDepth 20000 in
theorem lwi_wsL_law_r19 : GoodIn lw_tbl wsL_law_r19 := goodIn_p _ [677, 681, 685, 689, 693, 701] (by decide +kernel) (by decide +kernel)
set_option maxRecDepth 20000 in
theorem lwi_wsL_law_r20 : GoodIn lw_tbl wsL_law_r20 := goodIn_p _ [705, 449, 454, 709] (by decide +kernel) (by decide +kernel)
set_option maxRecDepth 20000 in
theorem lwi_wsL_law_r21 : GoodIn lw_tbl wsL_law_r21 := goodIn_p _ [713, 459, 717, 464, 468] (by decide +kernel) (by decide +kernel)
set_option maxRecDepth 20000 in
theorem lwi_wsL_law_r22 : GoodIn lw_tbl wsL_law_r22 := goodIn_p _ [472, 476, 480, 484, 488, 721] (by decide +kernel) (by decide +kernel)
set_option maxRecDepth 20000 in
theorem lwi_wsL_law_r23 : GoodIn lw_tbl wsL_law_r23 := goodIn_p _ [725, 492, 730, 734, 738] (by decide +kernel) (by decide +kernel)
set_option maxRecDepth 20000 in
theorem lwi_wsL_law_r24 : GoodIn lw_tbl wsL_law_r24 := goodIn_p _ [497, 742, 747, 501, 505, 751] (by decide +kernel) (by decide +kernel)
set_option maxRecDepth 20000 in
theorem lwi_wsL_law_r25 : GoodIn lw_tbl wsL_law_r25 := goodIn_p _ [509, 756, 513, 516, 523] (by decide +kernel) (by decide +kernel)
set_option maxRecDepth 20000 in
theorem lwi_wsL_law_r26 : GoodIn lw_tbl wsL_law_r26 := goodIn_p _ [760, 763, 527, 770, 531, 535] (by decide +kernel) (by decide +kernel)
set_option maxRecDepth 20000 in
theorem lwi_wsL_law_r27 : GoodIn lw_tbl wsL_law_r27 := goodIn_p _ [539, 793, 543, 797, 800, 547] (by decide +kernel) (by decide +kernel)
set_option maxRecDepth 20000 in
theorem lwi_wsL_law_r28 : GoodIn lw_tbl wsL_law_r28 := goodIn_p _ [804] (by decide +kernel) (by decide +kernel)
set_option maxRecDepth 20000 in
theorem lwi_wsX60 : GoodIn lw_tbl wsX60 := goodIn_p _ [] (by decide +kernel) (by decide +kernel)
set_option maxRecDepth 20000 in
theorem lwi_wsX70 : GoodIn lw_tbl wsX70 := goodIn_p _ [] (by decide +kernel) (by decide +kernel)
set_option maxRecDepth 20000 in
theorem lwi_wsX20 : GoodIn lw_tbl wsX20 := goodIn_p _ [] (by decide +kernel) (by decide +kernel)
set_option maxRecDepth 20000 in
theorem lwi_wsX00 : GoodIn lw_tbl wsX00 := goodIn_p _ [] (by decide +kernel) (by decide +kernel)
set_option maxRecDepth 20000 in
theorem lwi_wsX30 : GoodIn lw_tbl wsX30 := goodIn_p _ [] (by decide +kernel) (by decide +kernel)
set_option maxRecDepth 20000 in
theorem lwi_wsX50 : GoodIn lw_tbl wsX50 := goodIn_p _ [] (by decide +kernel) (by decide +kernel)
set_option maxRecDepth 20000 in
theorem lwi_wsX40 : GoodIn lw_tbl wsX40 := goodIn_p _ [] (by decide +kernel) (by decide +kernel)
set_option maxRecDepth 20000 in
theorem lwi_wsX10 : GoodIn lw_tbl wsX10 := goodIn_p _ [] (by decide +kernel) (by decide +kernel)
theorem wsL_law_in : ∀ w ∈ wsL_law, w ∈ lw_tbl := fun w h => (show GoodIn lw_tbl wsL_law from (goodIn_app (goodIn_app (goodIn_app (goodIn_app (goodIn_app (goodIn_app (goodIn_app (goodIn_app (goodIn_app (goodIn_app lwi_wsL_law_r1 (goodIn_app lwi_wsL_law_r2 (goodIn_app lwi_wsL_law_r3 (goodIn_app lwi_wsL_law_r4 (goodIn_app lwi_wsL_law_r5 (goodIn_app lwi_wsL_law_r6 (goodIn_app lwi_wsL_law_r7 (goodIn_app lwi_wsL_law_r8 (goodIn_app lwi_wsL_law_r9 (goodIn_app lwi_wsL_law_r10 (goodIn_app lwi_wsL_law_r11 (goodIn_app lwi_wsL_law_r12 (goodIn_app lwi_wsL_law_r13 (goodIn_app lwi_wsL_law_r14 (goodIn_app lwi_wsL_law_r15 (goodIn_app lwi_wsL_law_r16 (goodIn_app lwi_wsL_law_r17 (goodIn_app lwi_wsL_law_r18 (goodIn_app lwi_wsL_law_r19 (goodIn_app lwi_wsL_law_r20 (goodIn_app lwi_wsL_law_r21 (goodIn_app lwi_wsL_law_r22 (goodIn_app lwi_wsL_law_r23 (goodIn_app lwi_wsL_law_r24 (goodIn_app lwi_wsL_law_r25 (goodIn_app lwi_wsL_law_r26 (goodIn_app lwi_wsL_law_r27 lwi_wsL_law_r28))))))))))))))))))))))))))) lwi_wsX60) lwi_wsX70) lwi_wsX20) lwi_wsX00) lwi_wsX30) lwi_wsX50) lwi_wsX40) lwi_wsX10) (fun _ h => absurd h List.not_mem_nil))) w h |>.1
