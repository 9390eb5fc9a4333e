/-! ### the law's words in the tables (a) -/
set_option maxRecDepth 20000 in
theorem lr_1 : GoodIn lw_tbl wsL_law0_r1 := goodIn_p _ [79, 82] (by decide +kernel) (by decide +kernel)
set_option maxRecDepth 20000 in
theorem lr_2 : GoodIn lw_tbl wsL_law0_r2 := goodIn_p _ [87] (by decide +kernel) (by decide +kernel)
set_option maxRecDepth 20000 in
theorem lr_3 : GoodIn lw_tbl wsL_law0_r3 := goodIn_p _ [95, 115] (by decide +kernel) (by decide +kernel)
set_option maxRecDepth 20000 in
theorem lr_4 : GoodIn lw_tbl wsL_law0_r4 := goodIn_p _ [134, 150, 178, 192] (by decide +kernel) (by decide +kernel)
set_option maxRecDepth 20000 in
theorem lr_5 : GoodIn lw_tbl wsL_law0_r5 := goodIn_p _ [276, 953, 584] (by decide +kernel) (by decide +kernel)
set_option maxRecDepth 20000 in
theorem lr_6 : GoodIn lw_tbl wsL_law0_r6 := goodIn_p _ [587, 659, 679, 343] (by decide +kernel) (by decide +kernel)
set_option maxRecDepth 20000 in
theorem lr_7 : GoodIn lw_tbl wsL_law0_r7 := goodIn_p _ [347, 351, 356, 361] (by decide +kernel) (by decide +kernel)
set_option maxRecDepth 20000 in
theorem lr_8 : GoodIn lw_tbl wsL_law0_r8 := goodIn_p _ [366, 370, 683, 687, 1008, 1011] (by decide +kernel) (by decide +kernel)
set_option maxRecDepth 20000 in
theorem lr_9 : GoodIn lw_tbl wsL_law0_r9 := goodIn_p _ [1015, 1019, 1004, 695] (by decide +kernel) (by decide +kernel)
set_option maxRecDepth 20000 in
theorem lr_10 : GoodIn lw_tbl wsL_law0_r10 := goodIn_p _ [699, 414, 1023, 1027] (by decide +kernel) (by decide +kernel)
set_option maxRecDepth 20000 in
theorem lr_11 : GoodIn lw_tbl wsL_law0_r11 := goodIn_p _ [724, 729, 733, 738, 743, 747] (by decide +kernel) (by decide +kernel)
