/-! ### the law's words in the tables (b) -/
set_option maxRecDepth 20000 in
theorem lr_12 : GoodIn lw_tbl wsL_law0_r12 := goodIn_p _ [1031, 755, 758, 1035] (by decide +kernel) (by decide +kernel)
set_option maxRecDepth 20000 in
theorem lr_13 : GoodIn lw_tbl wsL_law0_r13 := goodIn_p _ [1038, 1041, 771, 775, 379] (by decide +kernel) (by decide +kernel)
set_option maxRecDepth 20000 in
theorem lr_14 : GoodIn lw_tbl wsL_law0_r14 := goodIn_p _ [375, 383, 1045, 1049, 1053, 783] (by decide +kernel) (by decide +kernel)
set_option maxRecDepth 20000 in
theorem lr_15 : GoodIn lw_tbl wsL_law0_r15 := goodIn_p _ [1057, 793, 797, 802] (by decide +kernel) (by decide +kernel)
set_option maxRecDepth 20000 in
theorem lr_16 : GoodIn lw_tbl wsL_law0_r16 := goodIn_p _ [806, 1061, 814, 387, 391] (by decide +kernel) (by decide +kernel)
set_option maxRecDepth 20000 in
theorem lr_17 : GoodIn lw_tbl wsL_law0_r17 := goodIn_p _ [395, 398, 402, 406, 410] (by decide +kernel) (by decide +kernel)
set_option maxRecDepth 20000 in
theorem lr_18 : GoodIn lw_tbl wsL_law0_r18 := goodIn_p _ [419, 423, 427, 430, 433] (by decide +kernel) (by decide +kernel)
set_option maxRecDepth 20000 in
theorem lr_19 : GoodIn lw_tbl wsL_law0_r19 := goodIn_p _ [438, 442, 447, 451, 455, 459] (by decide +kernel) (by decide +kernel)
set_option maxRecDepth 20000 in
theorem lr_20 : GoodIn lw_tbl wsL_law0_r20 := goodIn_p _ [463, 467, 471, 476, 480] (by decide +kernel) (by decide +kernel)
set_option maxRecDepth 20000 in
theorem lr_21 : GoodIn lw_tbl wsL_law0_r21 := goodIn_p _ [484, 489, 493, 1065, 1069, 1073] (by decide +kernel) (by decide +kernel)
set_option maxRecDepth 20000 in
theorem lr_22 : GoodIn lw_tbl wsL_law0_r22 := goodIn_p _ [1077, 1081, 1085, 1089, 1093, 1097] (by decide +kernel) (by decide +kernel)
