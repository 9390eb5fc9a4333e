/-! ### the law's words in the tables (c) -/
set_option maxRecDepth 20000 in
theorem lr_23 : GoodIn lw_tbl wsL_law0_r23 := goodIn_p _ [1101, 1105, 1109, 823, 828] (by decide +kernel) (by decide +kernel)
set_option maxRecDepth 20000 in
theorem lr_24 : GoodIn lw_tbl wsL_law0_r24 := goodIn_p _ [833, 1113, 309, 1117, 313] (by decide +kernel) (by decide +kernel)
set_option maxRecDepth 20000 in
theorem lr_25 : GoodIn lw_tbl wsL_law0_r25 := goodIn_p _ [317, 320, 323, 326, 329, 332, 335, 1121] (by decide +kernel) (by decide +kernel)
set_option maxRecDepth 20000 in
theorem lr_26 : GoodIn lw_tbl wsL_law0_r26 := goodIn_p _ [1125, 1129, 1133, 1137] (by decide +kernel) (by decide +kernel)
set_option maxRecDepth 20000 in
theorem lr_27 : GoodIn lw_tbl wsL_law0_r27 := goodIn_p _ [1141, 1145, 1149, 1153, 841] (by decide +kernel) (by decide +kernel)
set_option maxRecDepth 20000 in
theorem lr_28 : GoodIn lw_tbl wsL_law0_r28 := goodIn_p _ [845, 850, 854, 858, 863, 867] (by decide +kernel) (by decide +kernel)
set_option maxRecDepth 20000 in
theorem lr_29 : GoodIn lw_tbl wsL_law0_r29 := goodIn_p _ [1157, 874, 1161, 882] (by decide +kernel) (by decide +kernel)
set_option maxRecDepth 20000 in
theorem lr_30 : GoodIn lw_tbl wsL_law0_r30 := goodIn_p _ [550, 1165, 1169, 1173, 890] (by decide +kernel) (by decide +kernel)
set_option maxRecDepth 20000 in
theorem lr_31 : GoodIn lw_tbl wsL_law0_r31 := goodIn_p _ [1177, 899, 1181, 907] (by decide +kernel) (by decide +kernel)
set_option maxRecDepth 20000 in
theorem lr_32 : GoodIn lw_tbl wsL_law0_r32 := goodIn_p _ [1185, 915, 528, 532] (by decide +kernel) (by decide +kernel)
