/-! ### the law's words in the tables (d) -/
set_option maxRecDepth 20000 in
theorem lr_33 : GoodIn lw_tbl wsL_law0_r33 := goodIn_p _ [538, 515, 519, 1189, 1193] (by decide +kernel) (by decide +kernel)
set_option maxRecDepth 20000 in
theorem lr_34 : GoodIn lw_tbl wsL_law0_r34 := goodIn_p _ [1197, 1201, 923, 1205, 930] (by decide +kernel) (by decide +kernel)
set_option maxRecDepth 20000 in
theorem lr_35 : GoodIn lw_tbl wsL_law0_r35 := goodIn_p _ [1209, 939, 558, 1213] (by decide +kernel) (by decide +kernel)
set_option maxRecDepth 20000 in
theorem lr_36 : GoodIn lw_tbl wsL_law0_r36 := goodIn_p _ [1217, 1221, 1225, 1229, 339, 1233] (by decide +kernel) (by decide +kernel)
set_option maxRecDepth 20000 in
theorem lr_37 : GoodIn lw_tbl wsL_law0_r37 := goodIn_p _ [1237, 947, 554, 1241, 1245] (by decide +kernel) (by decide +kernel)
set_option maxRecDepth 20000 in
theorem lr_38 : GoodIn lw_tbl wsL_law0_r38 := goodIn_p _ [497, 1249, 1253, 502, 506] (by decide +kernel) (by decide +kernel)
set_option maxRecDepth 20000 in
theorem lr_39 : GoodIn lw_tbl wsL_law0_r39 := goodIn_p _ [1257, 1261, 511, 1266, 1270, 523] (by decide +kernel) (by decide +kernel)
set_option maxRecDepth 20000 in
theorem lr_40 : GoodIn lw_tbl wsL_law0_r40 := goodIn_p _ [541, 546, 567, 572] (by decide +kernel) (by decide +kernel)
set_option maxRecDepth 20000 in
theorem lr_41 : GoodIn lw_tbl wsL_law0_r41 := goodIn_p _ [1274, 1279, 1283, 1286] (by decide +kernel) (by decide +kernel)
set_option maxRecDepth 20000 in
theorem lr_42 : GoodIn lw_tbl wsL_law0_r42 := goodIn_p _ [1293, 1296] (by decide +kernel) (by decide +kernel)
