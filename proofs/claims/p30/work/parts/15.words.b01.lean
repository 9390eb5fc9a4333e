set_option maxRecDepth 20000 in
theorem gr_X8_setFault_r4 : GoodIn wsL_law0 wsX8_setFault_r4 := goodIn_r _ [68, 313, 69, 70, 314, 315, 316, 40, 317, 74, 318, 75, 319, 320, 321, 44, 322, 79, 80, 81, 82, 83, 323, 324] (by decide +kernel) (by decide +kernel)
set_option maxRecDepth 20000 in
theorem gr_X8_setFault_r5 : GoodIn wsL_law0 wsX8_setFault_r5 := goodIn_r _ [325, 48, 326, 87, 327, 88] (by decide +kernel) (by decide +kernel)
theorem gb_X8_setFault : GoodIn wsL_law0 wsX8_setFault := goodIn_app gh_X8_setFault (goodIn_app (goodIn_app (goodIn_app (goodIn_app (goodIn_app (goodIn_app (goodIn_app (goodIn_app (goodIn_app gr_X8_setFault_r1 (goodIn_app gr_X8_setFault_r2 (goodIn_app gr_X8_setFault_r3 (goodIn_app gr_X8_setFault_r4 (gr_X8_setFault_r5))))) gp0X8) gp0X2) gp0X5) gp0X0) gp0X3) gp0X4) gp0X1) gp0X7)
theorem gh_X8_plan : GoodIn wsL_law0 [.code yX8_plan cX8_plan 3 (some .int)] := goodIn_r _ [556] (by decide +kernel) (by decide +kernel)
set_option maxRecDepth 20000 in
theorem gr_X8_plan_r1 : GoodIn wsL_law0 wsX8_plan_r1 := goodIn_r _ [115, 116, 14, 217, 218, 111, 112, 113, 2, 114, 117, 118, 119, 13, 120, 29, 557, 558, 559, 40, 560, 75, 405, 142] (by decide +kernel) (by decide +kernel)
set_option maxRecDepth 20000 in
theorem gr_X8_plan_r2 : GoodIn wsL_law0 wsX8_plan_r2 := goodIn_r _ [143, 144, 74, 121, 122, 123, 479, 480, 481, 482, 16, 17, 18, 291, 292, 293, 294, 28, 33, 37, 41, 45, 49, 50] (by decide +kernel) (by decide +kernel)
set_option maxRecDepth 20000 in
theorem gr_X8_plan_r3 : GoodIn wsL_law0 wsX8_plan_r3 := goodIn_r _ [55, 56, 57, 58, 51, 52, 295, 296, 297, 54, 298, 299, 140, 161, 300, 301, 302, 303, 304, 305, 306, 32, 307, 62] (by decide +kernel) (by decide +kernel)
set_option maxRecDepth 20000 in
theorem gr_X8_plan_r4 : GoodIn wsL_law0 wsX8_plan_r4 := goodIn_r _ [308, 63, 64, 309, 310, 311, 36, 312, 68, 313, 69, 70, 314, 315, 316, 317, 318, 319, 320, 321, 44, 322, 79, 80] (by decide +kernel) (by decide +kernel)
set_option maxRecDepth 20000 in
theorem gr_X8_plan_r5 : GoodIn wsL_law0 wsX8_plan_r5 := goodIn_r _ [81, 82, 83, 323, 324, 325, 48, 326, 87, 327, 88, 401, 402, 403, 404, 406, 349, 350, 351] (by decide +kernel) (by decide +kernel)
theorem gb_X8_plan : GoodIn wsL_law0 wsX8_plan := goodIn_app gh_X8_plan (goodIn_app (goodIn_app (goodIn_app (goodIn_app (goodIn_app (goodIn_app (goodIn_app (goodIn_app (goodIn_app gr_X8_plan_r1 (goodIn_app gr_X8_plan_r2 (goodIn_app gr_X8_plan_r3 (goodIn_app gr_X8_plan_r4 (gr_X8_plan_r5))))) gp0X8) gp0X2) gp0X4) gp0X5) gp0X0) gp0X3) gp0X1) gp0X7)
theorem gh_X8_unplan : GoodIn wsL_law0 [.code yX8_unplan cX8_unplan 3 (some .int)] := goodIn_r _ [564] (by decide +kernel) (by decide +kernel)
set_option maxRecDepth 20000 in
theorem gr_X8_unplan_r1 : GoodIn wsL_law0 wsX8_unplan_r1 := goodIn_r _ [426, 427, 14, 217, 111, 112, 113, 2, 114, 115, 116, 117, 118, 119, 13, 120, 29, 565, 142, 143, 40, 144, 75, 74] (by decide +kernel) (by decide +kernel)
set_option maxRecDepth 20000 in
theorem gr_X8_unplan_r2 : GoodIn wsL_law0 wsX8_unplan_r2 := goodIn_r _ [479, 480, 481, 482, 16, 17, 18, 291, 292, 293, 294, 28, 33, 37, 41, 45, 49, 50, 55, 56, 57, 58, 51, 52] (by decide +kernel) (by decide +kernel)
set_option maxRecDepth 20000 in
theorem gr_X8_unplan_r3 : GoodIn wsL_law0 wsX8_unplan_r3 := goodIn_r _ [295, 296, 297, 54, 298, 299, 140, 161, 300, 301, 302, 303, 304, 305, 306, 32, 307, 62, 308, 63, 64, 309, 310, 311] (by decide +kernel) (by decide +kernel)
set_option maxRecDepth 20000 in
theorem gr_X8_unplan_r4 : GoodIn wsL_law0 wsX8_unplan_r4 := goodIn_r _ [36, 312, 68, 313, 69, 70, 314, 315, 316, 317, 318, 319, 320, 321, 44, 322, 79, 80, 81, 82, 83, 323, 324, 325] (by decide +kernel) (by decide +kernel)
set_option maxRecDepth 20000 in
theorem gr_X8_unplan_r5 : GoodIn wsL_law0 wsX8_unplan_r5 := goodIn_r _ [48, 326, 87, 327, 88, 566, 349, 350, 351] (by decide +kernel) (by decide +kernel)
theorem gb_X8_unplan : GoodIn wsL_law0 wsX8_unplan := goodIn_app gh_X8_unplan (goodIn_app (goodIn_app (goodIn_app (goodIn_app (goodIn_app (goodIn_app (goodIn_app (goodIn_app (goodIn_app gr_X8_unplan_r1 (goodIn_app gr_X8_unplan_r2 (goodIn_app gr_X8_unplan_r3 (goodIn_app gr_X8_unplan_r4 (gr_X8_unplan_r5))))) gp0X8) gp0X2) gp0X4) gp0X5) gp0X0) gp0X3) gp0X1) gp0X7)
theorem gh_X8_orderBlade : GoodIn wsL_law0 [.code yX8_orderBlade cX8_orderBlade 2 (some .int)] := goodIn_r _ [570] (by decide +kernel) (by decide +kernel)
set_option maxRecDepth 20000 in
theorem gr_X8_orderBlade_r1 : GoodIn wsL_law0 wsX8_orderBlade_r1 := goodIn_r _ [426, 427, 14, 179, 547, 180, 111, 112, 113, 2, 114, 115, 116, 117, 118, 119, 13, 120, 29, 571, 572, 573, 36, 574] (by decide +kernel) (by decide +kernel)
set_option maxRecDepth 20000 in
theorem gr_X8_orderBlade_r2 : GoodIn wsL_law0 wsX8_orderBlade_r2 := goodIn_r _ [70, 479, 480, 481, 482, 16, 17, 18, 291, 292, 293, 294, 28, 33, 37, 41, 45, 49, 50, 55, 56, 57, 58, 51] (by decide +kernel) (by decide +kernel)
set_option maxRecDepth 20000 in
theorem gr_X8_orderBlade_r3 : GoodIn wsL_law0 wsX8_orderBlade_r3 := goodIn_r _ [52, 295, 296, 297, 54, 298, 299, 140, 161, 300, 301, 302, 303, 304, 305, 306, 32, 307, 62, 308, 63, 64, 309, 310] (by decide +kernel) (by decide +kernel)
set_option maxRecDepth 20000 in
theorem gr_X8_orderBlade_r4 : GoodIn wsL_law0 wsX8_orderBlade_r4 := goodIn_r _ [311, 312, 68, 313, 69, 314, 315, 316, 40, 317, 74, 318, 75, 319, 320, 321, 44, 322, 79, 80, 81, 82, 83, 323] (by decide +kernel) (by decide +kernel)
set_option maxRecDepth 20000 in
theorem gr_X8_orderBlade_r5 : GoodIn wsL_law0 wsX8_orderBlade_r5 := goodIn_r _ [324, 325, 48, 326, 87, 327, 88, 575, 576, 577, 578, 579, 580, 581, 582, 583] (by decide +kernel) (by decide +kernel)
theorem gb_X8_orderBlade : GoodIn wsL_law0 wsX8_orderBlade := goodIn_app gh_X8_orderBlade (goodIn_app (goodIn_app (goodIn_app (goodIn_app (goodIn_app (goodIn_app (goodIn_app (goodIn_app (goodIn_app gr_X8_orderBlade_r1 (goodIn_app gr_X8_orderBlade_r2 (goodIn_app gr_X8_orderBlade_r3 (goodIn_app gr_X8_orderBlade_r4 (gr_X8_orderBlade_r5))))) gp0X8) gp0X2) gp0X3) gp0X5) gp0X0) gp0X4) gp0X1) gp0X7)
theorem gh_X8_pass : GoodIn wsL_law0 [.code yX8_pass cX8_pass 2 (some .int)] := goodIn_r _ [596] (by decide +kernel) (by decide +kernel)
set_option maxRecDepth 20000 in
theorem gr_X8_pass_r1 : GoodIn wsL_law0 wsX8_pass_r1 := goodIn_r _ [109, 110, 426, 427, 14, 214, 121, 122, 2, 123, 479, 480, 481, 482, 16, 17, 18, 291, 292, 293, 13, 294, 29, 28] (by decide +kernel) (by decide +kernel)
set_option maxRecDepth 20000 in
theorem gr_X8_pass_r2 : GoodIn wsL_law0 wsX8_pass_r2 := goodIn_r _ [33, 37, 41, 45, 49, 50, 55, 56, 57, 58, 51, 52, 295, 296, 297, 54, 298, 299, 140, 161, 300, 301, 302, 303] (by decide +kernel) (by decide +kernel)
set_option maxRecDepth 20000 in
theorem gr_X8_pass_r3 : GoodIn wsL_law0 wsX8_pass_r3 := goodIn_r _ [304, 305, 306, 32, 307, 62, 308, 63, 64, 309, 310, 311, 36, 312, 68, 313, 69, 70, 314, 315, 316, 40, 317, 74] (by decide +kernel) (by decide +kernel)
set_option maxRecDepth 20000 in
theorem gr_X8_pass_r4 : GoodIn wsL_law0 wsX8_pass_r4 := goodIn_r _ [318, 75, 319, 320, 321, 44, 322, 79, 80, 81, 82, 83, 323, 324, 325, 48, 326, 87, 327, 88, 407, 408, 409, 410] (by decide +kernel) (by decide +kernel)
set_option maxRecDepth 20000 in
theorem gr_X8_pass_r5 : GoodIn wsL_law0 wsX8_pass_r5 := goodIn_r _ [411, 329, 330, 331, 332, 333, 334, 335, 336, 163, 164, 165, 337, 338, 339, 340, 341, 342, 131, 343, 228, 229, 230, 344] (by decide +kernel) (by decide +kernel)
