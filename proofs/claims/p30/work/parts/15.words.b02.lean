set_option maxRecDepth 20000 in
theorem gr_X8_pass_r6 : GoodIn wsL_law0 wsX8_pass_r6 := goodIn_r _ [345, 346, 347, 135, 118, 119, 120, 348, 349, 350, 351, 352, 353, 354, 355, 356, 128, 357, 358, 359, 360, 361, 254, 255] (by decide +kernel) (by decide +kernel)
set_option maxRecDepth 20000 in
theorem gr_X8_pass_r7 : GoodIn wsL_law0 wsX8_pass_r7 := goodIn_r _ [256, 257, 258, 259, 260, 261, 262, 263, 264, 265, 266, 267, 362, 363, 364, 365, 366, 145, 146, 147, 148, 149, 150, 151] (by decide +kernel) (by decide +kernel)
set_option maxRecDepth 20000 in
theorem gr_X8_pass_r8 : GoodIn wsL_law0 wsX8_pass_r8 := goodIn_r _ [152, 153, 154, 155, 156, 136, 137, 138, 139, 367, 368, 369, 370, 371, 372, 373, 374, 133, 134, 157, 158, 159, 160, 162] (by decide +kernel) (by decide +kernel)
set_option maxRecDepth 20000 in
theorem gr_X8_pass_r9 : GoodIn wsL_law0 wsX8_pass_r9 := goodIn_r _ [375, 376, 377, 378, 379, 132, 380, 381, 382, 383, 384, 385, 386, 387, 141, 142, 143, 144, 388, 389, 390, 391, 392, 393] (by decide +kernel) (by decide +kernel)
set_option maxRecDepth 20000 in
theorem gr_X8_pass_r10 : GoodIn wsL_law0 wsX8_pass_r10 := goodIn_r _ [394, 395] (by decide +kernel) (by decide +kernel)
theorem gb_X8_pass : GoodIn wsL_law0 wsX8_pass := goodIn_app gh_X8_pass (goodIn_app (goodIn_app (goodIn_app (goodIn_app (goodIn_app (goodIn_app (goodIn_app (goodIn_app (goodIn_app gr_X8_pass_r1 (goodIn_app gr_X8_pass_r2 (goodIn_app gr_X8_pass_r3 (goodIn_app gr_X8_pass_r4 (goodIn_app gr_X8_pass_r5 (goodIn_app gr_X8_pass_r6 (goodIn_app gr_X8_pass_r7 (goodIn_app gr_X8_pass_r8 (goodIn_app gr_X8_pass_r9 (gr_X8_pass_r10)))))))))) gp0X8) gp0X2) gp0X5) gp0X0) gp0X3) gp0X4) gp0X1) gp0X7)
theorem gh_L_sum : GoodIn wsL_law0 [.code yL_sum cL_sum 5 (some .int)] := goodIn_r _ [245] (by decide +kernel) (by decide +kernel)
theorem gb_L_sum : GoodIn wsL_law0 wsL_sum := goodIn_app gh_L_sum gself0
theorem gh_L_same : GoodIn wsL_law0 [.code yL_same cL_same 3 none] := goodIn_r _ [602] (by decide +kernel) (by decide +kernel)
theorem gb_L_same : GoodIn wsL_law0 wsL_same := goodIn_app gh_L_same gself0
theorem gh_X8_doneIn : GoodIn wsL_law0 [.code yX8_doneIn cX8_doneIn 2 (some .int)] := goodIn_r _ [290] (by decide +kernel) (by decide +kernel)
set_option maxRecDepth 20000 in
theorem gr_X8_doneIn_r1 : GoodIn wsL_law0 wsX8_doneIn_r1 := goodIn_r _ [15, 14, 217, 218, 291, 292, 293, 13, 294, 29, 28, 33, 37, 41, 45, 49, 50, 55, 56, 57, 58, 51, 52, 295] (by decide +kernel) (by decide +kernel)
set_option maxRecDepth 20000 in
theorem gr_X8_doneIn_r2 : GoodIn wsL_law0 wsX8_doneIn_r2 := goodIn_r _ [296, 297, 54, 298, 299, 140, 161, 300, 301, 302, 303, 304, 305, 306, 32, 307, 62, 308, 63, 64, 309, 310, 311, 36] (by decide +kernel) (by decide +kernel)
set_option maxRecDepth 20000 in
theorem gr_X8_doneIn_r3 : GoodIn wsL_law0 wsX8_doneIn_r3 := goodIn_r _ [312, 68, 313, 69, 70, 314, 315, 316, 40, 317, 74, 318, 75, 319, 320, 321, 44, 322, 79, 80, 81, 82, 83, 323] (by decide +kernel) (by decide +kernel)
set_option maxRecDepth 20000 in
theorem gr_X8_doneIn_r4 : GoodIn wsL_law0 wsX8_doneIn_r4 := goodIn_r _ [324, 325, 48, 326, 87, 327, 88, 328, 329, 330, 331, 332, 333, 334, 335, 336, 163, 164, 165, 337, 338, 339, 340, 341] (by decide +kernel) (by decide +kernel)
set_option maxRecDepth 20000 in
theorem gr_X8_doneIn_r5 : GoodIn wsL_law0 wsX8_doneIn_r5 := goodIn_r _ [342, 131, 343, 228, 229, 230, 344, 345, 346, 347, 135, 118, 119, 120, 348, 349, 350, 351, 352, 353, 354, 355, 356, 128] (by decide +kernel) (by decide +kernel)
set_option maxRecDepth 20000 in
theorem gr_X8_doneIn_r6 : GoodIn wsL_law0 wsX8_doneIn_r6 := goodIn_r _ [357, 358, 359, 360, 361, 254, 255, 256, 257, 258, 259, 260, 261, 262, 263, 264, 265, 266, 267, 362, 363, 364, 365, 366] (by decide +kernel) (by decide +kernel)
set_option maxRecDepth 20000 in
theorem gr_X8_doneIn_r7 : GoodIn wsL_law0 wsX8_doneIn_r7 := goodIn_r _ [145, 146, 147, 148, 149, 150, 151, 152, 153, 154, 155, 156, 136, 137, 138, 139, 367, 368, 369, 370, 371, 372, 373, 374] (by decide +kernel) (by decide +kernel)
set_option maxRecDepth 20000 in
theorem gr_X8_doneIn_r8 : GoodIn wsL_law0 wsX8_doneIn_r8 := goodIn_r _ [133, 134, 157, 158, 159, 160, 162, 375, 376, 377, 378, 379, 132, 380, 381, 382, 383, 384, 385, 386, 387, 141, 142, 143] (by decide +kernel) (by decide +kernel)
set_option maxRecDepth 20000 in
theorem gr_X8_doneIn_r9 : GoodIn wsL_law0 wsX8_doneIn_r9 := goodIn_r _ [144, 388, 389, 390, 391, 392, 393, 394, 395] (by decide +kernel) (by decide +kernel)
theorem gb_X8_doneIn : GoodIn wsL_law0 wsX8_doneIn := goodIn_app gh_X8_doneIn (goodIn_app (goodIn_app (goodIn_app (goodIn_app (goodIn_app (goodIn_app (goodIn_app (goodIn_app (goodIn_app gr_X8_doneIn_r1 (goodIn_app gr_X8_doneIn_r2 (goodIn_app gr_X8_doneIn_r3 (goodIn_app gr_X8_doneIn_r4 (goodIn_app gr_X8_doneIn_r5 (goodIn_app gr_X8_doneIn_r6 (goodIn_app gr_X8_doneIn_r7 (goodIn_app gr_X8_doneIn_r8 (gr_X8_doneIn_r9))))))))) gp0X8) gp0X2) gp0X4) gp0X5) gp0X0) gp0X3) gp0X1) gp0X7)
theorem gh_X8_ifPassed : GoodIn wsL_law0 [.code yX8_ifPassed cX8_ifPassed 3 (some .int)] := goodIn_r _ [606] (by decide +kernel) (by decide +kernel)
set_option maxRecDepth 20000 in
theorem gr_X8_ifPassed_r1 : GoodIn wsL_law0 wsX8_ifPassed_r1 := goodIn_r _ [109, 110, 15, 14, 121, 122, 2, 123, 291, 292, 293, 13, 294, 29, 28, 33, 37, 41, 45, 49, 50, 55, 56, 57] (by decide +kernel) (by decide +kernel)
set_option maxRecDepth 20000 in
theorem gr_X8_ifPassed_r2 : GoodIn wsL_law0 wsX8_ifPassed_r2 := goodIn_r _ [58, 51, 52, 295, 296, 297, 54, 298, 299, 140, 161, 300, 301, 302, 303, 304, 305, 306, 32, 307, 62, 308, 63, 64] (by decide +kernel) (by decide +kernel)
set_option maxRecDepth 20000 in
theorem gr_X8_ifPassed_r3 : GoodIn wsL_law0 wsX8_ifPassed_r3 := goodIn_r _ [309, 310, 311, 36, 312, 68, 313, 69, 70, 314, 315, 316, 40, 317, 74, 318, 75, 319, 320, 321, 44, 322, 79, 80] (by decide +kernel) (by decide +kernel)
set_option maxRecDepth 20000 in
theorem gr_X8_ifPassed_r4 : GoodIn wsL_law0 wsX8_ifPassed_r4 := goodIn_r _ [81, 82, 83, 323, 324, 325, 48, 326, 87, 327, 88, 407, 408, 409, 410, 411, 329, 330, 331, 332, 333, 334, 335, 336] (by decide +kernel) (by decide +kernel)
set_option maxRecDepth 20000 in
theorem gr_X8_ifPassed_r5 : GoodIn wsL_law0 wsX8_ifPassed_r5 := goodIn_r _ [163, 164, 165, 337, 338, 339, 340, 341, 342, 131, 343, 228, 229, 230, 344, 345, 346, 347, 135, 118, 119, 120, 348, 349] (by decide +kernel) (by decide +kernel)
set_option maxRecDepth 20000 in
theorem gr_X8_ifPassed_r6 : GoodIn wsL_law0 wsX8_ifPassed_r6 := goodIn_r _ [350, 351, 352, 353, 354, 355, 356, 128, 357, 358, 359, 360, 361, 254, 255, 256, 257, 258, 259, 260, 261, 262, 263, 264] (by decide +kernel) (by decide +kernel)
set_option maxRecDepth 20000 in
theorem gr_X8_ifPassed_r7 : GoodIn wsL_law0 wsX8_ifPassed_r7 := goodIn_r _ [265, 266, 267, 362, 363, 364, 365, 366, 145, 146, 147, 148, 149, 150, 151, 152, 153, 154, 155, 156, 136, 137, 138, 139] (by decide +kernel) (by decide +kernel)
set_option maxRecDepth 20000 in
theorem gr_X8_ifPassed_r8 : GoodIn wsL_law0 wsX8_ifPassed_r8 := goodIn_r _ [367, 368, 369, 370, 371, 372, 373, 374, 133, 134, 157, 158, 159, 160, 162, 375, 376, 377, 378, 379, 132, 380, 381, 382] (by decide +kernel) (by decide +kernel)
