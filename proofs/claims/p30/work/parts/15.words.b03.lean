set_option maxRecDepth 20000 in
theorem gr_X8_ifPassed_r9 : GoodIn wsL_law0 wsX8_ifPassed_r9 := goodIn_r _ [383, 384, 385, 386, 387, 141, 142, 143, 144, 388, 389, 390, 391, 392, 393, 394, 395, 607, 608, 609, 610, 611, 236, 237] (by decide +kernel) (by decide +kernel)
set_option maxRecDepth 20000 in
theorem gr_X8_ifPassed_r10 : GoodIn wsL_law0 wsX8_ifPassed_r10 := goodIn_r _ [238, 612, 240, 241, 242, 613, 223, 224, 225] (by decide +kernel) (by decide +kernel)
theorem gb_X8_ifPassed : GoodIn wsL_law0 wsX8_ifPassed := goodIn_app gh_X8_ifPassed (goodIn_app (goodIn_app (goodIn_app (goodIn_app (goodIn_app (goodIn_app (goodIn_app (goodIn_app (goodIn_app gr_X8_ifPassed_r1 (goodIn_app gr_X8_ifPassed_r2 (goodIn_app gr_X8_ifPassed_r3 (goodIn_app gr_X8_ifPassed_r4 (goodIn_app gr_X8_ifPassed_r5 (goodIn_app gr_X8_ifPassed_r6 (goodIn_app gr_X8_ifPassed_r7 (goodIn_app gr_X8_ifPassed_r8 (goodIn_app gr_X8_ifPassed_r9 (gr_X8_ifPassed_r10)))))))))) gp0X8) gp0X2) gp0X5) gp0X0) gp0X3) gp0X4) gp0X1) gp0X7)
theorem gh_X8_bestFirst : GoodIn wsL_law0 [.code yX8_bestFirst cX8_bestFirst 6 (some .int)] := goodIn_r _ [399] (by decide +kernel) (by decide +kernel)
set_option maxRecDepth 20000 in
theorem gr_X8_bestFirst_r1 : GoodIn wsL_law0 wsX8_bestFirst_r1 := goodIn_r _ [14, 217, 218, 400, 15, 291, 292, 293, 13, 294, 29, 28, 33, 37, 41, 45, 49, 50, 55, 56, 57, 58, 51, 52] (by decide +kernel) (by decide +kernel)
set_option maxRecDepth 20000 in
theorem gr_X8_bestFirst_r2 : GoodIn wsL_law0 wsX8_bestFirst_r2 := goodIn_r _ [295, 296, 297, 54, 298, 299, 140, 161, 300, 301, 302, 303, 304, 305, 306, 32, 307, 62, 308, 63, 64, 309, 310, 311] (by decide +kernel) (by decide +kernel)
set_option maxRecDepth 20000 in
theorem gr_X8_bestFirst_r3 : GoodIn wsL_law0 wsX8_bestFirst_r3 := goodIn_r _ [36, 312, 68, 313, 69, 70, 314, 315, 316, 40, 317, 74, 318, 75, 319, 320, 321, 44, 322, 79, 80, 81, 82, 83] (by decide +kernel) (by decide +kernel)
set_option maxRecDepth 20000 in
theorem gr_X8_bestFirst_r4 : GoodIn wsL_law0 wsX8_bestFirst_r4 := goodIn_r _ [323, 324, 325, 48, 326, 87, 327, 88, 401, 402, 403, 404, 405, 142, 143, 144, 406, 349, 350, 351, 407, 408, 409, 410] (by decide +kernel) (by decide +kernel)
set_option maxRecDepth 20000 in
theorem gr_X8_bestFirst_r5 : GoodIn wsL_law0 wsX8_bestFirst_r5 := goodIn_r _ [411, 329, 330, 331, 332, 333, 334, 335, 336, 163, 164, 165, 337, 338, 339, 340, 341, 342, 131, 343, 228, 229, 230, 344] (by decide +kernel) (by decide +kernel)
set_option maxRecDepth 20000 in
theorem gr_X8_bestFirst_r6 : GoodIn wsL_law0 wsX8_bestFirst_r6 := goodIn_r _ [345, 346, 347, 135, 118, 119, 120, 348, 352, 353, 354, 355, 356, 128, 357, 358, 359, 360, 361, 254, 255, 256, 257, 258] (by decide +kernel) (by decide +kernel)
set_option maxRecDepth 20000 in
theorem gr_X8_bestFirst_r7 : GoodIn wsL_law0 wsX8_bestFirst_r7 := goodIn_r _ [259, 260, 261, 262, 263, 264, 265, 266, 267, 362, 363, 364, 365, 366, 145, 146, 147, 148, 149, 150, 151, 152, 153, 154] (by decide +kernel) (by decide +kernel)
set_option maxRecDepth 20000 in
theorem gr_X8_bestFirst_r8 : GoodIn wsL_law0 wsX8_bestFirst_r8 := goodIn_r _ [155, 156, 136, 137, 138, 139, 367, 368, 369, 370, 371, 372, 373, 374, 133, 134, 157, 158, 159, 160, 162, 375, 376, 377] (by decide +kernel) (by decide +kernel)
set_option maxRecDepth 20000 in
theorem gr_X8_bestFirst_r9 : GoodIn wsL_law0 wsX8_bestFirst_r9 := goodIn_r _ [378, 379, 132, 380, 381, 382, 383, 384, 385, 386, 387, 141, 388, 389, 390, 391, 392, 393, 394, 395] (by decide +kernel) (by decide +kernel)
theorem gb_X8_bestFirst : GoodIn wsL_law0 wsX8_bestFirst := goodIn_app gh_X8_bestFirst (goodIn_app (goodIn_app (goodIn_app (goodIn_app (goodIn_app (goodIn_app (goodIn_app (goodIn_app (goodIn_app gr_X8_bestFirst_r1 (goodIn_app gr_X8_bestFirst_r2 (goodIn_app gr_X8_bestFirst_r3 (goodIn_app gr_X8_bestFirst_r4 (goodIn_app gr_X8_bestFirst_r5 (goodIn_app gr_X8_bestFirst_r6 (goodIn_app gr_X8_bestFirst_r7 (goodIn_app gr_X8_bestFirst_r8 (gr_X8_bestFirst_r9))))))))) gp0X8) gp0X2) gp0X4) gp0X5) gp0X0) gp0X3) gp0X1) gp0X7)
theorem gh_X8_window : GoodIn wsL_law0 [.code yX8_window cX8_window 3 (some .int)] := goodIn_r _ [617] (by decide +kernel) (by decide +kernel)
set_option maxRecDepth 20000 in
theorem gr_X8_window_r1 : GoodIn wsL_law0 wsX8_window_r1 := goodIn_r _ [109, 110, 14, 111, 112, 113, 2, 114, 115, 116, 117, 118, 119, 13, 120, 29, 121, 122, 123, 618, 619, 620, 621, 28] (by decide +kernel) (by decide +kernel)
set_option maxRecDepth 20000 in
theorem gr_X8_window_r2 : GoodIn wsL_law0 wsX8_window_r2 := goodIn_r _ [50, 49, 52, 135, 136, 137, 138, 54, 139, 140, 153, 154, 155, 48, 156, 88, 87] (by decide +kernel) (by decide +kernel)
theorem gb_X8_window : GoodIn wsL_law0 wsX8_window := goodIn_app gh_X8_window (goodIn_app (goodIn_app (goodIn_app (goodIn_app (goodIn_app gr_X8_window_r1 (gr_X8_window_r2)) gp0X8) gp0X2) gp0X5) gp0X7)
theorem gh_L_window : GoodIn wsL_law0 [.code yL_window cL_window 8 (some .int)] := goodIn_r _ [624] (by decide +kernel) (by decide +kernel)
theorem gb_L_window : GoodIn wsL_law0 wsL_window := goodIn_app gh_L_window gself0
theorem gh_X8_setBog : GoodIn wsL_law0 [.code yX8_setBog cX8_setBog 3 (some .int)] := goodIn_r _ [498] (by decide +kernel) (by decide +kernel)
set_option maxRecDepth 20000 in
theorem gr_X8_setBog_r1 : GoodIn wsL_law0 wsX8_setBog_r1 := goodIn_r _ [109, 110, 426, 427, 14, 187, 188, 121, 122, 2, 123, 499, 500, 501, 32, 502, 64, 503, 504, 505, 506, 62, 479, 480] (by decide +kernel) (by decide +kernel)
set_option maxRecDepth 20000 in
theorem gr_X8_setBog_r2 : GoodIn wsL_law0 wsX8_setBog_r2 := goodIn_r _ [481, 482, 16, 17, 18, 291, 292, 293, 13, 294, 29, 28, 33, 37, 41, 45, 49, 50, 55, 56, 57, 58, 51, 52] (by decide +kernel) (by decide +kernel)
set_option maxRecDepth 20000 in
theorem gr_X8_setBog_r3 : GoodIn wsL_law0 wsX8_setBog_r3 := goodIn_r _ [295, 296, 297, 54, 298, 299, 140, 161, 300, 301, 302, 303, 304, 305, 306, 307, 308, 63, 309, 310, 311, 36, 312, 68] (by decide +kernel) (by decide +kernel)
set_option maxRecDepth 20000 in
theorem gr_X8_setBog_r4 : GoodIn wsL_law0 wsX8_setBog_r4 := goodIn_r _ [313, 69, 70, 314, 315, 316, 40, 317, 74, 318, 75, 319, 320, 321, 44, 322, 79, 80, 81, 82, 83, 323, 324, 325] (by decide +kernel) (by decide +kernel)
set_option maxRecDepth 20000 in
theorem gr_X8_setBog_r5 : GoodIn wsL_law0 wsX8_setBog_r5 := goodIn_r _ [48, 326, 87, 327, 88, 507, 508, 509, 510, 511, 512, 513, 514, 515, 516, 517, 518, 519, 520] (by decide +kernel) (by decide +kernel)
theorem gb_X8_setBog : GoodIn wsL_law0 wsX8_setBog := goodIn_app gh_X8_setBog (goodIn_app (goodIn_app (goodIn_app (goodIn_app (goodIn_app (goodIn_app (goodIn_app (goodIn_app (goodIn_app gr_X8_setBog_r1 (goodIn_app gr_X8_setBog_r2 (goodIn_app gr_X8_setBog_r3 (goodIn_app gr_X8_setBog_r4 (gr_X8_setBog_r5))))) gp0X8) gp0X2) gp0X0) gp0X5) gp0X3) gp0X4) gp0X1) gp0X7)
theorem gh_L_ready : GoodIn wsL_law0 [.code yL_ready cL_ready 4 (some .int)] := goodIn_r _ [592] (by decide +kernel) (by decide +kernel)
theorem gb_L_ready : GoodIn wsL_law0 wsL_ready := goodIn_app gh_L_ready gself0
theorem gh_L_wind : GoodIn wsL_law0 [.code yL_wind cL_wind 2 (some .int)] := goodIn_r _ [171] (by decide +kernel) (by decide +kernel)
