theorem gh_L_off : GoodIn wsL_law0 [.code yL_off cL_off 3 none] := goodIn_r _ [552] (by decide +kernel) (by decide +kernel)
theorem gb_L_off : GoodIn wsL_law0 wsL_off := goodIn_app gh_L_off gself0
theorem gh_L_spot : GoodIn wsL_law0 [.code yL_spot cL_spot 3 (some .int)] := goodIn_r _ [168] (by decide +kernel) (by decide +kernel)
theorem gb_L_spot : GoodIn wsL_law0 wsL_spot := goodIn_app gh_L_spot gself0
theorem gh_L_at : GoodIn wsL_law0 [.code yL_at cL_at 2 (some .int)] := goodIn_r _ [248] (by decide +kernel) (by decide +kernel)
theorem gb_L_at : GoodIn wsL_law0 wsL_at := goodIn_app gh_L_at gself0
theorem gh_L_hour : GoodIn wsL_law0 [.code yL_hour cL_hour 16 (some .int)] := goodIn_r _ [586] (by decide +kernel) (by decide +kernel)
theorem gb_L_hour : GoodIn wsL_law0 wsL_hour := goodIn_app gh_L_hour gself0
theorem gh_L_winds : GoodIn wsL_law0 [.code yL_winds cL_winds 9 (some .boolean)] := goodIn_r _ [421] (by decide +kernel) (by decide +kernel)
theorem gb_L_winds : GoodIn wsL_law0 wsL_winds := goodIn_app gh_L_winds gself0
theorem gh_L_bog : GoodIn wsL_law0 [.code yL_bog cL_bog 8 (some .boolean)] := goodIn_r _ [494] (by decide +kernel) (by decide +kernel)
theorem gb_L_bog : GoodIn wsL_law0 wsL_bog := goodIn_app gh_L_bog gself0
theorem gh_X8_set : GoodIn wsL_law0 [.code yX8_set cX8_set 4 (some .int)] := goodIn_r _ [524] (by decide +kernel) (by decide +kernel)
set_option maxRecDepth 20000 in
theorem gr_X8_set_r1 : GoodIn wsL_law0 wsX8_set_r1 := goodIn_r _ [109, 110, 525, 526, 14, 200, 201, 202, 2, 203, 115, 116, 121, 122, 123, 479, 480, 481, 482, 16, 17, 18, 291, 292] (by decide +kernel) (by decide +kernel)
set_option maxRecDepth 20000 in
theorem gr_X8_set_r2 : GoodIn wsL_law0 wsX8_set_r2 := goodIn_r _ [293, 13, 294, 29, 28, 33, 37, 41, 45, 49, 50, 55, 56, 57, 58, 51, 52, 295, 296, 297, 54, 298, 299, 140] (by decide +kernel) (by decide +kernel)
set_option maxRecDepth 20000 in
theorem gr_X8_set_r3 : GoodIn wsL_law0 wsX8_set_r3 := goodIn_r _ [161, 300, 301, 302, 303, 304, 305, 306, 32, 307, 62, 308, 63, 64, 309, 310, 311, 36, 312, 68, 313, 69, 70, 314] (by decide +kernel) (by decide +kernel)
set_option maxRecDepth 20000 in
theorem gr_X8_set_r4 : GoodIn wsL_law0 wsX8_set_r4 := goodIn_r _ [315, 316, 40, 317, 74, 318, 75, 319, 320, 321, 44, 322, 79, 80, 81, 82, 83, 323, 324, 325, 48, 326, 87, 327] (by decide +kernel) (by decide +kernel)
set_option maxRecDepth 20000 in
theorem gr_X8_set_r5 : GoodIn wsL_law0 wsX8_set_r5 := goodIn_r _ [88] (by decide +kernel) (by decide +kernel)
theorem gb_X8_set : GoodIn wsL_law0 wsX8_set := goodIn_app gh_X8_set (goodIn_app (goodIn_app (goodIn_app (goodIn_app (goodIn_app (goodIn_app (goodIn_app (goodIn_app (goodIn_app gr_X8_set_r1 (goodIn_app gr_X8_set_r2 (goodIn_app gr_X8_set_r3 (goodIn_app gr_X8_set_r4 (gr_X8_set_r5))))) gp0X8) gp0X2) gp0X5) gp0X0) gp0X3) gp0X4) gp0X1) gp0X7)
theorem gh_X8_addTurbine : GoodIn wsL_law0 [.code yX8_addTurbine cX8_addTurbine 4 (some .int)] := goodIn_r _ [530] (by decide +kernel) (by decide +kernel)
set_option maxRecDepth 20000 in
theorem gr_X8_addTurbine_r1 : GoodIn wsL_law0 wsX8_addTurbine_r1 := goodIn_r _ [109, 110, 426, 427, 14, 213, 121, 122, 2, 123, 531, 532, 533, 13, 534, 29, 28, 128, 479, 480, 481, 482, 16, 17] (by decide +kernel) (by decide +kernel)
set_option maxRecDepth 20000 in
theorem gr_X8_addTurbine_r2 : GoodIn wsL_law0 wsX8_addTurbine_r2 := goodIn_r _ [18, 291, 292, 293, 294, 33, 37, 41, 45, 49, 50, 55, 56, 57, 58, 51, 52, 295, 296, 297, 54, 298, 299, 140] (by decide +kernel) (by decide +kernel)
set_option maxRecDepth 20000 in
theorem gr_X8_addTurbine_r3 : GoodIn wsL_law0 wsX8_addTurbine_r3 := goodIn_r _ [161, 300, 301, 302, 303, 304, 305, 306, 32, 307, 62, 308, 63, 64, 309, 310, 311, 36, 312, 68, 313, 69, 70, 314] (by decide +kernel) (by decide +kernel)
set_option maxRecDepth 20000 in
theorem gr_X8_addTurbine_r4 : GoodIn wsL_law0 wsX8_addTurbine_r4 := goodIn_r _ [315, 316, 40, 317, 74, 318, 75, 319, 320, 321, 44, 322, 79, 80, 81, 82, 83, 323, 324, 325, 48, 326, 87, 327] (by decide +kernel) (by decide +kernel)
set_option maxRecDepth 20000 in
theorem gr_X8_addTurbine_r5 : GoodIn wsL_law0 wsX8_addTurbine_r5 := goodIn_r _ [88, 535, 536, 537, 538, 539, 540, 541, 542] (by decide +kernel) (by decide +kernel)
theorem gb_X8_addTurbine : GoodIn wsL_law0 wsX8_addTurbine := goodIn_app gh_X8_addTurbine (goodIn_app (goodIn_app (goodIn_app (goodIn_app (goodIn_app (goodIn_app (goodIn_app (goodIn_app (goodIn_app gr_X8_addTurbine_r1 (goodIn_app gr_X8_addTurbine_r2 (goodIn_app gr_X8_addTurbine_r3 (goodIn_app gr_X8_addTurbine_r4 (gr_X8_addTurbine_r5))))) gp0X8) gp0X2) gp0X5) gp0X0) gp0X3) gp0X4) gp0X1) gp0X7)
theorem gh_X8_setFault : GoodIn wsL_law0 [.code yX8_setFault cX8_setFault 5 (some .int)] := goodIn_r _ [546] (by decide +kernel) (by decide +kernel)
set_option maxRecDepth 20000 in
theorem gr_X8_setFault_r1 : GoodIn wsL_law0 wsX8_setFault_r1 := goodIn_r _ [109, 110, 14, 547, 548, 549, 111, 112, 113, 2, 114, 115, 116, 117, 118, 119, 13, 120, 29, 121, 122, 123, 479, 480] (by decide +kernel) (by decide +kernel)
set_option maxRecDepth 20000 in
theorem gr_X8_setFault_r2 : GoodIn wsL_law0 wsX8_setFault_r2 := goodIn_r _ [481, 482, 16, 17, 18, 291, 292, 293, 294, 28, 33, 37, 41, 45, 49, 50, 55, 56, 57, 58, 51, 52, 295, 296] (by decide +kernel) (by decide +kernel)
set_option maxRecDepth 20000 in
theorem gr_X8_setFault_r3 : GoodIn wsL_law0 wsX8_setFault_r3 := goodIn_r _ [297, 54, 298, 299, 140, 161, 300, 301, 302, 303, 304, 305, 306, 32, 307, 62, 308, 63, 64, 309, 310, 311, 36, 312] (by decide +kernel) (by decide +kernel)
