theorem gb_X8_claims : GoodIn wsL_law0 wsX8_claims := goodIn_app gh_X8_claims (goodIn_app (goodIn_app (gr_X8_claims) gp0X8) gp0X2)
set_option maxRecDepth 100000 in
theorem gh_X8_setting : GoodIn wsL_law0 [.code yX8_setting cX8_setting 2 (some .int)] := goodIn_1 199 (by rfl) (by decide +kernel)
theorem gr_X8_setting : GoodIn wsL_law0 ([.fieldLink RX8 10 "CraneCampaign" "farm" "LCraneCampaign$Farm;", .fieldLink RX8 122 "CraneCampaign$Farm" "settings" "[I", .methodLink RX8 110 yX8_requireSetting, .static yX8_requireSetting, .initialized RX8, .code yX8_requireSetting cX8_requireSetting 1 none, .classLink RX8 134 "java/lang/IndexOutOfBoundsException", .initialized "java/lang/IndexOutOfBoundsException", .methodLink RX8 37 yX8_isWithin, .static yX8_isWithin, .code yX8_isWithin cX8_isWithin 3 (some .boolean)]) := goodIn_r _ [14, 200, 201, 202, 2, 203, 115, 116, 121, 122, 123] (by decide +kernel) (by decide +kernel)
theorem gb_X8_setting : GoodIn wsL_law0 wsX8_setting := goodIn_app gh_X8_setting (goodIn_app (goodIn_app (gr_X8_setting) gp0X8) gp0X2)
set_option maxRecDepth 100000 in
theorem gh_X8_way : GoodIn wsL_law0 [.code yX8_way cX8_way 3 (some .int)] := goodIn_1 252 (by rfl) (by decide +kernel)
set_option maxRecDepth 20000 in
theorem gr_X8_way_r1 : GoodIn wsL_law0 wsX8_way_r1 := goodIn_r _ [109, 110, 14, 121, 122, 2, 123, 253, 254, 255, 13, 256, 50, 257, 258, 164, 259, 260, 261, 262, 33, 263, 163, 165] (by decide +kernel) (by decide +kernel)
set_option maxRecDepth 20000 in
theorem gr_X8_way_r2 : GoodIn wsL_law0 wsX8_way_r2 := goodIn_r _ [264, 265, 266, 32, 267, 64, 62, 63] (by decide +kernel) (by decide +kernel)
theorem gb_X8_way : GoodIn wsL_law0 wsX8_way := goodIn_app gh_X8_way (goodIn_app (goodIn_app (goodIn_app (goodIn_app gr_X8_way_r1 (gr_X8_way_r2)) gp0X8) gp0X2) gp0X0)
set_option maxRecDepth 100000 in
theorem gh_X8_meanWind : GoodIn wsL_law0 [.code yX8_meanWind cX8_meanWind 2 (some .float)] := goodIn_1 277 (by rfl) (by decide +kernel)
theorem gr_X8_meanWind : GoodIn wsL_law0 ([.fieldLink RX8 10 "CraneCampaign" "farm" "LCraneCampaign$Farm;", .fieldLink RX8 202 "CraneCampaign$Farm" "winds" "LCraneCampaign$Winds;", .fieldLink RX8 210 "CraneCampaign$Winds" "count" "I", .constantFloat RX8 277 (1090519040), .methodLink RX8 274 yX7_sum, .instanceMethod yX7_sum, .selects RX7 yX7_sum yX7_sum, .initialized RX7, .code yX7_sum cX7_sum 3 (some .int), .fieldLink RX7 15 "CraneCampaign$Winds" "count" "I", .fieldLink RX7 9 "CraneCampaign$Winds" "row" "[I"]) := goodIn_r _ [14, 215, 216, 278, 279, 280, 281, 48, 282, 88, 87] (by decide +kernel) (by decide +kernel)
theorem gb_X8_meanWind : GoodIn wsL_law0 wsX8_meanWind := goodIn_app gh_X8_meanWind (goodIn_app (goodIn_app (goodIn_app (gr_X8_meanWind) gp0X8) gp0X2) gp0X7)
set_option maxRecDepth 100000 in
theorem gh_X8_lostShare : GoodIn wsL_law0 [.code yX8_lostShare cX8_lostShare 3 (some .double)] := goodIn_1 286 (by rfl) (by decide +kernel)
theorem gr_X8_lostShare : GoodIn wsL_law0 ([.fieldLink RX8 10 "CraneCampaign" "farm" "LCraneCampaign$Farm;", .methodLink RX8 278 yX2_lostPower, .instanceMethod yX2_lostPower, .selects RX2 yX2_lostPower yX2_lostPower, .initialized RX2, .code yX2_lostPower cX2_lostPower 3 (some .int), .fieldLink RX2 60 "CraneCampaign$Farm" "lostBy" "[I", .methodLink RX8 281 yX2_wonPower, .instanceMethod yX2_wonPower, .selects RX2 yX2_wonPower yX2_wonPower, .code yX2_wonPower cX2_wonPower 3 (some .int), .fieldLink RX2 17 "CraneCampaign$Farm" "turbineCount" "I", .fieldLink RX2 11 "CraneCampaign$Farm" "turbines" "[LCraneCampaign$Turbine;", .fieldLink RX2 105 "CraneCampaign$Turbine" "won" "I"]) := goodIn_r _ [14, 235, 236, 237, 13, 238, 51, 239, 240, 241, 242, 29, 28, 134] (by decide +kernel) (by decide +kernel)
theorem gb_X8_lostShare : GoodIn wsL_law0 wsX8_lostShare := goodIn_app gh_X8_lostShare (goodIn_app (goodIn_app (goodIn_app (gr_X8_lostShare) gp0X8) gp0X2) gp0X5)
set_option maxRecDepth 100000 in
theorem gh_X8_turbine : GoodIn wsL_law0 [.code yX8_turbine cX8_turbine 3 (some .int)] := goodIn_1 108 (by rfl) (by decide +kernel)
set_option maxRecDepth 20000 in
theorem gr_X8_turbine_r1 : GoodIn wsL_law0 wsX8_turbine_r1 := goodIn_r _ [109, 110, 14, 111, 112, 113, 2, 114, 115, 116, 117, 118, 119, 13, 120, 29, 121, 122, 123, 124, 125, 126, 127, 28] (by decide +kernel) (by decide +kernel)
set_option maxRecDepth 20000 in
theorem gr_X8_turbine_r2 : GoodIn wsL_law0 wsX8_turbine_r2 := goodIn_r _ [128, 129, 130, 131, 132, 50, 41, 37, 133, 134, 135, 136, 137, 138, 54, 139, 140, 141, 142, 143, 40, 144, 75, 74] (by decide +kernel) (by decide +kernel)
set_option maxRecDepth 20000 in
theorem gr_X8_turbine_r3 : GoodIn wsL_law0 wsX8_turbine_r3 := goodIn_r _ [145, 146, 147, 36, 148, 70, 68, 69, 149, 150, 151, 152, 49, 52, 153, 154, 155, 48, 156, 88, 87, 157, 158, 159] (by decide +kernel) (by decide +kernel)
set_option maxRecDepth 20000 in
theorem gr_X8_turbine_r4 : GoodIn wsL_law0 wsX8_turbine_r4 := goodIn_r _ [160, 161, 162, 163, 164, 165] (by decide +kernel) (by decide +kernel)
theorem gb_X8_turbine : GoodIn wsL_law0 wsX8_turbine := goodIn_app gh_X8_turbine (goodIn_app (goodIn_app (goodIn_app (goodIn_app (goodIn_app (goodIn_app (goodIn_app gr_X8_turbine_r1 (goodIn_app gr_X8_turbine_r2 (goodIn_app gr_X8_turbine_r3 (gr_X8_turbine_r4)))) gp0X8) gp0X2) gp0X5) gp0X4) gp0X3) gp0X7)
set_option maxRecDepth 100000 in
theorem gh_X8_blade : GoodIn wsL_law0 [.code yX8_blade cX8_blade 3 (some .int)] := goodIn_1 178 (by rfl) (by decide +kernel)
theorem gr_X8_blade : GoodIn wsL_law0 ([.classLink RX8 134 "java/lang/IndexOutOfBoundsException", .initialized "java/lang/IndexOutOfBoundsException", .classLink RX8 41 "java/lang/IllegalArgumentException", .initialized "java/lang/IllegalArgumentException", .fieldLink RX8 10 "CraneCampaign" "farm" "LCraneCampaign$Farm;", .fieldLink RX8 151 "CraneCampaign$Farm" "harbour" "LCraneCampaign$Harbour;", .fieldLink RX8 167 "CraneCampaign$Harbour" "count" "I", .fieldLink RX8 229 "CraneCampaign$Harbour" "turbine" "[I", .fieldLink RX8 232 "CraneCampaign$Harbour" "weight" "[I", .methodLink RX8 37 yX8_isWithin, .static yX8_isWithin, .initialized RX8, .code yX8_isWithin cX8_isWithin 3 (some .boolean)]) := goodIn_r _ [115, 116, 109, 110, 14, 179, 180, 181, 182, 121, 122, 2, 123] (by decide +kernel) (by decide +kernel)
theorem gb_X8_blade : GoodIn wsL_law0 wsX8_blade := goodIn_app gh_X8_blade (goodIn_app (goodIn_app (goodIn_app (gr_X8_blade) gp0X8) gp0X2) gp0X3)
set_option maxRecDepth 100000 in
theorem gh_L_abs : GoodIn wsL_law0 [.code yL_abs cL_abs 1 (some .int)] := goodIn_1 273 (by rfl) (by decide +kernel)
theorem gb_L_abs : GoodIn wsL_law0 wsL_abs := goodIn_app gh_L_abs gself0
set_option maxRecDepth 100000 in
theorem gh_L_number : GoodIn wsL_law0 [.code yL_number cL_number 2 (some .boolean)] := goodIn_1 440 (by rfl) (by decide +kernel)
theorem gb_L_number : GoodIn wsL_law0 wsL_number := goodIn_app gh_L_number gself0
set_option maxRecDepth 100000 in
theorem gh_X8_load : GoodIn wsL_law0 [.code yX8_load cX8_load 1 (some .int)] := goodIn_1 444 (by rfl) (by decide +kernel)
set_option maxRecDepth 20000 in
theorem gr_X8_load_r1 : GoodIn wsL_law0 wsX8_load_r1 := goodIn_r _ [109, 110, 426, 427, 22, 14, 215, 428, 216, 445, 446, 447, 21, 448, 96, 95, 449, 450, 451, 452, 453, 454, 455, 456] (by decide +kernel) (by decide +kernel)
set_option maxRecDepth 20000 in
theorem gr_X8_load_r2 : GoodIn wsL_law0 wsX8_load_r2 := goodIn_r _ [457, 458, 459, 460, 461, 462, 463, 464, 465, 466, 467, 468, 469, 470, 471, 472, 473, 474, 475, 476, 477, 478, 479, 480] (by decide +kernel) (by decide +kernel)
