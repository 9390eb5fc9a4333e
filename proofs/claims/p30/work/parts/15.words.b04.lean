theorem goodIn_1 {big : List Cond} {w : Cond} (i : Nat) (h : big[i]? = some w) (g : goodWord w = true) : GoodIn big [w] := fun w9 hw => by
  rw [List.mem_singleton.mp hw]
  exact ⟨List.mem_of_getElem? h, good_of_word g⟩
theorem gb_L_wind : GoodIn wsL_law0 wsL_wind := goodIn_app gh_L_wind gself0
set_option maxRecDepth 100000 in
theorem gh_L_serve : GoodIn wsL_law0 [.code yL_serve cL_serve 9 (some .int)] := goodIn_1 589 (by rfl) (by decide +kernel)
theorem gb_L_serve : GoodIn wsL_law0 wsL_serve := goodIn_app gh_L_serve gself0
set_option maxRecDepth 100000 in
theorem gh_L_power : GoodIn wsL_law0 [.code yL_power cL_power 3 (some .int)] := goodIn_1 174 (by rfl) (by decide +kernel)
theorem gb_L_power : GoodIn wsL_law0 wsL_power := goodIn_app gh_L_power gself0
set_option maxRecDepth 100000 in
theorem gh_X8_count : GoodIn wsL_law0 [.code yX8_count cX8_count 2 (some .int)] := goodIn_1 207 (by rfl) (by decide +kernel)
set_option maxRecDepth 20000 in
theorem gr_X8_count_r1 : GoodIn wsL_law0 wsX8_count_r1 := goodIn_r _ [109, 110, 121, 122, 2, 123, 208, 209, 210, 211, 14, 212, 213, 214, 215, 216, 217, 218, 219, 220, 221, 179, 180, 18] (by decide +kernel) (by decide +kernel)
set_option maxRecDepth 20000 in
theorem gr_X8_count_r2 : GoodIn wsL_law0 wsX8_count_r2 := goodIn_r _ [222, 223, 224, 13, 225, 29, 28, 131, 226, 150, 151, 152, 49, 52, 153, 154, 155, 48, 156, 88, 87, 227, 228, 229] (by decide +kernel) (by decide +kernel)
set_option maxRecDepth 20000 in
theorem gr_X8_count_r3 : GoodIn wsL_law0 wsX8_count_r3 := goodIn_r _ [40, 230, 75, 74, 231, 232, 233, 44, 234, 83, 82, 235, 236, 237, 238, 51, 239, 240, 241, 242, 134] (by decide +kernel) (by decide +kernel)
theorem gb_X8_count : GoodIn wsL_law0 wsX8_count := goodIn_app gh_X8_count (goodIn_app (goodIn_app (goodIn_app (goodIn_app (goodIn_app (goodIn_app (goodIn_app (goodIn_app gr_X8_count_r1 (goodIn_app gr_X8_count_r2 (gr_X8_count_r3))) gp0X8) gp0X2) gp0X7) gp0X4) gp0X1) gp0X3) gp0X5)
set_option maxRecDepth 100000 in
theorem gh_L_told : GoodIn wsL_law0 [.code yL_told cL_told 13 (some .boolean)] := goodIn_1 100 (by rfl) (by decide +kernel)
theorem gb_L_told : GoodIn wsL_law0 wsL_told := goodIn_app gh_L_told gself0
set_option maxRecDepth 100000 in
theorem gh_L_cell : GoodIn wsL_law0 [.code yL_cell cL_cell 2 (some .int)] := goodIn_1 414 (by rfl) (by decide +kernel)
theorem gb_L_cell : GoodIn wsL_law0 wsL_cell := goodIn_app gh_L_cell gself0
set_option maxRecDepth 100000 in
theorem gh_L_act : GoodIn wsL_law0 [.code yL_act cL_act 15 (some .boolean)] := goodIn_1 418 (by rfl) (by decide +kernel)
theorem gb_L_act : GoodIn wsL_law0 wsL_act := goodIn_app gh_L_act gself0
set_option maxRecDepth 100000 in
theorem gh_L_ahead : GoodIn wsL_law0 [.code yL_ahead cL_ahead 21 (some .boolean)] := goodIn_1 599 (by rfl) (by decide +kernel)
theorem gb_L_ahead : GoodIn wsL_law0 wsL_ahead := goodIn_app gh_L_ahead gself0
set_option maxRecDepth 100000 in
theorem gh_X8_append : GoodIn wsL_law0 [.code yX8_append cX8_append 2 (some .int)] := goodIn_1 425 (by rfl) (by decide +kernel)
theorem gr_X8_append : GoodIn wsL_law0 ([.classLink RX8 41 "java/lang/IllegalArgumentException", .initialized "java/lang/IllegalArgumentException", .classLink RX8 55 "java/lang/IllegalStateException", .initialized "java/lang/IllegalStateException", .fieldLink RX8 33 "CraneCampaign" "buffer" "LCraneCampaign$WindText;", .fieldLink RX8 186 "CraneCampaign$WindText" "length" "I", .methodLink RX8 37 yX8_isWithin, .static yX8_isWithin, .initialized RX8, .code yX8_isWithin cX8_isWithin 3 (some .boolean), .methodLink RX8 180 yX6_isFull, .instanceMethod yX6_isFull, .selects RX6 yX6_isFull yX6_isFull, .initialized RX6, .code yX6_isFull cX6_isFull 1 (some .boolean), .fieldLink RX6 15 "CraneCampaign$WindText" "length" "I", .methodLink RX8 183 yX6_add, .instanceMethod yX6_add, .selects RX6 yX6_add yX6_add, .code yX6_add cX6_add 2 none, .fieldLink RX6 9 "CraneCampaign$WindText" "letters" "[I", .methodLink RX6 19 yX6_isFull]) := goodIn_r _ [109, 110, 426, 427, 22, 428, 121, 122, 2, 123, 429, 430, 431, 21, 432, 96, 433, 434, 435, 436, 95, 437] (by decide +kernel) (by decide +kernel)
theorem gb_X8_append : GoodIn wsL_law0 wsX8_append := goodIn_app gh_X8_append (goodIn_app (goodIn_app (gr_X8_append) gp0X8) gp0X6)
set_option maxRecDepth 100000 in
theorem gh_L_way : GoodIn wsL_law0 [.code yL_way cL_way 7 (some .int)] := goodIn_1 270 (by rfl) (by decide +kernel)
theorem gb_L_way : GoodIn wsL_law0 wsL_way := goodIn_app gh_L_way gself0
set_option maxRecDepth 100000 in
theorem gh_L_turbines : GoodIn wsL_law0 [.code yL_turbines cL_turbines 10 (some .boolean)] := goodIn_1 104 (by rfl) (by decide +kernel)
theorem gb_L_turbines : GoodIn wsL_law0 wsL_turbines := goodIn_app gh_L_turbines gself0
set_option maxRecDepth 100000 in
theorem gh_X8_bog : GoodIn wsL_law0 [.code yX8_bog cX8_bog 3 (some .int)] := goodIn_1 186 (by rfl) (by decide +kernel)
theorem gr_X8_bog : GoodIn wsL_law0 ([.classLink RX8 134 "java/lang/IndexOutOfBoundsException", .initialized "java/lang/IndexOutOfBoundsException", .classLink RX8 41 "java/lang/IllegalArgumentException", .initialized "java/lang/IllegalArgumentException", .fieldLink RX8 10 "CraneCampaign" "farm" "LCraneCampaign$Farm;", .fieldLink RX8 87 "CraneCampaign$Farm" "bogs" "LCraneCampaign$Bogs;", .fieldLink RX8 107 "CraneCampaign$Bogs" "count" "I", .fieldLink RX8 237 "CraneCampaign$Bogs" "place" "[I", .fieldLink RX8 240 "CraneCampaign$Bogs" "need" "[I", .methodLink RX8 37 yX8_isWithin, .static yX8_isWithin, .initialized RX8, .code yX8_isWithin cX8_isWithin 3 (some .boolean)]) := goodIn_r _ [115, 116, 109, 110, 14, 187, 188, 189, 190, 121, 122, 2, 123] (by decide +kernel) (by decide +kernel)
theorem gb_X8_bog : GoodIn wsL_law0 wsX8_bog := goodIn_app gh_X8_bog (goodIn_app (goodIn_app (goodIn_app (gr_X8_bog) gp0X8) gp0X2) gp0X0)
set_option maxRecDepth 100000 in
theorem gh_X8_claims : GoodIn wsL_law0 [.code yX8_claims cX8_claims 2 (some .int)] := goodIn_1 194 (by rfl) (by decide +kernel)
theorem gr_X8_claims : GoodIn wsL_law0 ([.classLink RX8 41 "java/lang/IllegalArgumentException", .initialized "java/lang/IllegalArgumentException", .fieldLink RX8 10 "CraneCampaign" "farm" "LCraneCampaign$Farm;", .fieldLink RX8 245 "CraneCampaign$Farm" "lostBy" "[I", .methodLink RX8 37 yX8_isWithin, .static yX8_isWithin, .initialized RX8, .code yX8_isWithin cX8_isWithin 3 (some .boolean)]) := goodIn_r _ [109, 110, 14, 195, 121, 122, 2, 123] (by decide +kernel) (by decide +kernel)
