set_option maxRecDepth 20000 in
theorem gr_X8_load_r3 : GoodIn wsL_law0 wsX8_load_r3 := goodIn_r _ [481, 2, 482, 16, 17, 18, 291, 292, 293, 13, 294, 29, 28, 33, 37, 41, 45, 49, 50, 55, 56, 57, 58, 51] (by decide +kernel) (by decide +kernel)
set_option maxRecDepth 20000 in
theorem gr_X8_load_r4 : GoodIn wsL_law0 wsX8_load_r4 := goodIn_r _ [52, 295, 296, 297, 54, 298, 299, 140, 161, 300, 301, 302, 303, 304, 305, 306, 32, 307, 62, 308, 63, 64, 309, 310] (by decide +kernel) (by decide +kernel)
set_option maxRecDepth 20000 in
theorem gr_X8_load_r5 : GoodIn wsL_law0 wsX8_load_r5 := goodIn_r _ [311, 36, 312, 68, 313, 69, 70, 314, 315, 316, 40, 317, 74, 318, 75, 319, 320, 321, 44, 322, 79, 80, 81, 82] (by decide +kernel) (by decide +kernel)
set_option maxRecDepth 20000 in
theorem gr_X8_load_r6 : GoodIn wsL_law0 wsX8_load_r6 := goodIn_r _ [83, 323, 324, 325, 48, 326, 87, 327, 88, 483, 484, 485, 486, 487, 488, 489, 490, 491] (by decide +kernel) (by decide +kernel)
theorem gb_X8_load : GoodIn wsL_law0 wsX8_load := goodIn_app gh_X8_load (goodIn_app (goodIn_app (goodIn_app (goodIn_app (goodIn_app (goodIn_app (goodIn_app (goodIn_app (goodIn_app (goodIn_app gr_X8_load_r1 (goodIn_app gr_X8_load_r2 (goodIn_app gr_X8_load_r3 (goodIn_app gr_X8_load_r4 (goodIn_app gr_X8_load_r5 (gr_X8_load_r6)))))) gp0X8) gp0X2) gp0X6) gp0X7) gp0X5) gp0X0) gp0X3) gp0X4) gp0X1)
theorem gv_L_off : GoodIn wsL_law0 (va_wsS RL 22 yL_off wsL_off) := goodIn_app (goodIn_of _ (by decide +kernel)) gb_L_off
theorem gv_L_spot : GoodIn wsL_law0 (va_wsS RL 44 yL_spot wsL_spot) := goodIn_app (goodIn_of _ (by decide +kernel)) gb_L_spot
theorem gv_L_at : GoodIn wsL_law0 (va_wsS RL 69 yL_at wsL_at) := goodIn_app (goodIn_of _ (by decide +kernel)) gb_L_at
theorem gv_L_hour : GoodIn wsL_law0 (va_wsS RL 87 yL_hour wsL_hour) := goodIn_app (goodIn_of _ (by decide +kernel)) gb_L_hour
theorem gv_L_winds : GoodIn wsL_law0 (va_wsS RL 120 yL_winds wsL_winds) := goodIn_app (goodIn_of _ (by decide +kernel)) gb_L_winds
theorem gv_L_bog : GoodIn wsL_law0 (va_wsS RL 124 yL_bog wsL_bog) := goodIn_app (goodIn_of _ (by decide +kernel)) gb_L_bog
theorem gv_X8_set : GoodIn wsL_law0 (wsV RL 127 RX8 yX8_set wsX8_set) := goodIn_app (goodIn_of _ (by decide +kernel)) gb_X8_set
theorem gv_X8_addTurbine : GoodIn wsL_law0 (wsV RL 130 RX8 yX8_addTurbine wsX8_addTurbine) := goodIn_app (goodIn_of _ (by decide +kernel)) gb_X8_addTurbine
theorem gv_X8_setFault : GoodIn wsL_law0 (wsV RL 134 RX8 yX8_setFault wsX8_setFault) := goodIn_app (goodIn_of _ (by decide +kernel)) gb_X8_setFault
theorem gv_X8_plan : GoodIn wsL_law0 (wsV RL 137 RX8 yX8_plan wsX8_plan) := goodIn_app (goodIn_of _ (by decide +kernel)) gb_X8_plan
theorem gv_X8_unplan : GoodIn wsL_law0 (wsV RL 140 RX8 yX8_unplan wsX8_unplan) := goodIn_app (goodIn_of _ (by decide +kernel)) gb_X8_unplan
theorem gv_X8_orderBlade : GoodIn wsL_law0 (wsV RL 143 RX8 yX8_orderBlade wsX8_orderBlade) := goodIn_app (goodIn_of _ (by decide +kernel)) gb_X8_orderBlade
theorem gv_X8_pass : GoodIn wsL_law0 (wsV RL 146 RX8 yX8_pass wsX8_pass) := goodIn_app (goodIn_of _ (by decide +kernel)) gb_X8_pass
theorem gv_L_sum : GoodIn wsL_law0 (va_wsS RL 66 yL_sum wsL_sum) := goodIn_app (goodIn_of _ (by decide +kernel)) gb_L_sum
theorem gv_L_same : GoodIn wsL_law0 (va_wsS RL 83 yL_same wsL_same) := goodIn_app (goodIn_of _ (by decide +kernel)) gb_L_same
theorem gv_X8_doneIn : GoodIn wsL_law0 (wsV RL 91 RX8 yX8_doneIn wsX8_doneIn) := goodIn_app (goodIn_of _ (by decide +kernel)) gb_X8_doneIn
theorem gv_X8_ifPassed : GoodIn wsL_law0 (wsV RL 95 RX8 yX8_ifPassed wsX8_ifPassed) := goodIn_app (goodIn_of _ (by decide +kernel)) gb_X8_ifPassed
theorem gv_X8_bestFirst : GoodIn wsL_law0 (wsV RL 98 RX8 yX8_bestFirst wsX8_bestFirst) := goodIn_app (goodIn_of _ (by decide +kernel)) gb_X8_bestFirst
theorem gv_X8_window : GoodIn wsL_law0 (wsV RL 101 RX8 yX8_window wsX8_window) := goodIn_app (goodIn_of _ (by decide +kernel)) gb_X8_window
theorem gv_L_window : GoodIn wsL_law0 (va_wsS RL 104 yL_window wsL_window) := goodIn_app (goodIn_of _ (by decide +kernel)) gb_L_window
theorem gv_X8_setBog : GoodIn wsL_law0 (wsV RL 117 RX8 yX8_setBog wsX8_setBog) := goodIn_app (goodIn_of _ (by decide +kernel)) gb_X8_setBog
theorem gv_L_ready : GoodIn wsL_law0 (va_wsS RL 18 yL_ready wsL_ready) := goodIn_app (goodIn_of _ (by decide +kernel)) gb_L_ready
theorem gv_L_wind : GoodIn wsL_law0 (va_wsS RL 26 yL_wind wsL_wind) := goodIn_app (goodIn_of _ (by decide +kernel)) gb_L_wind
theorem gv_L_serve : GoodIn wsL_law0 (va_wsS RL 30 yL_serve wsL_serve) := goodIn_app (goodIn_of _ (by decide +kernel)) gb_L_serve
theorem gv_L_power : GoodIn wsL_law0 (va_wsS RL 34 yL_power wsL_power) := goodIn_app (goodIn_of _ (by decide +kernel)) gb_L_power
