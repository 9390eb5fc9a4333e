set_option maxRecDepth 20000 in
theorem gL_law_X9_bestFirst : GoodIn wsL_law (wsV RL 160 RX9 yX9_bestFirst wsX9_bestFirst) := goodIn_app (goodIn_of _ (by decide +kernel)) ggL_law_X9_bestFirst
set_option maxRecDepth 20000 in
theorem ggL_law_L_window : GoodIn wsL_law wsL_window := goodIn_ca (goodIn_ca (goodIn_r _ [870, 208, 114, 871, 872, 873, 2, 874, 120, 121, 16, 216, 217, 218, 219, 220, 221, 222, 223, 224, 15, 225, 31, 125, 126, 127, 875, 876, 877, 878, 30, 53, 51, 55, 407, 450, 451, 452, 57, 453, 146, 446, 447, 448, 50, 449, 91, 90, 993, 994, 995, 996, 997, 998, 1014, 1015, 1016, 1017, 1018, 1019, 1020, 1021, 1022, 1023, 1041, 1042, 1043, 1044, 1045, 1046, 1047, 1039, 1040] (by decide +kernel) (by decide +kernel)) (goodIn_sub (fun _ h => List.mem_append_left _ (List.mem_append_left _ (List.mem_append_right _ h))) (by decide +kernel))) (goodIn_sub (fun _ h => List.mem_append_right _ h) (by decide +kernel))
set_option maxRecDepth 20000 in
theorem gL_law_L_window : GoodIn wsL_law (va_wsS RL 161 yL_window wsL_window) := goodIn_app (goodIn_of _ (by decide +kernel)) ggL_law_L_window
set_option maxRecDepth 20000 in
theorem ggL_law_X9_window : GoodIn wsL_law wsX9_window := goodIn_r _ [882, 188, 230, 231, 232, 5, 233, 104, 189, 190, 191, 192, 193, 194, 195, 883, 884, 885, 886, 512, 513, 514, 515, 528, 529, 530, 531, 999, 1000, 1001, 1002, 1003, 1004, 1005, 1006, 1007, 1008, 1009, 1010, 1011, 1012, 1013] (by decide +kernel) (by decide +kernel)
set_option maxRecDepth 20000 in
theorem gL_law_X9_window : GoodIn wsL_law (wsV RL 163 RX9 yX9_window wsX9_window) := goodIn_app (goodIn_of _ (by decide +kernel)) ggL_law_X9_window
set_option maxRecDepth 20000 in
theorem ggL_law_X8_doneIn : GoodIn wsL_law wsX8_doneIn := goodIn_r _ [890, 17, 16, 299, 300, 137, 138, 139, 15, 140, 31, 30, 35, 39, 43, 47, 51, 53, 58, 59, 60, 61, 54, 55, 141, 142, 143, 57, 144, 145, 146, 147, 148, 149, 150, 151, 152, 153, 154, 34, 155, 65, 156, 66, 67, 157, 158, 159, 38, 160, 71, 161, 72, 73, 162, 163, 164, 42, 165, 77, 166, 78, 167, 168, 169, 46, 170, 82, 83, 84, 85, 86, 171, 172, 173, 50, 174, 90, 175, 91, 891, 381, 382, 383, 384, 385, 386, 387, 388, 389, 390, 391, 392, 393, 394, 395, 396, 397, 398, 399, 400, 401, 402, 403, 404, 405, 406, 407, 223, 224, 225, 408, 314, 315, 316, 409, 410, 411, 412, 413, 132, 414, 415, 416, 417, 418, 419, 420, 421, 422, 423, 424, 425, 426, 427, 428, 429, 430, 431, 432, 433, 434, 435, 436, 437, 438, 439, 440, 441, 442, 443, 444, 445, 446, 447, 448, 449, 450, 451, 452, 453, 454, 455, 456, 457, 458, 459, 460, 461, 462, 463, 464, 465, 466, 467, 468, 469, 470, 471, 472, 473, 474, 475, 476, 477, 478, 479, 480, 481, 482, 483, 306, 307, 308, 484, 485, 486, 487, 488, 489, 490, 491, 993, 994, 995, 996, 997, 998, 1014, 1015, 1016, 1017, 1018, 1019, 1020, 1021, 1022, 1023, 1032, 1033, 1041, 1042, 1043, 1044, 1045, 1046, 1047, 1026, 1027, 1028, 1029, 1030, 1031, 1034, 1035, 1036, 1037, 1038, 1039, 1040] (by decide +kernel) (by decide +kernel)
set_option maxRecDepth 20000 in
theorem gL_law_X8_doneIn : GoodIn wsL_law (wsV RL 164 RX8 yX8_doneIn wsX8_doneIn) := goodIn_app (goodIn_of _ (by decide +kernel)) ggL_law_X8_doneIn
set_option maxRecDepth 20000 in
theorem gL_law_X9_doneIn : GoodIn wsL_law (wsV RL 167 RX9 yX9_doneIn wsX9_doneIn) := goodIn_app (goodIn_of _ (by decide +kernel)) ggL_law_X9_doneIn
set_option maxRecDepth 20000 in
theorem ggL_law_X8_meanWind : GoodIn wsL_law wsX8_meanWind := goodIn_r _ [903, 16, 644, 645, 904, 905, 906, 907, 50, 908, 91, 90, 993, 994, 995, 996, 997, 998, 1014, 1015, 1016, 1017, 1018, 1019, 1020, 1021, 1022, 1023, 1039, 1040] (by decide +kernel) (by decide +kernel)
set_option maxRecDepth 20000 in
theorem gL_law_X8_meanWind : GoodIn wsL_law (wsV RL 168 RX8 yX8_meanWind wsX8_meanWind) := goodIn_app (goodIn_of _ (by decide +kernel)) ggL_law_X8_meanWind
set_option maxRecDepth 20000 in
theorem ggL_law_X9_meanWind : GoodIn wsL_law wsX9_meanWind := goodIn_r _ [912, 188, 913, 914, 915, 5, 916, 104, 917, 999, 1000, 1001, 1002, 1003, 1004, 1005, 1006, 1007, 1008, 1009, 1010, 1011, 1012, 1013] (by decide +kernel) (by decide +kernel)
set_option maxRecDepth 20000 in
theorem gL_law_X9_meanWind : GoodIn wsL_law (wsV RL 172 RX9 yX9_meanWind wsX9_meanWind) := goodIn_app (goodIn_of _ (by decide +kernel)) ggL_law_X9_meanWind
set_option maxRecDepth 20000 in
theorem ggL_law_X8_lostShare : GoodIn wsL_law wsX8_lostShare := goodIn_r _ [921, 16, 774, 775, 776, 15, 777, 54, 778, 779, 780, 781, 31, 30, 463, 993, 994, 995, 996, 997, 998, 1014, 1015, 1016, 1017, 1018, 1019, 1020, 1021, 1022, 1023, 1041, 1042, 1043, 1044, 1045, 1046, 1047] (by decide +kernel) (by decide +kernel)
set_option maxRecDepth 20000 in
theorem gL_law_X8_lostShare : GoodIn wsL_law (wsV RL 173 RX8 yX8_lostShare wsX8_lostShare) := goodIn_app (goodIn_of _ (by decide +kernel)) ggL_law_X8_lostShare
set_option maxRecDepth 20000 in
theorem ggL_law_X9_lostShare : GoodIn wsL_law wsX9_lostShare := goodIn_r _ [925, 188, 926, 927, 928, 5, 929, 794, 795, 796, 797, 104, 999, 1000, 1001, 1002, 1003, 1004, 1005, 1006, 1007, 1008, 1009, 1010, 1011, 1012, 1013] (by decide +kernel) (by decide +kernel)
set_option maxRecDepth 20000 in
theorem gL_law_X9_lostShare : GoodIn wsL_law (wsV RL 177 RX9 yX9_lostShare wsX9_lostShare) := goodIn_app (goodIn_of _ (by decide +kernel)) ggL_law_X9_lostShare
