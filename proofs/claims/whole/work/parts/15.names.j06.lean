set_option maxRecDepth 20000 in
theorem ggL_law_L_undo : GoodIn wsL_law wsL_undo := goodIn_ca (goodIn_r _ [677, 115, 678, 679, 680, 2, 681, 122, 123, 20, 16, 18, 19, 137, 138, 139, 15, 140, 31, 30, 35, 39, 43, 47, 51, 53, 58, 59, 60, 61, 54, 55, 141, 142, 143, 57, 144, 145, 146, 147, 148, 149, 150, 151, 152, 153, 154, 34, 155, 65, 156, 66, 67, 157, 158, 159, 38, 160, 71, 161, 72, 73, 162, 163, 164, 42, 165, 77, 166, 78, 167, 168, 169, 46, 170, 82, 83, 84, 85, 86, 171, 172, 173, 50, 174, 90, 175, 91, 993, 994, 995, 996, 997, 998, 1014, 1015, 1016, 1017, 1018, 1019, 1020, 1021, 1022, 1023, 1041, 1042, 1043, 1044, 1045, 1046, 1047, 1026, 1027, 1028, 1029, 1030, 1031, 1032, 1033, 1034, 1035, 1036, 1037, 1038, 1039, 1040] (by decide +kernel) (by decide +kernel)) (goodIn_sub (fun _ h => List.mem_append_left _ (List.mem_append_right _ h)) (by decide +kernel))
set_option maxRecDepth 20000 in
theorem gL_law_L_undo : GoodIn wsL_law (va_wsS RL 130 yL_undo wsL_undo) := goodIn_app (goodIn_of _ (by decide +kernel)) ggL_law_L_undo
set_option maxRecDepth 20000 in
theorem ggL_law_X9_undo : GoodIn wsL_law wsX9_undo := goodIn_r _ [685, 188, 200, 104, 106, 192, 193, 194, 5, 195, 999, 1000, 1001, 1002, 1003, 1004, 1005, 1006, 1007, 1008, 1009, 1010, 1011, 1012, 1013] (by decide +kernel) (by decide +kernel)
set_option maxRecDepth 20000 in
theorem gL_law_X9_undo : GoodIn wsL_law (wsV RL 132 RX9 yX9_undo wsX9_undo) := goodIn_app (goodIn_of _ (by decide +kernel)) ggL_law_X9_undo
set_option maxRecDepth 20000 in
theorem ggL_law_L_turbine : GoodIn wsL_law wsL_turbine := goodIn_ca (goodIn_ca (goodIn_r _ [688, 208, 114, 689, 690, 691, 2, 692, 120, 121, 16, 216, 217, 218, 219, 220, 221, 222, 223, 224, 15, 225, 31, 125, 126, 127, 693, 694, 695, 696, 30, 132, 697, 698, 398, 474, 53, 43, 39, 462, 463, 407, 450, 451, 452, 57, 453, 146, 483, 306, 307, 42, 308, 78, 77, 438, 439, 440, 38, 441, 73, 71, 72, 442, 443, 444, 445, 51, 55, 446, 447, 448, 50, 449, 91, 90, 464, 465, 466, 467, 147, 468, 389, 390, 391, 993, 994, 995, 996, 997, 998, 1014, 1015, 1016, 1017, 1018, 1019, 1020, 1021, 1022, 1023, 1041, 1042, 1043, 1044, 1045, 1046, 1047, 1032, 1033, 1029, 1030, 1031, 1039, 1040] (by decide +kernel) (by decide +kernel)) (goodIn_sub (fun _ h => List.mem_append_left _ (List.mem_append_left _ (List.mem_append_right _ h))) (by decide +kernel))) (goodIn_sub (fun _ h => List.mem_append_right _ h) (by decide +kernel))
set_option maxRecDepth 20000 in
theorem gL_law_L_turbine : GoodIn wsL_law (va_wsS RL 133 yL_turbine wsL_turbine) := goodIn_app (goodIn_of _ (by decide +kernel)) ggL_law_L_turbine
set_option maxRecDepth 20000 in
theorem ggL_law_X9_turbine : GoodIn wsL_law wsX9_turbine := goodIn_r _ [702, 188, 230, 231, 232, 5, 233, 104, 189, 190, 191, 192, 193, 194, 195, 703, 704, 705, 706, 528, 529, 530, 531, 321, 322, 323, 324, 707, 708, 709, 710, 512, 513, 514, 515, 532, 533, 534, 535, 999, 1000, 1001, 1002, 1003, 1004, 1005, 1006, 1007, 1008, 1009, 1010, 1011, 1012, 1013] (by decide +kernel) (by decide +kernel)
set_option maxRecDepth 20000 in
theorem gL_law_X9_turbine : GoodIn wsL_law (wsV RL 135 RX9 yX9_turbine wsX9_turbine) := goodIn_app (goodIn_of _ (by decide +kernel)) ggL_law_X9_turbine
set_option maxRecDepth 20000 in
theorem ggL_law_L_blade : GoodIn wsL_law wsL_blade := goodIn_ca (goodIn_ca (goodIn_r _ [713, 208, 114, 714, 715, 716, 2, 717, 220, 221, 120, 121, 16, 349, 350, 718, 719, 125, 126, 127, 993, 994, 995, 996, 997, 998, 1014, 1015, 1016, 1017, 1018, 1019, 1020, 1021, 1022, 1023, 1029, 1030, 1031] (by decide +kernel) (by decide +kernel)) (goodIn_sub (fun _ h => List.mem_append_right _ h) (by decide +kernel))) (goodIn_sub (fun _ h => List.mem_append_left _ (List.mem_append_left _ (List.mem_append_right _ h))) (by decide +kernel))
set_option maxRecDepth 20000 in
theorem gL_law_L_blade : GoodIn wsL_law (va_wsS RL 136 yL_blade wsL_blade) := goodIn_app (goodIn_of _ (by decide +kernel)) ggL_law_L_blade
set_option maxRecDepth 20000 in
theorem ggL_law_X9_blade : GoodIn wsL_law wsX9_blade := goodIn_r _ [723, 188, 104, 189, 190, 5, 191, 192, 193, 194, 195, 999, 1000, 1001, 1002, 1003, 1004, 1005, 1006, 1007, 1008, 1009, 1010, 1011, 1012, 1013] (by decide +kernel) (by decide +kernel)
set_option maxRecDepth 20000 in
theorem gL_law_X9_blade : GoodIn wsL_law (wsV RL 138 RX9 yX9_blade wsX9_blade) := goodIn_app (goodIn_of _ (by decide +kernel)) ggL_law_X9_blade
set_option maxRecDepth 20000 in
theorem ggL_law_L_bog : GoodIn wsL_law wsL_bog := goodIn_ca (goodIn_ca (goodIn_r _ [726, 208, 114, 727, 728, 729, 2, 730, 220, 221, 120, 121, 16, 241, 242, 731, 732, 125, 126, 127, 993, 994, 995, 996, 997, 998, 1014, 1015, 1016, 1017, 1018, 1019, 1020, 1021, 1022, 1023, 1026, 1027, 1028] (by decide +kernel) (by decide +kernel)) (goodIn_sub (fun _ h => List.mem_append_right _ h) (by decide +kernel))) (goodIn_sub (fun _ h => List.mem_append_left _ (List.mem_append_left _ (List.mem_append_right _ h))) (by decide +kernel))
set_option maxRecDepth 20000 in
theorem gL_law_L_bog : GoodIn wsL_law (va_wsS RL 139 yL_bog wsL_bog) := goodIn_app (goodIn_of _ (by decide +kernel)) ggL_law_L_bog
set_option maxRecDepth 20000 in
theorem ggL_law_X9_bog : GoodIn wsL_law wsX9_bog := goodIn_r _ [736, 188, 104, 189, 190, 5, 191, 192, 193, 194, 195, 999, 1000, 1001, 1002, 1003, 1004, 1005, 1006, 1007, 1008, 1009, 1010, 1011, 1012, 1013] (by decide +kernel) (by decide +kernel)
set_option maxRecDepth 20000 in
theorem gL_law_X9_bog : GoodIn wsL_law (wsV RL 141 RX9 yX9_bog wsX9_bog) := goodIn_app (goodIn_of _ (by decide +kernel)) ggL_law_X9_bog
set_option maxRecDepth 20000 in
theorem ggL_law_L_claims : GoodIn wsL_law wsL_claims := goodIn_ca (goodIn_r _ [739, 114, 740, 741, 742, 2, 743, 120, 121, 16, 744, 125, 126, 127, 993, 994, 995, 996, 997, 998, 1014, 1015, 1016, 1017, 1018, 1019, 1020, 1021, 1022, 1023] (by decide +kernel) (by decide +kernel)) (goodIn_sub (fun _ h => List.mem_append_left _ (List.mem_append_left _ (List.mem_append_right _ h))) (by decide +kernel))
set_option maxRecDepth 20000 in
theorem gL_law_L_claims : GoodIn wsL_law (va_wsS RL 142 yL_claims wsL_claims) := goodIn_app (goodIn_of _ (by decide +kernel)) ggL_law_L_claims
set_option maxRecDepth 20000 in
theorem ggL_law_X9_claims : GoodIn wsL_law wsX9_claims := goodIn_r _ [748, 188, 104, 189, 190, 5, 191, 192, 193, 194, 195, 999, 1000, 1001, 1002, 1003, 1004, 1005, 1006, 1007, 1008, 1009, 1010, 1011, 1012, 1013] (by decide +kernel) (by decide +kernel)
