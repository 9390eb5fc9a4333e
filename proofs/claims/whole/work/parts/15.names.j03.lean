theorem dL_window_0 : decode cL_window 0 = .ok (.aload_n 3, 1) := by decide +kernel
theorem dL_window_1 : decode cL_window 1 = .ok (.iconst 0, 1) := by decide +kernel
theorem dL_window_2 : decode cL_window 2 = .ok (.aload_n 0, 1) := by decide +kernel
theorem dL_window_3 : decode cL_window 3 = .ok (.iload_n 1, 1) := by decide +kernel
theorem dL_window_4 : decode cL_window 4 = .ok (.iload_n 2, 1) := by decide +kernel
theorem dL_window_5 : decode cL_window 5 = .ok (.invokevirtual 76, 3) := by decide +kernel
theorem dL_window_8 : decode cL_window 8 = .ok (.i2l, 1) := by decide +kernel
theorem dL_window_9 : decode cL_window 9 = .ok (.lastore, 1) := by decide +kernel
theorem dL_window_10 : decode cL_window 10 = .ok (.goto 11, 3) := by decide +kernel
theorem dL_window_13 : decode cL_window 13 = .ok (.astore 4, 2) := by decide +kernel
theorem dL_window_15 : decode cL_window 15 = .ok (.iconst 1, 1) := by decide +kernel
theorem dL_window_16 : decode cL_window 16 = .ok (.ireturn, 1) := by decide +kernel
theorem dL_window_17 : decode cL_window 17 = .ok (.astore 4, 2) := by decide +kernel
theorem dL_window_19 : decode cL_window 19 = .ok (.iconst 2, 1) := by decide +kernel
theorem dL_window_20 : decode cL_window 20 = .ok (.ireturn, 1) := by decide +kernel
theorem dL_window_21 : decode cL_window 21 = .ok (.iconst 0, 1) := by decide +kernel
theorem dL_window_22 : decode cL_window 22 = .ok (.ireturn, 1) := by decide +kernel
set_option maxRecDepth 20000 in
theorem ggL_law_X8_init : GoodIn wsL_law wsX8_init := goodIn_r _ [9, 10, 11, 12, 13, 14, 15, 16, 17, 18, 19, 20, 21, 22, 23, 24, 25, 26, 27, 28, 29, 30, 31, 32, 33, 34, 35, 36, 37, 38, 39, 40, 41, 42, 43, 44, 45, 46, 47, 48, 49, 50, 51, 52, 53, 54, 55, 56, 57, 58, 59, 60, 61, 62, 63, 64, 65, 66, 67, 68, 69, 70, 71, 72, 73, 74, 75, 76, 77, 78, 79, 80, 81, 82, 83, 84, 85, 86, 87, 88, 89, 90, 91, 92, 93, 94, 95, 96, 97, 98, 99, 1014, 1015, 1016, 1017, 1018, 1019, 1020, 1021, 1022, 1023, 993, 994, 995, 996, 997, 998, 1024, 1025, 1026, 1027, 1028, 1029, 1030, 1031, 1032, 1033, 1034, 1035, 1036, 1037, 1038, 1039, 1040, 1041, 1042, 1043, 1044, 1045, 1046, 1047] (by decide +kernel) (by decide +kernel)
set_option maxRecDepth 20000 in
theorem gL_law_X8_init : GoodIn wsL_law (wsX8_init) := ggL_law_X8_init
set_option maxRecDepth 20000 in
theorem ggL_law_X9_init : GoodIn wsL_law wsX9_init := goodIn_r _ [102, 103, 11, 12, 52, 104, 105, 106, 107, 108, 109, 999, 1000, 1001, 1002, 1003, 1004, 1005, 1006, 1007, 1008, 1009, 1010, 1011, 1012, 1013] (by decide +kernel) (by decide +kernel)
set_option maxRecDepth 20000 in
theorem gL_law_X9_init : GoodIn wsL_law (wsX9_init) := ggL_law_X9_init
set_option maxRecDepth 20000 in
theorem ggL_law_L_addTurbine : GoodIn wsL_law wsL_addTurbine := goodIn_ca (goodIn_ca (goodIn_r _ [113, 114, 115, 116, 117, 118, 2, 119, 120, 121, 122, 123, 16, 124, 125, 126, 127, 128, 129, 130, 15, 131, 31, 30, 132, 133, 134, 135, 136, 18, 19, 20, 137, 138, 139, 140, 35, 39, 43, 47, 51, 53, 58, 59, 60, 61, 54, 55, 141, 142, 143, 57, 144, 145, 146, 147, 148, 149, 150, 151, 152, 153, 154, 34, 155, 65, 156, 66, 67, 157, 158, 159, 38, 160, 71, 161, 72, 73, 162, 163, 164, 42, 165, 77, 166, 78, 167, 168, 169, 46, 170, 82, 83, 84, 85, 86, 171, 172, 173, 50, 174, 90, 175, 91, 176, 177, 178, 179, 180, 181, 182, 183, 993, 994, 995, 996, 997, 998, 1014, 1015, 1016, 1017, 1018, 1019, 1020, 1021, 1022, 1023, 1041, 1042, 1043, 1044, 1045, 1046, 1047, 1026, 1027, 1028, 1029, 1030, 1031, 1032, 1033, 1034, 1035, 1036, 1037, 1038, 1039, 1040] (by decide +kernel) (by decide +kernel)) (goodIn_sub (fun _ h => List.mem_append_left _ (List.mem_append_left _ (List.mem_append_right _ h))) (by decide +kernel))) (goodIn_sub (fun _ h => List.mem_append_left _ (List.mem_append_right _ h)) (by decide +kernel))
set_option maxRecDepth 20000 in
theorem gL_law_L_addTurbine : GoodIn wsL_law (va_wsS RL 83 yL_addTurbine wsL_addTurbine) := goodIn_app (goodIn_of _ (by decide +kernel)) ggL_law_L_addTurbine
set_option maxRecDepth 20000 in
theorem ggL_law_X9_addTurbine : GoodIn wsL_law wsX9_addTurbine := goodIn_r _ [187, 188, 104, 189, 190, 5, 191, 192, 193, 194, 195, 196, 197, 198, 199, 200, 106, 999, 1000, 1001, 1002, 1003, 1004, 1005, 1006, 1007, 1008, 1009, 1010, 1011, 1012, 1013] (by decide +kernel) (by decide +kernel)
set_option maxRecDepth 20000 in
theorem gL_law_X9_addTurbine : GoodIn wsL_law (wsV RL 88 RX9 yX9_addTurbine wsX9_addTurbine) := goodIn_app (goodIn_of _ (by decide +kernel)) ggL_law_X9_addTurbine
set_option maxRecDepth 20000 in
theorem ggL_law_X9_thrown : GoodIn wsL_law wsX9_thrown := goodIn_r _ [204, 188, 999, 1000, 1001, 1002, 1003, 1004, 1005, 1006, 1007, 1008, 1009, 1010, 1011, 1012, 1013] (by decide +kernel) (by decide +kernel)
set_option maxRecDepth 20000 in
theorem gL_law_X9_thrown : GoodIn wsL_law (wsV RL 89 RX9 yX9_thrown wsX9_thrown) := goodIn_app (goodIn_of _ (by decide +kernel)) ggL_law_X9_thrown
set_option maxRecDepth 20000 in
theorem ggL_law_L_setFault : GoodIn wsL_law wsL_setFault := goodIn_ca (goodIn_ca (goodIn_r _ [207, 208, 114, 209, 210, 211, 2, 212, 120, 121, 16, 213, 214, 215, 216, 217, 218, 219, 220, 221, 222, 223, 224, 15, 225, 31, 125, 126, 127, 133, 134, 135, 136, 18, 19, 20, 137, 138, 139, 140, 30, 35, 39, 43, 47, 51, 53, 58, 59, 60, 61, 54, 55, 141, 142, 143, 57, 144, 145, 146, 147, 148, 149, 150, 151, 152, 153, 154, 34, 155, 65, 156, 66, 67, 157, 158, 159, 38, 160, 71, 161, 72, 73, 162, 163, 164, 42, 165, 77, 166, 78, 167, 168, 169, 46, 170, 82, 83, 84, 85, 86, 171, 172, 173, 50, 174, 90, 175, 91, 993, 994, 995, 996, 997, 998, 1014, 1015, 1016, 1017, 1018, 1019, 1020, 1021, 1022, 1023, 1041, 1042, 1043, 1044, 1045, 1046, 1047, 1026, 1027, 1028, 1029, 1030, 1031, 1032, 1033, 1034, 1035, 1036, 1037, 1038, 1039, 1040] (by decide +kernel) (by decide +kernel)) (goodIn_sub (fun _ h => List.mem_append_left _ (List.mem_append_left _ (List.mem_append_right _ h))) (by decide +kernel))) (goodIn_sub (fun _ h => List.mem_append_right _ h) (by decide +kernel))
set_option maxRecDepth 20000 in
theorem gL_law_L_setFault : GoodIn wsL_law (va_wsS RL 92 yL_setFault wsL_setFault) := goodIn_app (goodIn_of _ (by decide +kernel)) ggL_law_L_setFault
set_option maxRecDepth 20000 in
theorem ggL_law_X9_setFault : GoodIn wsL_law wsX9_setFault := goodIn_r _ [229, 188, 104, 230, 231, 232, 5, 233, 189, 190, 191, 192, 193, 194, 195, 196, 197, 198, 199, 200, 106, 999, 1000, 1001, 1002, 1003, 1004, 1005, 1006, 1007, 1008, 1009, 1010, 1011, 1012, 1013] (by decide +kernel) (by decide +kernel)
set_option maxRecDepth 20000 in
theorem gL_law_X9_setFault : GoodIn wsL_law (wsV RL 95 RX9 yX9_setFault wsX9_setFault) := goodIn_app (goodIn_of _ (by decide +kernel)) ggL_law_X9_setFault
set_option maxRecDepth 20000 in
theorem ggL_law_L_setBog : GoodIn wsL_law wsL_setBog := goodIn_ca (goodIn_ca (goodIn_r _ [236, 114, 115, 237, 238, 239, 2, 240, 120, 121, 122, 123, 16, 241, 242, 125, 126, 127, 243, 244, 245, 34, 246, 67, 247, 248, 249, 250, 65, 133, 134, 135, 136, 18, 19, 20, 137, 138, 139, 15, 140, 31, 30, 35, 39, 43, 47, 51, 53, 58, 59, 60, 61, 54, 55, 141, 142, 143, 57, 144, 145, 146, 147, 148, 149, 150, 151, 152, 153, 154, 155, 156, 66, 157, 158, 159, 38, 160, 71, 161, 72, 73, 162, 163, 164, 42, 165, 77, 166, 78, 167, 168, 169, 46, 170, 82, 83, 84, 85, 86, 171, 172, 173, 50, 174, 90, 175, 91, 251, 252, 253, 254, 255, 256, 257, 258, 259, 260, 261, 262, 263, 264, 993, 994, 995, 996, 997, 998, 1014, 1015, 1016, 1017, 1018, 1019, 1020, 1021, 1022, 1023, 1026, 1027, 1028, 1041, 1042, 1043, 1044, 1045, 1046, 1047, 1029, 1030, 1031, 1032, 1033, 1034, 1035, 1036, 1037, 1038, 1039, 1040] (by decide +kernel) (by decide +kernel)) (goodIn_sub (fun _ h => List.mem_append_left _ (List.mem_append_left _ (List.mem_append_right _ h))) (by decide +kernel))) (goodIn_sub (fun _ h => List.mem_append_left _ (List.mem_append_right _ h)) (by decide +kernel))
set_option maxRecDepth 20000 in
theorem gL_law_L_setBog : GoodIn wsL_law (va_wsS RL 96 yL_setBog wsL_setBog) := goodIn_app (goodIn_of _ (by decide +kernel)) ggL_law_L_setBog
