set_option maxRecDepth 20000 in
theorem ggX8_way_X2_hoursBetween : GoodIn wsX8_way wsX2_hoursBetween := goodIn_r _ [12, 13, 14, 15, 16, 17, 18, 19, 20, 21, 22, 23, 24, 25, 26, 27, 28, 29, 30, 31, 32, 39, 40, 41, 42, 43, 44, 45, 46, 47, 48, 49, 50, 51] (by decide +kernel) (by decide +kernel)
set_option maxRecDepth 20000 in
theorem gX8_way_X2_hoursBetween : GoodIn wsX8_way (wsV RX8 255 RX2 yX2_hoursBetween wsX2_hoursBetween) := goodIn_app (goodIn_of _ (by decide +kernel)) ggX8_way_X2_hoursBetween
theorem dX8_way_0 : decode cX8_way 0 = .ok (.iload_n 1, 1) := by decide +kernel
theorem dX8_way_1 : decode cX8_way 1 = .ok (.iconst 0, 1) := by decide +kernel
theorem dX8_way_2 : decode cX8_way 2 = .ok (.bipush 99, 2) := by decide +kernel
theorem dX8_way_4 : decode cX8_way 4 = .ok (.invokestatic 37, 3) := by decide +kernel
theorem dX8_way_7 : decode cX8_way 7 = .ok (.ifCond .eq 13, 3) := by decide +kernel
theorem dX8_way_10 : decode cX8_way 10 = .ok (.iload_n 2, 1) := by decide +kernel
theorem dX8_way_11 : decode cX8_way 11 = .ok (.iconst 0, 1) := by decide +kernel
theorem dX8_way_12 : decode cX8_way 12 = .ok (.bipush 99, 2) := by decide +kernel
theorem dX8_way_14 : decode cX8_way 14 = .ok (.invokestatic 37, 3) := by decide +kernel
theorem dX8_way_17 : decode cX8_way 17 = .ok (.ifCond .ne 13, 3) := by decide +kernel
theorem dX8_way_20 : decode cX8_way 20 = .ok (.new 41, 3) := by decide +kernel
theorem dX8_way_23 : decode cX8_way 23 = .ok (.dup, 1) := by decide +kernel
theorem dX8_way_24 : decode cX8_way 24 = .ok (.ldc 253, 2) := by decide +kernel
theorem dX8_way_26 : decode cX8_way 26 = .ok (.invokespecial 45, 3) := by decide +kernel
theorem dX8_way_29 : decode cX8_way 29 = .ok (.athrow, 1) := by decide +kernel
theorem dX8_way_30 : decode cX8_way 30 = .ok (.aload_n 0, 1) := by decide +kernel
theorem dX8_way_31 : decode cX8_way 31 = .ok (.getfield 10, 3) := by decide +kernel
theorem dX8_way_34 : decode cX8_way 34 = .ok (.iload_n 1, 1) := by decide +kernel
theorem dX8_way_35 : decode cX8_way 35 = .ok (.iload_n 2, 1) := by decide +kernel
theorem dX8_way_36 : decode cX8_way 36 = .ok (.invokevirtual 255, 3) := by decide +kernel
theorem dX8_way_39 : decode cX8_way 39 = .ok (.ireturn, 1) := by decide +kernel
set_option maxRecDepth 20000 in
theorem ggX8_ifPassed_X8_isWithin : GoodIn wsX8_ifPassed wsX8_isWithin := goodIn_r _ [8] (by decide +kernel) (by decide +kernel)
set_option maxRecDepth 20000 in
theorem gX8_ifPassed_X8_isWithin : GoodIn wsX8_ifPassed (va_wsS RX8 37 yX8_isWithin wsX8_isWithin) := goodIn_app (goodIn_of _ (by decide +kernel)) ggX8_ifPassed_X8_isWithin
set_option maxRecDepth 20000 in
theorem ggX8_ifPassed_X2_copyFrom : GoodIn wsX8_ifPassed wsX2_copyFrom := goodIn_r _ [13, 14, 15, 16, 17, 18, 19, 20, 21, 22, 23, 24, 25, 26, 27, 28, 29, 30, 31, 32, 33, 34, 35, 36, 37, 38, 39, 40, 41, 42, 43, 44, 45, 46, 47, 48, 49, 50, 51, 52, 53, 54, 55, 56, 57, 58, 59, 60, 61, 62, 63, 64, 65, 66, 67, 68, 69, 70, 71, 72, 73, 74, 75, 76, 77, 78, 79, 80, 81, 82, 83, 232, 233, 234, 235, 236, 237, 238, 239, 240, 241, 242, 243, 244, 245, 246, 247, 248, 249, 250, 251, 252, 253, 254, 255, 256, 257, 258, 259, 260, 261, 262, 263] (by decide +kernel) (by decide +kernel)
set_option maxRecDepth 20000 in
theorem gX8_ifPassed_X2_copyFrom : GoodIn wsX8_ifPassed (wsV RX8 215 RX2 yX2_copyFrom wsX2_copyFrom) := goodIn_app (goodIn_of _ (by decide +kernel)) ggX8_ifPassed_X2_copyFrom
set_option maxRecDepth 20000 in
theorem ggX8_ifPassed_X2_runHours : GoodIn wsX8_ifPassed wsX2_runHours := goodIn_r _ [87, 88, 89, 90, 12, 91, 17, 21, 18, 27, 92, 93, 94, 52, 95, 57, 56, 96, 97, 98, 99, 100, 101, 102, 103, 104, 19, 105, 15, 106, 107, 108, 109, 61, 110, 65, 63, 111, 112, 113, 69, 114, 75, 74, 115, 116, 117, 118, 14, 119, 120, 121, 122, 123, 124, 125, 126, 127, 128, 129, 130, 131, 132, 73, 133, 134, 135, 136, 137, 138, 139, 140, 141, 142, 16, 143, 144, 145, 146, 43, 147, 48, 45, 47, 148, 149, 150, 151, 72, 152, 71, 153, 154, 155, 156, 54, 157, 158, 159, 160, 20, 161, 162, 163, 79, 164, 83, 81, 165, 166, 167, 31, 168, 34, 169, 170, 171, 172, 173, 174, 175, 176, 177, 178, 26, 179, 180, 181, 182, 35, 183, 184, 185, 186, 187, 188, 189, 190, 191, 192, 193, 194, 195, 196, 197, 198, 199, 200, 201, 202, 203, 204, 205, 206, 207, 208, 209, 36, 37, 232, 233, 234, 235, 236, 237, 238, 239, 240, 241, 252, 253, 254, 255, 256, 257, 258, 259, 260, 261, 242, 243, 244, 245, 246, 247, 248, 249, 250, 251, 262, 263] (by decide +kernel) (by decide +kernel)
set_option maxRecDepth 20000 in
theorem gX8_ifPassed_X2_runHours : GoodIn wsX8_ifPassed (wsV RX8 175 RX2 yX2_runHours wsX2_runHours) := goodIn_app (goodIn_of _ (by decide +kernel)) ggX8_ifPassed_X2_runHours
set_option maxRecDepth 20000 in
theorem ggX8_ifPassed_X2_outcome : GoodIn wsX8_ifPassed wsX2_outcome := goodIn_r _ [213, 18, 104, 26, 214, 215, 216, 12, 217, 218, 219, 220, 221, 14, 15, 178, 222, 223, 224, 225, 106, 232, 233, 234, 235, 236, 237, 238, 239, 240, 241, 255, 256, 242, 243, 244, 245, 246, 247, 248] (by decide +kernel) (by decide +kernel)
set_option maxRecDepth 20000 in
theorem gX8_ifPassed_X2_outcome : GoodIn wsX8_ifPassed (wsV RX8 260 RX2 yX2_outcome wsX2_outcome) := goodIn_app (goodIn_of _ (by decide +kernel)) ggX8_ifPassed_X2_outcome
theorem dX8_ifPassed_0 : decode cX8_ifPassed 0 = .ok (.iload_n 1, 1) := by decide +kernel
theorem dX8_ifPassed_1 : decode cX8_ifPassed 1 = .ok (.iconst 1, 1) := by decide +kernel
theorem dX8_ifPassed_2 : decode cX8_ifPassed 2 = .ok (.sipush 200, 3) := by decide +kernel
theorem dX8_ifPassed_5 : decode cX8_ifPassed 5 = .ok (.invokestatic 37, 3) := by decide +kernel
theorem dX8_ifPassed_8 : decode cX8_ifPassed 8 = .ok (.ifCond .eq 13, 3) := by decide +kernel
theorem dX8_ifPassed_11 : decode cX8_ifPassed 11 = .ok (.iload_n 2, 1) := by decide +kernel
theorem dX8_ifPassed_12 : decode cX8_ifPassed 12 = .ok (.iconst 0, 1) := by decide +kernel
theorem dX8_ifPassed_13 : decode cX8_ifPassed 13 = .ok (.bipush 8, 2) := by decide +kernel
theorem dX8_ifPassed_15 : decode cX8_ifPassed 15 = .ok (.invokestatic 37, 3) := by decide +kernel
theorem dX8_ifPassed_18 : decode cX8_ifPassed 18 = .ok (.ifCond .ne 14, 3) := by decide +kernel
theorem dX8_ifPassed_21 : decode cX8_ifPassed 21 = .ok (.new 41, 3) := by decide +kernel
theorem dX8_ifPassed_24 : decode cX8_ifPassed 24 = .ok (.dup, 1) := by decide +kernel
theorem dX8_ifPassed_25 : decode cX8_ifPassed 25 = .ok (.ldc_w 258, 3) := by decide +kernel
theorem dX8_ifPassed_28 : decode cX8_ifPassed 28 = .ok (.invokespecial 45, 3) := by decide +kernel
theorem dX8_ifPassed_31 : decode cX8_ifPassed 31 = .ok (.athrow, 1) := by decide +kernel
theorem dX8_ifPassed_32 : decode cX8_ifPassed 32 = .ok (.aload_n 0, 1) := by decide +kernel
theorem dX8_ifPassed_33 : decode cX8_ifPassed 33 = .ok (.getfield 16, 3) := by decide +kernel
theorem dX8_ifPassed_36 : decode cX8_ifPassed 36 = .ok (.aload_n 0, 1) := by decide +kernel
theorem dX8_ifPassed_37 : decode cX8_ifPassed 37 = .ok (.getfield 10, 3) := by decide +kernel
theorem dX8_ifPassed_40 : decode cX8_ifPassed 40 = .ok (.invokevirtual 215, 3) := by decide +kernel
theorem dX8_ifPassed_43 : decode cX8_ifPassed 43 = .ok (.aload_n 0, 1) := by decide +kernel
theorem dX8_ifPassed_44 : decode cX8_ifPassed 44 = .ok (.getfield 16, 3) := by decide +kernel
theorem dX8_ifPassed_47 : decode cX8_ifPassed 47 = .ok (.iload_n 1, 1) := by decide +kernel
theorem dX8_ifPassed_48 : decode cX8_ifPassed 48 = .ok (.invokevirtual 175, 3) := by decide +kernel
theorem dX8_ifPassed_51 : decode cX8_ifPassed 51 = .ok (.pop, 1) := by decide +kernel
theorem dX8_ifPassed_52 : decode cX8_ifPassed 52 = .ok (.aload_n 0, 1) := by decide +kernel
theorem dX8_ifPassed_53 : decode cX8_ifPassed 53 = .ok (.getfield 16, 3) := by decide +kernel
theorem dX8_ifPassed_56 : decode cX8_ifPassed 56 = .ok (.iload_n 2, 1) := by decide +kernel
theorem dX8_ifPassed_57 : decode cX8_ifPassed 57 = .ok (.invokevirtual 260, 3) := by decide +kernel
theorem dX8_ifPassed_60 : decode cX8_ifPassed 60 = .ok (.ireturn, 1) := by decide +kernel
set_option maxRecDepth 20000 in
theorem ggX8_bestFirst_X2_copyFrom : GoodIn wsX8_bestFirst wsX2_copyFrom := goodIn_r _ [10, 11, 12, 13, 14, 15, 16, 17, 18, 19, 20, 21, 22, 23, 24, 25, 26, 27, 28, 29, 30, 31, 32, 33, 34, 35, 36, 37, 38, 39, 40, 41, 42, 43, 44, 45, 46, 47, 48, 49, 50, 51, 52, 53, 54, 55, 56, 57, 58, 59, 60, 61, 62, 63, 64, 65, 66, 67, 68, 69, 70, 71, 72, 73, 74, 75, 76, 77, 78, 79, 80, 219, 220, 221, 222, 223, 224, 225, 226, 227, 228, 231, 232, 233, 234, 235, 236, 237, 238, 239, 240, 241, 242, 243, 229, 230, 244, 245, 246, 247, 248, 249, 250] (by decide +kernel) (by decide +kernel)
set_option maxRecDepth 20000 in
theorem gX8_bestFirst_X2_copyFrom : GoodIn wsX8_bestFirst (wsV RX8 215 RX2 yX2_copyFrom wsX2_copyFrom) := goodIn_app (goodIn_of _ (by decide +kernel)) ggX8_bestFirst_X2_copyFrom
set_option maxRecDepth 20000 in
theorem ggX8_bestFirst_X4_moveTo : GoodIn wsX8_bestFirst wsX4_moveTo := goodIn_r _ [84, 62, 60, 85, 86, 87, 58, 88, 89, 90, 91, 92, 229, 230] (by decide +kernel) (by decide +kernel)
set_option maxRecDepth 20000 in
theorem gX8_bestFirst_X4_moveTo : GoodIn wsX8_bestFirst (wsV RX8 139 RX4 yX4_moveTo wsX4_moveTo) := goodIn_app (goodIn_of _ (by decide +kernel)) ggX8_bestFirst_X4_moveTo
set_option maxRecDepth 20000 in
theorem ggX8_bestFirst_X2_runHours : GoodIn wsX8_bestFirst wsX2_runHours := goodIn_r _ [96, 97, 98, 99, 9, 100, 14, 18, 15, 24, 101, 102, 103, 49, 104, 54, 53, 105, 106, 107, 108, 109, 110, 111, 112, 113, 16, 114, 12, 115, 116, 117, 118, 58, 119, 62, 60, 120, 121, 122, 66, 123, 72, 71, 124, 125, 126, 127, 11, 128, 90, 91, 92, 129, 130, 131, 132, 133, 134, 135, 136, 137, 138, 70, 139, 140, 141, 142, 143, 144, 145, 146, 147, 148, 13, 149, 150, 151, 152, 40, 153, 45, 42, 44, 154, 155, 156, 157, 69, 158, 68, 159, 160, 161, 162, 51, 163, 164, 165, 166, 17, 167, 168, 169, 76, 170, 80, 78, 171, 172, 173, 28, 174, 31, 175, 176, 177, 178, 179, 180, 181, 182, 183, 184, 23, 185, 186, 187, 188, 32, 189, 190, 191, 192, 193, 194, 195, 196, 197, 198, 199, 200, 201, 202, 203, 204, 86, 87, 88, 205, 206, 207, 208, 209, 210, 211, 212, 33, 34, 219, 220, 221, 222, 223, 224, 225, 226, 227, 228, 241, 242, 243, 229, 230, 244, 245, 246, 247, 248, 231, 232, 233, 234, 235, 236, 237, 238, 239, 240, 249, 250] (by decide +kernel) (by decide +kernel)
set_option maxRecDepth 20000 in
theorem gX8_bestFirst_X2_runHours : GoodIn wsX8_bestFirst (wsV RX8 175 RX2 yX2_runHours wsX2_runHours) := goodIn_app (goodIn_of _ (by decide +kernel)) ggX8_bestFirst_X2_runHours
theorem dX8_bestFirst_0 : decode cX8_bestFirst 0 = .ok (.iconst (-1), 1) := by decide +kernel
theorem dX8_bestFirst_1 : decode cX8_bestFirst 1 = .ok (.istore_n 1, 1) := by decide +kernel
theorem dX8_bestFirst_2 : decode cX8_bestFirst 2 = .ok (.iconst 0, 1) := by decide +kernel
theorem dX8_bestFirst_3 : decode cX8_bestFirst 3 = .ok (.istore_n 2, 1) := by decide +kernel
theorem dX8_bestFirst_4 : decode cX8_bestFirst 4 = .ok (.iconst 0, 1) := by decide +kernel
theorem dX8_bestFirst_5 : decode cX8_bestFirst 5 = .ok (.istore_n 3, 1) := by decide +kernel
theorem dX8_bestFirst_6 : decode cX8_bestFirst 6 = .ok (.iload_n 3, 1) := by decide +kernel
theorem dX8_bestFirst_7 : decode cX8_bestFirst 7 = .ok (.aload_n 0, 1) := by decide +kernel
theorem dX8_bestFirst_8 : decode cX8_bestFirst 8 = .ok (.getfield 10, 3) := by decide +kernel
theorem dX8_bestFirst_11 : decode cX8_bestFirst 11 = .ok (.getfield 125, 3) := by decide +kernel
theorem dX8_bestFirst_14 : decode cX8_bestFirst 14 = .ok (.getfield 142, 3) := by decide +kernel
theorem dX8_bestFirst_17 : decode cX8_bestFirst 17 = .ok (.if_icmp .ge 75, 3) := by decide +kernel
theorem dX8_bestFirst_20 : decode cX8_bestFirst 20 = .ok (.aload_n 0, 1) := by decide +kernel
theorem dX8_bestFirst_21 : decode cX8_bestFirst 21 = .ok (.getfield 10, 3) := by decide +kernel
theorem dX8_bestFirst_24 : decode cX8_bestFirst 24 = .ok (.getfield 125, 3) := by decide +kernel
theorem dX8_bestFirst_27 : decode cX8_bestFirst 27 = .ok (.getfield 263, 3) := by decide +kernel
theorem dX8_bestFirst_30 : decode cX8_bestFirst 30 = .ok (.iload_n 3, 1) := by decide +kernel
theorem dX8_bestFirst_31 : decode cX8_bestFirst 31 = .ok (.iaload, 1) := by decide +kernel
theorem dX8_bestFirst_32 : decode cX8_bestFirst 32 = .ok (.istore 4, 2) := by decide +kernel
theorem dX8_bestFirst_34 : decode cX8_bestFirst 34 = .ok (.aload_n 0, 1) := by decide +kernel
theorem dX8_bestFirst_35 : decode cX8_bestFirst 35 = .ok (.getfield 16, 3) := by decide +kernel
theorem dX8_bestFirst_38 : decode cX8_bestFirst 38 = .ok (.aload_n 0, 1) := by decide +kernel
theorem dX8_bestFirst_39 : decode cX8_bestFirst 39 = .ok (.getfield 10, 3) := by decide +kernel
theorem dX8_bestFirst_42 : decode cX8_bestFirst 42 = .ok (.invokevirtual 215, 3) := by decide +kernel
theorem dX8_bestFirst_45 : decode cX8_bestFirst 45 = .ok (.aload_n 0, 1) := by decide +kernel
theorem dX8_bestFirst_46 : decode cX8_bestFirst 46 = .ok (.getfield 16, 3) := by decide +kernel
theorem dX8_bestFirst_49 : decode cX8_bestFirst 49 = .ok (.getfield 125, 3) := by decide +kernel
theorem dX8_bestFirst_52 : decode cX8_bestFirst 52 = .ok (.iload 4, 2) := by decide +kernel
theorem dX8_bestFirst_54 : decode cX8_bestFirst 54 = .ok (.iconst 0, 1) := by decide +kernel
theorem dX8_bestFirst_55 : decode cX8_bestFirst 55 = .ok (.invokevirtual 139, 3) := by decide +kernel
theorem dX8_bestFirst_58 : decode cX8_bestFirst 58 = .ok (.aload_n 0, 1) := by decide +kernel
theorem dX8_bestFirst_59 : decode cX8_bestFirst 59 = .ok (.getfield 16, 3) := by decide +kernel
theorem dX8_bestFirst_62 : decode cX8_bestFirst 62 = .ok (.bipush 48, 2) := by decide +kernel
theorem dX8_bestFirst_64 : decode cX8_bestFirst 64 = .ok (.invokevirtual 175, 3) := by decide +kernel
theorem dX8_bestFirst_67 : decode cX8_bestFirst 67 = .ok (.istore 5, 2) := by decide +kernel
theorem dX8_bestFirst_69 : decode cX8_bestFirst 69 = .ok (.iload_n 1, 1) := by decide +kernel
theorem dX8_bestFirst_70 : decode cX8_bestFirst 70 = .ok (.iconst (-1), 1) := by decide +kernel
theorem dX8_bestFirst_71 : decode cX8_bestFirst 71 = .ok (.if_icmp .eq 9, 3) := by decide +kernel
theorem dX8_bestFirst_74 : decode cX8_bestFirst 74 = .ok (.iload 5, 2) := by decide +kernel
theorem dX8_bestFirst_76 : decode cX8_bestFirst 76 = .ok (.iload_n 2, 1) := by decide +kernel
theorem dX8_bestFirst_77 : decode cX8_bestFirst 77 = .ok (.if_icmp .ge 9, 3) := by decide +kernel
theorem dX8_bestFirst_80 : decode cX8_bestFirst 80 = .ok (.iload 4, 2) := by decide +kernel
theorem dX8_bestFirst_82 : decode cX8_bestFirst 82 = .ok (.istore_n 1, 1) := by decide +kernel
theorem dX8_bestFirst_83 : decode cX8_bestFirst 83 = .ok (.iload 5, 2) := by decide +kernel
theorem dX8_bestFirst_85 : decode cX8_bestFirst 85 = .ok (.istore_n 2, 1) := by decide +kernel
theorem dX8_bestFirst_86 : decode cX8_bestFirst 86 = .ok (.iinc 3 1, 3) := by decide +kernel
theorem dX8_bestFirst_89 : decode cX8_bestFirst 89 = .ok (.goto (-83), 3) := by decide +kernel
theorem dX8_bestFirst_92 : decode cX8_bestFirst 92 = .ok (.iload_n 1, 1) := by decide +kernel
theorem dX8_bestFirst_93 : decode cX8_bestFirst 93 = .ok (.ireturn, 1) := by decide +kernel
set_option maxRecDepth 20000 in
theorem ggX8_window_X8_requireTurbine : GoodIn wsX8_window wsX8_requireTurbine := goodIn_ca (goodIn_r _ [8, 9, 10, 3, 11, 12, 13, 14, 15, 16, 42, 43, 44, 45, 46, 47, 48, 49, 50, 51, 52, 53, 54, 55, 56, 57] (by decide +kernel) (by decide +kernel)) (goodIn_sub (fun _ h => List.mem_cons_of_mem _ (List.mem_append_right _ h)) (by decide +kernel))
set_option maxRecDepth 20000 in
theorem gX8_window_X8_requireTurbine : GoodIn wsX8_window (wsV RX8 67 RX8 yX8_requireTurbine wsX8_requireTurbine) := goodIn_app (goodIn_of _ (by decide +kernel)) ggX8_window_X8_requireTurbine
set_option maxRecDepth 20000 in
theorem ggX8_window_X8_isWithin : GoodIn wsX8_window wsX8_isWithin := goodIn_r _ [19] (by decide +kernel) (by decide +kernel)
set_option maxRecDepth 20000 in
theorem gX8_window_X8_isWithin : GoodIn wsX8_window (va_wsS RX8 37 yX8_isWithin wsX8_isWithin) := goodIn_app (goodIn_of _ (by decide +kernel)) ggX8_window_X8_isWithin
set_option maxRecDepth 20000 in
theorem ggX8_window_X2_hoursUntilCalm : GoodIn wsX8_window wsX2_hoursUntilCalm := goodIn_r _ [23, 24, 25, 26, 27, 28, 12, 13, 14, 15, 16, 29, 30, 31, 32, 33, 34, 35, 36, 37, 38, 39, 40, 41, 48, 49, 50, 51, 52, 53, 54, 55, 56, 57, 58, 59, 60, 61, 62, 63, 64, 65, 66] (by decide +kernel) (by decide +kernel)
set_option maxRecDepth 20000 in
theorem gX8_window_X2_hoursUntilCalm : GoodIn wsX8_window (wsV RX8 268 RX2 yX2_hoursUntilCalm wsX2_hoursUntilCalm) := goodIn_app (goodIn_of _ (by decide +kernel)) ggX8_window_X2_hoursUntilCalm
theorem dX8_window_0 : decode cX8_window 0 = .ok (.aload_n 0, 1) := by decide +kernel
theorem dX8_window_1 : decode cX8_window 1 = .ok (.iload_n 1, 1) := by decide +kernel
theorem dX8_window_2 : decode cX8_window 2 = .ok (.invokevirtual 67, 3) := by decide +kernel
theorem dX8_window_5 : decode cX8_window 5 = .ok (.iload_n 2, 1) := by decide +kernel
theorem dX8_window_6 : decode cX8_window 6 = .ok (.iconst 1, 1) := by decide +kernel
theorem dX8_window_7 : decode cX8_window 7 = .ok (.bipush 24, 2) := by decide +kernel
theorem dX8_window_9 : decode cX8_window 9 = .ok (.invokestatic 37, 3) := by decide +kernel
theorem dX8_window_12 : decode cX8_window 12 = .ok (.ifCond .ne 14, 3) := by decide +kernel
theorem dX8_window_15 : decode cX8_window 15 = .ok (.new 41, 3) := by decide +kernel
theorem dX8_window_18 : decode cX8_window 18 = .ok (.dup, 1) := by decide +kernel
theorem dX8_window_19 : decode cX8_window 19 = .ok (.ldc_w 266, 3) := by decide +kernel
theorem dX8_window_22 : decode cX8_window 22 = .ok (.invokespecial 45, 3) := by decide +kernel
theorem dX8_window_25 : decode cX8_window 25 = .ok (.athrow, 1) := by decide +kernel
theorem dX8_window_26 : decode cX8_window 26 = .ok (.aload_n 0, 1) := by decide +kernel
theorem dX8_window_27 : decode cX8_window 27 = .ok (.getfield 10, 3) := by decide +kernel
theorem dX8_window_30 : decode cX8_window 30 = .ok (.iload_n 1, 1) := by decide +kernel
theorem dX8_window_31 : decode cX8_window 31 = .ok (.iload_n 2, 1) := by decide +kernel
theorem dX8_window_32 : decode cX8_window 32 = .ok (.invokevirtual 268, 3) := by decide +kernel
theorem dX8_window_35 : decode cX8_window 35 = .ok (.ireturn, 1) := by decide +kernel
set_option maxRecDepth 20000 in
theorem ggX8_doneIn_X2_copyFrom : GoodIn wsX8_doneIn wsX2_copyFrom := goodIn_r _ [9, 10, 11, 12, 13, 14, 15, 16, 17, 18, 19, 20, 21, 22, 23, 24, 25, 26, 27, 28, 29, 30, 31, 32, 33, 34, 35, 36, 37, 38, 39, 40, 41, 42, 43, 44, 45, 46, 47, 48, 49, 50, 51, 52, 53, 54, 55, 56, 57, 58, 59, 60, 61, 62, 63, 64, 65, 66, 67, 68, 69, 70, 71, 72, 73, 74, 75, 76, 77, 78, 79, 208, 209, 210, 211, 212, 213, 214, 215, 216, 217, 220, 221, 222, 223, 224, 225, 226, 227, 228, 229, 230, 231, 232, 218, 219, 233, 234, 235, 236, 237, 238, 239] (by decide +kernel) (by decide +kernel)
set_option maxRecDepth 20000 in
theorem gX8_doneIn_X2_copyFrom : GoodIn wsX8_doneIn (wsV RX8 215 RX2 yX2_copyFrom wsX2_copyFrom) := goodIn_app (goodIn_of _ (by decide +kernel)) ggX8_doneIn_X2_copyFrom
set_option maxRecDepth 20000 in
theorem ggX8_doneIn_X2_runHour : GoodIn wsX8_doneIn wsX2_runHour := goodIn_r _ [83, 13, 17, 14, 23, 84, 85, 86, 48, 87, 53, 52, 88, 89, 90, 91, 92, 93, 94, 8, 95, 96, 15, 97, 11, 98, 99, 100, 101, 57, 102, 61, 59, 103, 104, 105, 65, 106, 71, 70, 107, 108, 109, 110, 10, 111, 112, 113, 114, 115, 116, 117, 118, 119, 120, 121, 122, 123, 124, 69, 125, 126, 127, 128, 129, 130, 131, 132, 133, 134, 12, 135, 136, 137, 138, 39, 139, 44, 41, 43, 140, 141, 142, 143, 68, 144, 67, 145, 146, 147, 148, 50, 149, 150, 151, 152, 16, 153, 154, 155, 75, 156, 79, 77, 157, 158, 159, 27, 160, 30, 161, 162, 163, 164, 165, 166, 167, 168, 169, 170, 22, 171, 172, 173, 174, 31, 175, 176, 177, 178, 179, 180, 181, 182, 183, 184, 185, 186, 187, 188, 189, 190, 191, 192, 193, 194, 195, 196, 197, 198, 199, 200, 201, 32, 33, 208, 209, 210, 211, 212, 213, 214, 215, 216, 217, 230, 231, 232, 218, 219, 233, 234, 235, 236, 237, 220, 221, 222, 223, 224, 225, 226, 227, 228, 229, 238, 239] (by decide +kernel) (by decide +kernel)
set_option maxRecDepth 20000 in
theorem gX8_doneIn_X2_runHour : GoodIn wsX8_doneIn (wsV RX8 271 RX2 yX2_runHour wsX2_runHour) := goodIn_app (goodIn_of _ (by decide +kernel)) ggX8_doneIn_X2_runHour
theorem dX8_doneIn_0 : decode cX8_doneIn 0 = .ok (.aload_n 0, 1) := by decide +kernel
theorem dX8_doneIn_1 : decode cX8_doneIn 1 = .ok (.getfield 16, 3) := by decide +kernel
theorem dX8_doneIn_4 : decode cX8_doneIn 4 = .ok (.aload_n 0, 1) := by decide +kernel
theorem dX8_doneIn_5 : decode cX8_doneIn 5 = .ok (.getfield 10, 3) := by decide +kernel
theorem dX8_doneIn_8 : decode cX8_doneIn 8 = .ok (.invokevirtual 215, 3) := by decide +kernel
theorem dX8_doneIn_11 : decode cX8_doneIn 11 = .ok (.iconst 0, 1) := by decide +kernel
theorem dX8_doneIn_12 : decode cX8_doneIn 12 = .ok (.istore_n 1, 1) := by decide +kernel
theorem dX8_doneIn_13 : decode cX8_doneIn 13 = .ok (.iload_n 1, 1) := by decide +kernel
theorem dX8_doneIn_14 : decode cX8_doneIn 14 = .ok (.sipush 500, 3) := by decide +kernel
theorem dX8_doneIn_17 : decode cX8_doneIn 17 = .ok (.if_icmp .gt 32, 3) := by decide +kernel
theorem dX8_doneIn_20 : decode cX8_doneIn 20 = .ok (.aload_n 0, 1) := by decide +kernel
theorem dX8_doneIn_21 : decode cX8_doneIn 21 = .ok (.getfield 16, 3) := by decide +kernel
theorem dX8_doneIn_24 : decode cX8_doneIn 24 = .ok (.getfield 125, 3) := by decide +kernel
theorem dX8_doneIn_27 : decode cX8_doneIn 27 = .ok (.getfield 142, 3) := by decide +kernel
theorem dX8_doneIn_30 : decode cX8_doneIn 30 = .ok (.ifCond .ne 5, 3) := by decide +kernel
theorem dX8_doneIn_33 : decode cX8_doneIn 33 = .ok (.iload_n 1, 1) := by decide +kernel
theorem dX8_doneIn_34 : decode cX8_doneIn 34 = .ok (.ireturn, 1) := by decide +kernel
theorem dX8_doneIn_35 : decode cX8_doneIn 35 = .ok (.aload_n 0, 1) := by decide +kernel
theorem dX8_doneIn_36 : decode cX8_doneIn 36 = .ok (.getfield 16, 3) := by decide +kernel
theorem dX8_doneIn_39 : decode cX8_doneIn 39 = .ok (.invokevirtual 271, 3) := by decide +kernel
theorem dX8_doneIn_42 : decode cX8_doneIn 42 = .ok (.pop, 1) := by decide +kernel
theorem dX8_doneIn_43 : decode cX8_doneIn 43 = .ok (.iinc 1 1, 3) := by decide +kernel
theorem dX8_doneIn_46 : decode cX8_doneIn 46 = .ok (.goto (-33), 3) := by decide +kernel
theorem dX8_doneIn_49 : decode cX8_doneIn 49 = .ok (.iconst (-1), 1) := by decide +kernel
theorem dX8_doneIn_50 : decode cX8_doneIn 50 = .ok (.ireturn, 1) := by decide +kernel
set_option maxRecDepth 20000 in
theorem ggX8_meanWind_X7_sum : GoodIn wsX8_meanWind wsX7_sum := goodIn_r _ [9, 10, 11, 28, 29] (by decide +kernel) (by decide +kernel)
set_option maxRecDepth 20000 in
theorem gX8_meanWind_X7_sum : GoodIn wsX8_meanWind (wsV RX8 274 RX7 yX7_sum wsX7_sum) := goodIn_app (goodIn_of _ (by decide +kernel)) ggX8_meanWind_X7_sum
theorem dX8_meanWind_0 : decode cX8_meanWind 0 = .ok (.aload_n 0, 1) := by decide +kernel
theorem dX8_meanWind_1 : decode cX8_meanWind 1 = .ok (.getfield 10, 3) := by decide +kernel
theorem dX8_meanWind_4 : decode cX8_meanWind 4 = .ok (.getfield 202, 3) := by decide +kernel
theorem dX8_meanWind_7 : decode cX8_meanWind 7 = .ok (.getfield 210, 3) := by decide +kernel
theorem dX8_meanWind_10 : decode cX8_meanWind 10 = .ok (.istore_n 1, 1) := by decide +kernel
theorem dX8_meanWind_11 : decode cX8_meanWind 11 = .ok (.iload_n 1, 1) := by decide +kernel
theorem dX8_meanWind_12 : decode cX8_meanWind 12 = .ok (.ifCond .le 20, 3) := by decide +kernel
theorem dX8_meanWind_15 : decode cX8_meanWind 15 = .ok (.aload_n 0, 1) := by decide +kernel
theorem dX8_meanWind_16 : decode cX8_meanWind 16 = .ok (.getfield 10, 3) := by decide +kernel
theorem dX8_meanWind_19 : decode cX8_meanWind 19 = .ok (.getfield 202, 3) := by decide +kernel
theorem dX8_meanWind_22 : decode cX8_meanWind 22 = .ok (.invokevirtual 274, 3) := by decide +kernel
theorem dX8_meanWind_25 : decode cX8_meanWind 25 = .ok (.i2f, 1) := by decide +kernel
theorem dX8_meanWind_26 : decode cX8_meanWind 26 = .ok (.iload_n 1, 1) := by decide +kernel
theorem dX8_meanWind_27 : decode cX8_meanWind 27 = .ok (.i2f, 1) := by decide +kernel
theorem dX8_meanWind_28 : decode cX8_meanWind 28 = .ok (.fdiv, 1) := by decide +kernel
theorem dX8_meanWind_29 : decode cX8_meanWind 29 = .ok (.goto 6, 3) := by decide +kernel
theorem dX8_meanWind_32 : decode cX8_meanWind 32 = .ok (.ldc_w 277, 3) := by decide +kernel
theorem dX8_meanWind_35 : decode cX8_meanWind 35 = .ok (.freturn, 1) := by decide +kernel
set_option maxRecDepth 20000 in
theorem ggX8_lostShare_X2_lostPower : GoodIn wsX8_lostShare wsX2_lostPower := goodIn_r _ [6, 7, 21, 22, 23, 24, 25, 26, 27, 28, 29, 30] (by decide +kernel) (by decide +kernel)
set_option maxRecDepth 20000 in
theorem gX8_lostShare_X2_lostPower : GoodIn wsX8_lostShare (wsV RX8 278 RX2 yX2_lostPower wsX2_lostPower) := goodIn_app (goodIn_of _ (by decide +kernel)) ggX8_lostShare_X2_lostPower
set_option maxRecDepth 20000 in
theorem ggX8_lostShare_X2_wonPower : GoodIn wsX8_lostShare wsX2_wonPower := goodIn_r _ [11, 12, 13, 14, 21, 22, 23, 24, 25, 26, 27, 28, 29, 30, 31, 32, 33, 34, 35, 36, 37] (by decide +kernel) (by decide +kernel)
set_option maxRecDepth 20000 in
theorem gX8_lostShare_X2_wonPower : GoodIn wsX8_lostShare (wsV RX8 281 RX2 yX2_wonPower wsX2_wonPower) := goodIn_app (goodIn_of _ (by decide +kernel)) ggX8_lostShare_X2_wonPower
theorem dX8_lostShare_0 : decode cX8_lostShare 0 = .ok (.aload_n 0, 1) := by decide +kernel
theorem dX8_lostShare_1 : decode cX8_lostShare 1 = .ok (.getfield 10, 3) := by decide +kernel
theorem dX8_lostShare_4 : decode cX8_lostShare 4 = .ok (.invokevirtual 278, 3) := by decide +kernel
theorem dX8_lostShare_7 : decode cX8_lostShare 7 = .ok (.istore_n 1, 1) := by decide +kernel
theorem dX8_lostShare_8 : decode cX8_lostShare 8 = .ok (.iload_n 1, 1) := by decide +kernel
theorem dX8_lostShare_9 : decode cX8_lostShare 9 = .ok (.aload_n 0, 1) := by decide +kernel
theorem dX8_lostShare_10 : decode cX8_lostShare 10 = .ok (.getfield 10, 3) := by decide +kernel
theorem dX8_lostShare_13 : decode cX8_lostShare 13 = .ok (.invokevirtual 281, 3) := by decide +kernel
theorem dX8_lostShare_16 : decode cX8_lostShare 16 = .ok (.iadd, 1) := by decide +kernel
theorem dX8_lostShare_17 : decode cX8_lostShare 17 = .ok (.istore_n 2, 1) := by decide +kernel
theorem dX8_lostShare_18 : decode cX8_lostShare 18 = .ok (.iload_n 2, 1) := by decide +kernel
theorem dX8_lostShare_19 : decode cX8_lostShare 19 = .ok (.ifCond .le 11, 3) := by decide +kernel
theorem dX8_lostShare_22 : decode cX8_lostShare 22 = .ok (.iload_n 1, 1) := by decide +kernel
theorem dX8_lostShare_23 : decode cX8_lostShare 23 = .ok (.i2d, 1) := by decide +kernel
theorem dX8_lostShare_24 : decode cX8_lostShare 24 = .ok (.iload_n 2, 1) := by decide +kernel
theorem dX8_lostShare_25 : decode cX8_lostShare 25 = .ok (.i2d, 1) := by decide +kernel
theorem dX8_lostShare_26 : decode cX8_lostShare 26 = .ok (.ddiv, 1) := by decide +kernel
theorem dX8_lostShare_27 : decode cX8_lostShare 27 = .ok (.goto 4, 3) := by decide +kernel
theorem dX8_lostShare_30 : decode cX8_lostShare 30 = .ok (.dconst 0, 1) := by decide +kernel
theorem dX8_lostShare_31 : decode cX8_lostShare 31 = .ok (.dreturn, 1) := by decide +kernel
set_option maxRecDepth 20000 in
theorem ggX8_digest_X8_numberOf : GoodIn wsX8_digest wsX8_numberOf := goodIn_r _ [11, 3, 12, 13, 14, 15, 16, 17, 18, 19, 20, 21, 22, 23, 24, 25, 26, 27, 28, 29, 30, 31, 32, 33, 34, 35, 36, 37, 38, 39, 40, 41, 42, 43, 44, 45, 46, 47, 48, 49, 50, 51, 52, 53, 54, 55, 56, 57, 58, 59, 60, 61, 62, 63, 64, 65, 66, 67, 68, 69, 316, 317, 318, 319, 320, 321, 324, 325, 326, 327, 328, 329, 330, 331, 332, 333, 334, 335, 336, 337, 338, 339, 340, 341, 342, 343, 344, 345, 346, 347, 348, 349, 350, 351, 352] (by decide +kernel) (by decide +kernel)
set_option maxRecDepth 20000 in
theorem gX8_digest_X8_numberOf : GoodIn wsX8_digest (wsV RX8 250 RX8 yX8_numberOf wsX8_numberOf) := goodIn_app (goodIn_of _ (by decide +kernel)) ggX8_digest_X8_numberOf
set_option maxRecDepth 20000 in
theorem ggX8_digest_X8_mix : GoodIn wsX8_digest wsX8_mix := goodIn_r _ [72, 73] (by decide +kernel) (by decide +kernel)
set_option maxRecDepth 20000 in
theorem gX8_digest_X8_mix : GoodIn wsX8_digest (va_wsS RX8 286 yX8_mix wsX8_mix) := goodIn_app (goodIn_of _ (by decide +kernel)) ggX8_digest_X8_mix
set_option maxRecDepth 20000 in
theorem ggX8_digest_X8_mixFarm : GoodIn wsX8_digest wsX8_mixFarm := goodIn_r _ [77, 3, 78, 13, 22, 23, 79, 80, 81, 82, 83, 84, 85, 70, 71, 10, 72, 73, 86, 87, 88, 28, 89, 31, 90, 91, 92, 32, 93, 94, 95, 96, 97, 69, 98, 99, 100, 101, 30, 102, 103, 104, 105, 106, 107, 108, 109, 110, 49, 111, 51, 52, 112, 113, 114, 115, 116, 117, 118, 119, 120, 34, 35, 36, 37, 38, 39, 40, 41, 42, 43, 44, 45, 121, 122, 123, 124, 125, 126, 127, 128, 129, 130, 131, 132, 133, 316, 317, 318, 319, 320, 321, 324, 325, 326, 327, 328, 329, 330, 331, 332, 333, 343, 344, 345, 353, 354, 355, 346, 347, 348, 349, 350, 351, 352, 336, 337, 334, 335] (by decide +kernel) (by decide +kernel)
set_option maxRecDepth 20000 in
theorem gX8_digest_X8_mixFarm : GoodIn wsX8_digest (wsV RX8 290 RX8 yX8_mixFarm wsX8_mixFarm) := goodIn_app (goodIn_of _ (by decide +kernel)) ggX8_digest_X8_mixFarm
set_option maxRecDepth 20000 in
theorem ggX8_digest_X2_copyFrom : GoodIn wsX8_digest wsX2_copyFrom := goodIn_r _ [137, 30, 31, 138, 96, 95, 139, 37, 94, 140, 141, 142, 143, 64, 38, 144, 145, 146, 105, 147, 148, 107, 125, 149, 150, 151, 152, 153, 154, 155, 156, 157, 158, 159, 160, 161, 162, 163, 164, 115, 165, 118, 166, 119, 117, 167, 168, 169, 49, 170, 52, 171, 51, 172, 173, 174, 56, 175, 176, 177, 178, 59, 58, 179, 180, 181, 42, 182, 45, 183, 44, 324, 325, 326, 327, 328, 329, 330, 331, 332, 333, 346, 347, 348, 349, 350, 351, 352, 353, 354, 355, 343, 344, 345, 336, 337, 338, 339, 340, 341, 342, 334, 335] (by decide +kernel) (by decide +kernel)
set_option maxRecDepth 20000 in
theorem gX8_digest_X2_copyFrom : GoodIn wsX8_digest (wsV RX8 215 RX2 yX2_copyFrom wsX2_copyFrom) := goodIn_app (goodIn_of _ (by decide +kernel)) ggX8_digest_X2_copyFrom
set_option maxRecDepth 20000 in
theorem ggX8_digest_X2_runHours : GoodIn wsX8_digest wsX2_runHours := goodIn_r _ [187, 188, 189, 190, 28, 191, 96, 94, 95, 38, 192, 193, 194, 115, 195, 117, 119, 196, 127, 128, 129, 197, 198, 199, 200, 201, 139, 202, 31, 32, 203, 47, 48, 49, 50, 51, 52, 204, 205, 206, 56, 207, 58, 59, 98, 99, 100, 101, 30, 208, 209, 210, 211, 212, 213, 214, 215, 216, 90, 217, 218, 219, 220, 178, 221, 222, 223, 224, 225, 226, 227, 228, 229, 230, 138, 231, 232, 233, 234, 156, 235, 161, 158, 160, 236, 237, 238, 239, 177, 240, 176, 112, 113, 114, 116, 118, 120, 34, 35, 36, 37, 39, 40, 41, 42, 43, 44, 45, 102, 103, 104, 105, 106, 107, 241, 242, 243, 244, 245, 246, 247, 248, 97, 69, 64, 121, 122, 123, 124, 125, 126, 249, 250, 251, 252, 253, 93, 254, 255, 256, 257, 258, 259, 260, 261, 108, 109, 110, 111, 262, 263, 264, 265, 266, 267, 268, 269, 149, 150, 324, 325, 326, 327, 328, 329, 330, 331, 332, 333, 343, 344, 345, 336, 337, 338, 339, 340, 341, 342, 346, 347, 348, 349, 350, 351, 352, 353, 354, 355, 334, 335] (by decide +kernel) (by decide +kernel)
set_option maxRecDepth 20000 in
theorem gX8_digest_X2_runHours : GoodIn wsX8_digest (wsV RX8 175 RX2 yX2_runHours wsX2_runHours) := goodIn_app (goodIn_of _ (by decide +kernel)) ggX8_digest_X2_runHours
set_option maxRecDepth 20000 in
theorem ggX8_digest_X2_outcome : GoodIn wsX8_digest wsX2_outcome := goodIn_r _ [273, 95, 201, 64, 274, 61, 62, 28, 63, 275, 66, 67, 68, 30, 31, 69, 276, 26, 27, 29, 32, 324, 325, 326, 327, 328, 329, 330, 331, 332, 333, 336, 337, 346, 347, 348, 349, 350, 351, 352] (by decide +kernel) (by decide +kernel)
set_option maxRecDepth 20000 in
theorem gX8_digest_X2_outcome : GoodIn wsX8_digest (wsV RX8 260 RX2 yX2_outcome wsX2_outcome) := goodIn_app (goodIn_of _ (by decide +kernel)) ggX8_digest_X2_outcome
set_option maxRecDepth 20000 in
theorem ggX8_digest_X8_bestFirst : GoodIn wsX8_digest wsX8_bestFirst := goodIn_r _ [280, 3, 17, 18, 281, 2, 134, 135, 136, 28, 137, 30, 31, 138, 96, 95, 139, 37, 94, 140, 141, 142, 143, 64, 38, 144, 145, 146, 105, 147, 148, 107, 125, 149, 150, 151, 152, 153, 154, 155, 156, 157, 158, 159, 160, 161, 162, 163, 164, 115, 165, 118, 166, 119, 117, 167, 168, 169, 49, 170, 52, 171, 51, 172, 173, 174, 56, 175, 176, 177, 178, 59, 58, 179, 180, 181, 42, 182, 45, 183, 44, 282, 283, 284, 285, 286, 109, 110, 111, 287, 209, 210, 211, 184, 185, 186, 187, 188, 189, 190, 191, 192, 193, 194, 195, 196, 127, 128, 129, 197, 198, 199, 200, 201, 202, 32, 203, 47, 48, 50, 204, 205, 206, 207, 98, 99, 100, 101, 208, 212, 213, 214, 215, 216, 90, 217, 218, 219, 220, 221, 222, 223, 224, 225, 226, 227, 228, 229, 230, 231, 232, 233, 234, 235, 236, 237, 238, 239, 240, 112, 113, 114, 116, 120, 34, 35, 36, 39, 40, 41, 43, 102, 103, 104, 106, 241, 242, 243, 244, 245, 246, 247, 248, 97, 69, 121, 122, 123, 124, 126, 249, 250, 251, 252, 253, 93, 254, 255, 256, 257, 258, 259, 260, 261, 108, 262, 263, 264, 265, 266, 267, 268, 269, 316, 317, 318, 319, 320, 321, 324, 325, 326, 327, 328, 329, 330, 331, 332, 333, 336, 337, 346, 347, 348, 349, 350, 351, 352, 353, 354, 355, 343, 344, 345, 338, 339, 340, 341, 342, 334, 335] (by decide +kernel) (by decide +kernel)
set_option maxRecDepth 20000 in
theorem gX8_digest_X8_bestFirst : GoodIn wsX8_digest (wsV RX8 294 RX8 yX8_bestFirst wsX8_bestFirst) := goodIn_app (goodIn_of _ (by decide +kernel)) ggX8_digest_X8_bestFirst
set_option maxRecDepth 20000 in
theorem ggX8_digest_X8_doneIn : GoodIn wsX8_digest wsX8_doneIn := goodIn_r _ [291, 2, 3, 17, 18, 134, 135, 136, 28, 137, 30, 31, 138, 96, 95, 139, 37, 94, 140, 141, 142, 143, 64, 38, 144, 145, 146, 105, 147, 148, 107, 125, 149, 150, 151, 152, 153, 154, 155, 156, 157, 158, 159, 160, 161, 162, 163, 164, 115, 165, 118, 166, 119, 117, 167, 168, 169, 49, 170, 52, 171, 51, 172, 173, 174, 56, 175, 176, 177, 178, 59, 58, 179, 180, 181, 42, 182, 45, 183, 44, 292, 189, 190, 191, 192, 193, 194, 195, 196, 127, 128, 129, 197, 198, 199, 200, 201, 202, 32, 203, 47, 48, 50, 204, 205, 206, 207, 98, 99, 100, 101, 208, 209, 210, 211, 212, 213, 214, 215, 216, 90, 217, 218, 219, 220, 221, 222, 223, 224, 225, 226, 227, 228, 229, 230, 231, 232, 233, 234, 235, 236, 237, 238, 239, 240, 112, 113, 114, 116, 120, 34, 35, 36, 39, 40, 41, 43, 102, 103, 104, 106, 241, 242, 243, 244, 245, 246, 247, 248, 97, 69, 121, 122, 123, 124, 126, 249, 250, 251, 252, 253, 93, 254, 255, 256, 257, 258, 259, 260, 261, 108, 109, 110, 111, 262, 263, 264, 265, 266, 267, 268, 269, 316, 317, 318, 319, 320, 321, 324, 325, 326, 327, 328, 329, 330, 331, 332, 333, 336, 337, 346, 347, 348, 349, 350, 351, 352, 353, 354, 355, 343, 344, 345, 338, 339, 340, 341, 342, 334, 335] (by decide +kernel) (by decide +kernel)
set_option maxRecDepth 20000 in
theorem gX8_digest_X8_doneIn : GoodIn wsX8_digest (wsV RX8 297 RX8 yX8_doneIn wsX8_doneIn) := goodIn_app (goodIn_of _ (by decide +kernel)) ggX8_digest_X8_doneIn
set_option maxRecDepth 20000 in
theorem ggX8_digest_X8_meanWind : GoodIn wsX8_digest wsX8_meanWind := goodIn_r _ [296, 3, 15, 16, 297, 298, 299, 300, 42, 301, 44, 45, 316, 317, 318, 319, 320, 321, 324, 325, 326, 327, 328, 329, 330, 331, 332, 333, 334, 335] (by decide +kernel) (by decide +kernel)
set_option maxRecDepth 20000 in
theorem gX8_digest_X8_meanWind : GoodIn wsX8_digest (wsV RX8 300 RX8 yX8_meanWind wsX8_meanWind) := goodIn_app (goodIn_of _ (by decide +kernel)) ggX8_digest_X8_meanWind
set_option maxRecDepth 20000 in
theorem ggX8_digest_X8_bitsOfFloat : GoodIn wsX8_digest wsX8_bitsOfFloat := goodIn_r _ [304, 305] (by decide +kernel) (by decide +kernel)
set_option maxRecDepth 20000 in
theorem gX8_digest_X8_bitsOfFloat : GoodIn wsX8_digest (va_wsS RX8 304 yX8_bitsOfFloat wsX8_bitsOfFloat) := goodIn_app (goodIn_of _ (by decide +kernel)) ggX8_digest_X8_bitsOfFloat
set_option maxRecDepth 20000 in
theorem ggX8_digest_X8_lostShare : GoodIn wsX8_digest wsX8_lostShare := goodIn_r _ [309, 3, 60, 61, 62, 28, 63, 64, 65, 66, 67, 68, 30, 31, 69, 316, 317, 318, 319, 320, 321, 324, 325, 326, 327, 328, 329, 330, 331, 332, 333, 346, 347, 348, 349, 350, 351, 352] (by decide +kernel) (by decide +kernel)
set_option maxRecDepth 20000 in
theorem gX8_digest_X8_lostShare : GoodIn wsX8_digest (wsV RX8 308 RX8 yX8_lostShare wsX8_lostShare) := goodIn_app (goodIn_of _ (by decide +kernel)) ggX8_digest_X8_lostShare
set_option maxRecDepth 20000 in
theorem ggX8_digest_X8_bitsOfDouble : GoodIn wsX8_digest wsX8_bitsOfDouble := goodIn_r _ [312, 313, 314, 315] (by decide +kernel) (by decide +kernel)
set_option maxRecDepth 20000 in
theorem gX8_digest_X8_bitsOfDouble : GoodIn wsX8_digest (va_wsS RX8 312 yX8_bitsOfDouble wsX8_bitsOfDouble) := goodIn_app (goodIn_of _ (by decide +kernel)) ggX8_digest_X8_bitsOfDouble
theorem dX8_digest_0 : decode cX8_digest 0 = .ok (.ldc2_w 284, 3) := by decide +kernel
theorem dX8_digest_3 : decode cX8_digest 3 = .ok (.lstore_n 1, 1) := by decide +kernel
theorem dX8_digest_4 : decode cX8_digest 4 = .ok (.iconst 0, 1) := by decide +kernel
theorem dX8_digest_5 : decode cX8_digest 5 = .ok (.istore_n 3, 1) := by decide +kernel
theorem dX8_digest_6 : decode cX8_digest 6 = .ok (.iload_n 3, 1) := by decide +kernel
theorem dX8_digest_7 : decode cX8_digest 7 = .ok (.bipush 14, 2) := by decide +kernel
theorem dX8_digest_9 : decode cX8_digest 9 = .ok (.if_icmp .gt 20, 3) := by decide +kernel
theorem dX8_digest_12 : decode cX8_digest 12 = .ok (.lload_n 1, 1) := by decide +kernel
theorem dX8_digest_13 : decode cX8_digest 13 = .ok (.aload_n 0, 1) := by decide +kernel
theorem dX8_digest_14 : decode cX8_digest 14 = .ok (.iload_n 3, 1) := by decide +kernel
theorem dX8_digest_15 : decode cX8_digest 15 = .ok (.invokevirtual 250, 3) := by decide +kernel
theorem dX8_digest_18 : decode cX8_digest 18 = .ok (.i2l, 1) := by decide +kernel
theorem dX8_digest_19 : decode cX8_digest 19 = .ok (.invokestatic 286, 3) := by decide +kernel
theorem dX8_digest_22 : decode cX8_digest 22 = .ok (.lstore_n 1, 1) := by decide +kernel
theorem dX8_digest_23 : decode cX8_digest 23 = .ok (.iinc 3 1, 3) := by decide +kernel
theorem dX8_digest_26 : decode cX8_digest 26 = .ok (.goto (-20), 3) := by decide +kernel
theorem dX8_digest_29 : decode cX8_digest 29 = .ok (.aload_n 0, 1) := by decide +kernel
theorem dX8_digest_30 : decode cX8_digest 30 = .ok (.lload_n 1, 1) := by decide +kernel
theorem dX8_digest_31 : decode cX8_digest 31 = .ok (.invokevirtual 290, 3) := by decide +kernel
theorem dX8_digest_34 : decode cX8_digest 34 = .ok (.lstore_n 1, 1) := by decide +kernel
theorem dX8_digest_35 : decode cX8_digest 35 = .ok (.aload_n 0, 1) := by decide +kernel
theorem dX8_digest_36 : decode cX8_digest 36 = .ok (.getfield 16, 3) := by decide +kernel
theorem dX8_digest_39 : decode cX8_digest 39 = .ok (.aload_n 0, 1) := by decide +kernel
theorem dX8_digest_40 : decode cX8_digest 40 = .ok (.getfield 10, 3) := by decide +kernel
theorem dX8_digest_43 : decode cX8_digest 43 = .ok (.invokevirtual 215, 3) := by decide +kernel
theorem dX8_digest_46 : decode cX8_digest 46 = .ok (.aload_n 0, 1) := by decide +kernel
theorem dX8_digest_47 : decode cX8_digest 47 = .ok (.getfield 16, 3) := by decide +kernel
theorem dX8_digest_50 : decode cX8_digest 50 = .ok (.bipush 24, 2) := by decide +kernel
theorem dX8_digest_52 : decode cX8_digest 52 = .ok (.invokevirtual 175, 3) := by decide +kernel
theorem dX8_digest_55 : decode cX8_digest 55 = .ok (.pop, 1) := by decide +kernel
theorem dX8_digest_56 : decode cX8_digest 56 = .ok (.iconst 0, 1) := by decide +kernel
theorem dX8_digest_57 : decode cX8_digest 57 = .ok (.istore_n 3, 1) := by decide +kernel
theorem dX8_digest_58 : decode cX8_digest 58 = .ok (.iload_n 3, 1) := by decide +kernel
theorem dX8_digest_59 : decode cX8_digest 59 = .ok (.bipush 8, 2) := by decide +kernel
theorem dX8_digest_61 : decode cX8_digest 61 = .ok (.if_icmp .gt 23, 3) := by decide +kernel
theorem dX8_digest_64 : decode cX8_digest 64 = .ok (.lload_n 1, 1) := by decide +kernel
theorem dX8_digest_65 : decode cX8_digest 65 = .ok (.aload_n 0, 1) := by decide +kernel
theorem dX8_digest_66 : decode cX8_digest 66 = .ok (.getfield 16, 3) := by decide +kernel
theorem dX8_digest_69 : decode cX8_digest 69 = .ok (.iload_n 3, 1) := by decide +kernel
theorem dX8_digest_70 : decode cX8_digest 70 = .ok (.invokevirtual 260, 3) := by decide +kernel
theorem dX8_digest_73 : decode cX8_digest 73 = .ok (.i2l, 1) := by decide +kernel
theorem dX8_digest_74 : decode cX8_digest 74 = .ok (.invokestatic 286, 3) := by decide +kernel
theorem dX8_digest_77 : decode cX8_digest 77 = .ok (.lstore_n 1, 1) := by decide +kernel
theorem dX8_digest_78 : decode cX8_digest 78 = .ok (.iinc 3 1, 3) := by decide +kernel
theorem dX8_digest_81 : decode cX8_digest 81 = .ok (.goto (-23), 3) := by decide +kernel
theorem dX8_digest_84 : decode cX8_digest 84 = .ok (.lload_n 1, 1) := by decide +kernel
theorem dX8_digest_85 : decode cX8_digest 85 = .ok (.aload_n 0, 1) := by decide +kernel
theorem dX8_digest_86 : decode cX8_digest 86 = .ok (.invokevirtual 294, 3) := by decide +kernel
theorem dX8_digest_89 : decode cX8_digest 89 = .ok (.i2l, 1) := by decide +kernel
theorem dX8_digest_90 : decode cX8_digest 90 = .ok (.invokestatic 286, 3) := by decide +kernel
theorem dX8_digest_93 : decode cX8_digest 93 = .ok (.lstore_n 1, 1) := by decide +kernel
theorem dX8_digest_94 : decode cX8_digest 94 = .ok (.lload_n 1, 1) := by decide +kernel
theorem dX8_digest_95 : decode cX8_digest 95 = .ok (.aload_n 0, 1) := by decide +kernel
theorem dX8_digest_96 : decode cX8_digest 96 = .ok (.invokevirtual 297, 3) := by decide +kernel
theorem dX8_digest_99 : decode cX8_digest 99 = .ok (.i2l, 1) := by decide +kernel
theorem dX8_digest_100 : decode cX8_digest 100 = .ok (.invokestatic 286, 3) := by decide +kernel
theorem dX8_digest_103 : decode cX8_digest 103 = .ok (.lstore_n 1, 1) := by decide +kernel
theorem dX8_digest_104 : decode cX8_digest 104 = .ok (.lload_n 1, 1) := by decide +kernel
theorem dX8_digest_105 : decode cX8_digest 105 = .ok (.aload_n 0, 1) := by decide +kernel
theorem dX8_digest_106 : decode cX8_digest 106 = .ok (.invokevirtual 300, 3) := by decide +kernel
theorem dX8_digest_109 : decode cX8_digest 109 = .ok (.invokestatic 304, 3) := by decide +kernel
theorem dX8_digest_112 : decode cX8_digest 112 = .ok (.i2l, 1) := by decide +kernel
theorem dX8_digest_113 : decode cX8_digest 113 = .ok (.invokestatic 286, 3) := by decide +kernel
theorem dX8_digest_116 : decode cX8_digest 116 = .ok (.lstore_n 1, 1) := by decide +kernel
theorem dX8_digest_117 : decode cX8_digest 117 = .ok (.lload_n 1, 1) := by decide +kernel
theorem dX8_digest_118 : decode cX8_digest 118 = .ok (.aload_n 0, 1) := by decide +kernel
theorem dX8_digest_119 : decode cX8_digest 119 = .ok (.invokevirtual 308, 3) := by decide +kernel
theorem dX8_digest_122 : decode cX8_digest 122 = .ok (.invokestatic 312, 3) := by decide +kernel
theorem dX8_digest_125 : decode cX8_digest 125 = .ok (.invokestatic 286, 3) := by decide +kernel
theorem dX8_digest_128 : decode cX8_digest 128 = .ok (.lstore_n 1, 1) := by decide +kernel
theorem dX8_digest_129 : decode cX8_digest 129 = .ok (.lload_n 1, 1) := by decide +kernel
theorem dX8_digest_130 : decode cX8_digest 130 = .ok (.aload_n 0, 1) := by decide +kernel
theorem dX8_digest_131 : decode cX8_digest 131 = .ok (.getfield 33, 3) := by decide +kernel
theorem dX8_digest_134 : decode cX8_digest 134 = .ok (.getfield 186, 3) := by decide +kernel
theorem dX8_digest_137 : decode cX8_digest 137 = .ok (.i2l, 1) := by decide +kernel
theorem dX8_digest_138 : decode cX8_digest 138 = .ok (.invokestatic 286, 3) := by decide +kernel
theorem dX8_digest_141 : decode cX8_digest 141 = .ok (.lstore_n 1, 1) := by decide +kernel
theorem dX8_digest_142 : decode cX8_digest 142 = .ok (.iconst 0, 1) := by decide +kernel
theorem dX8_digest_143 : decode cX8_digest 143 = .ok (.istore_n 3, 1) := by decide +kernel
theorem dX8_digest_144 : decode cX8_digest 144 = .ok (.iload_n 3, 1) := by decide +kernel
theorem dX8_digest_145 : decode cX8_digest 145 = .ok (.aload_n 0, 1) := by decide +kernel
theorem dX8_digest_146 : decode cX8_digest 146 = .ok (.getfield 33, 3) := by decide +kernel
theorem dX8_digest_149 : decode cX8_digest 149 = .ok (.getfield 186, 3) := by decide +kernel
theorem dX8_digest_152 : decode cX8_digest 152 = .ok (.if_icmp .ge 24, 3) := by decide +kernel
theorem dX8_digest_155 : decode cX8_digest 155 = .ok (.lload_n 1, 1) := by decide +kernel
theorem dX8_digest_156 : decode cX8_digest 156 = .ok (.aload_n 0, 1) := by decide +kernel
theorem dX8_digest_157 : decode cX8_digest 157 = .ok (.getfield 33, 3) := by decide +kernel
theorem dX8_digest_160 : decode cX8_digest 160 = .ok (.getfield 316, 3) := by decide +kernel
theorem dX8_digest_163 : decode cX8_digest 163 = .ok (.iload_n 3, 1) := by decide +kernel
theorem dX8_digest_164 : decode cX8_digest 164 = .ok (.iaload, 1) := by decide +kernel
theorem dX8_digest_165 : decode cX8_digest 165 = .ok (.i2l, 1) := by decide +kernel
theorem dX8_digest_166 : decode cX8_digest 166 = .ok (.invokestatic 286, 3) := by decide +kernel
theorem dX8_digest_169 : decode cX8_digest 169 = .ok (.lstore_n 1, 1) := by decide +kernel
theorem dX8_digest_170 : decode cX8_digest 170 = .ok (.iinc 3 1, 3) := by decide +kernel
theorem dX8_digest_173 : decode cX8_digest 173 = .ok (.goto (-29), 3) := by decide +kernel
theorem dX8_digest_176 : decode cX8_digest 176 = .ok (.lload_n 1, 1) := by decide +kernel
theorem dX8_digest_177 : decode cX8_digest 177 = .ok (.lreturn, 1) := by decide +kernel
theorem dX8_isWithin_0 : decode cX8_isWithin 0 = .ok (.iload_n 0, 1) := by decide +kernel
theorem dX8_isWithin_1 : decode cX8_isWithin 1 = .ok (.iload_n 1, 1) := by decide +kernel
theorem dX8_isWithin_2 : decode cX8_isWithin 2 = .ok (.if_icmp .lt 12, 3) := by decide +kernel
theorem dX8_isWithin_5 : decode cX8_isWithin 5 = .ok (.iload_n 0, 1) := by decide +kernel
theorem dX8_isWithin_6 : decode cX8_isWithin 6 = .ok (.iload_n 2, 1) := by decide +kernel
theorem dX8_isWithin_7 : decode cX8_isWithin 7 = .ok (.if_icmp .gt 7, 3) := by decide +kernel
theorem dX8_isWithin_10 : decode cX8_isWithin 10 = .ok (.iconst 1, 1) := by decide +kernel
theorem dX8_isWithin_11 : decode cX8_isWithin 11 = .ok (.goto 4, 3) := by decide +kernel
theorem dX8_isWithin_14 : decode cX8_isWithin 14 = .ok (.iconst 0, 1) := by decide +kernel
theorem dX8_isWithin_15 : decode cX8_isWithin 15 = .ok (.ireturn, 1) := by decide +kernel
set_option maxRecDepth 20000 in
theorem ggX8_requireTurbine_X2_hasTurbine : GoodIn wsX8_requireTurbine wsX2_hasTurbine := goodIn_r _ [8, 9, 16, 17, 18, 19, 20, 21, 22, 23, 24, 25] (by decide +kernel) (by decide +kernel)
set_option maxRecDepth 20000 in
theorem gX8_requireTurbine_X2_hasTurbine : GoodIn wsX8_requireTurbine (wsV RX8 319 RX2 yX2_hasTurbine wsX2_hasTurbine) := goodIn_app (goodIn_of _ (by decide +kernel)) ggX8_requireTurbine_X2_hasTurbine
theorem dX8_requireTurbine_0 : decode cX8_requireTurbine 0 = .ok (.aload_n 0, 1) := by decide +kernel
theorem dX8_requireTurbine_1 : decode cX8_requireTurbine 1 = .ok (.getfield 10, 3) := by decide +kernel
theorem dX8_requireTurbine_4 : decode cX8_requireTurbine 4 = .ok (.iload_n 1, 1) := by decide +kernel
theorem dX8_requireTurbine_5 : decode cX8_requireTurbine 5 = .ok (.invokevirtual 319, 3) := by decide +kernel
theorem dX8_requireTurbine_8 : decode cX8_requireTurbine 8 = .ok (.ifCond .ne 14, 3) := by decide +kernel
theorem dX8_requireTurbine_11 : decode cX8_requireTurbine 11 = .ok (.new 134, 3) := by decide +kernel
theorem dX8_requireTurbine_14 : decode cX8_requireTurbine 14 = .ok (.dup, 1) := by decide +kernel
theorem dX8_requireTurbine_15 : decode cX8_requireTurbine 15 = .ok (.ldc_w 322, 3) := by decide +kernel
theorem dX8_requireTurbine_18 : decode cX8_requireTurbine 18 = .ok (.invokespecial 138, 3) := by decide +kernel
theorem dX8_requireTurbine_21 : decode cX8_requireTurbine 21 = .ok (.athrow, 1) := by decide +kernel
theorem dX8_requireTurbine_22 : decode cX8_requireTurbine 22 = .ok (.return_, 1) := by decide +kernel
set_option maxRecDepth 20000 in
theorem ggX8_requireSetting_X8_isWithin : GoodIn wsX8_requireSetting wsX8_isWithin := goodIn_r _ [6] (by decide +kernel) (by decide +kernel)
set_option maxRecDepth 20000 in
theorem gX8_requireSetting_X8_isWithin : GoodIn wsX8_requireSetting (va_wsS RX8 37 yX8_isWithin wsX8_isWithin) := goodIn_app (goodIn_of _ (by decide +kernel)) ggX8_requireSetting_X8_isWithin
theorem dX8_requireSetting_0 : decode cX8_requireSetting 0 = .ok (.iload_n 0, 1) := by decide +kernel
theorem dX8_requireSetting_1 : decode cX8_requireSetting 1 = .ok (.iconst 0, 1) := by decide +kernel
theorem dX8_requireSetting_2 : decode cX8_requireSetting 2 = .ok (.bipush 6, 2) := by decide +kernel
theorem dX8_requireSetting_4 : decode cX8_requireSetting 4 = .ok (.invokestatic 37, 3) := by decide +kernel
theorem dX8_requireSetting_7 : decode cX8_requireSetting 7 = .ok (.ifCond .ne 14, 3) := by decide +kernel
theorem dX8_requireSetting_10 : decode cX8_requireSetting 10 = .ok (.new 134, 3) := by decide +kernel
theorem dX8_requireSetting_13 : decode cX8_requireSetting 13 = .ok (.dup, 1) := by decide +kernel
theorem dX8_requireSetting_14 : decode cX8_requireSetting 14 = .ok (.ldc_w 324, 3) := by decide +kernel
theorem dX8_requireSetting_17 : decode cX8_requireSetting 17 = .ok (.invokespecial 138, 3) := by decide +kernel
theorem dX8_requireSetting_20 : decode cX8_requireSetting 20 = .ok (.athrow, 1) := by decide +kernel
theorem dX8_requireSetting_21 : decode cX8_requireSetting 21 = .ok (.return_, 1) := by decide +kernel
set_option maxRecDepth 20000 in
theorem ggX8_saveState_X2_copyFrom : GoodIn wsX8_saveState wsX2_copyFrom := goodIn_r _ [9, 10, 11, 12, 13, 14, 15, 16, 17, 18, 19, 20, 21, 22, 23, 24, 25, 26, 27, 28, 29, 30, 31, 32, 33, 34, 35, 36, 37, 38, 39, 40, 41, 42, 43, 44, 45, 46, 47, 48, 49, 50, 51, 52, 53, 54, 55, 56, 57, 58, 59, 60, 61, 62, 63, 64, 65, 66, 67, 68, 69, 70, 71, 72, 73, 74, 75, 76, 77, 78, 79, 86, 87, 88, 89, 90, 91, 92, 93, 94, 95, 96, 97, 98, 99, 100, 101, 102, 103, 104, 105, 106, 107, 108, 109, 110, 111, 112, 113, 114, 115, 116, 117] (by decide +kernel) (by decide +kernel)
set_option maxRecDepth 20000 in
theorem gX8_saveState_X2_copyFrom : GoodIn wsX8_saveState (wsV RX8 215 RX2 yX2_copyFrom wsX2_copyFrom) := goodIn_app (goodIn_of _ (by decide +kernel)) ggX8_saveState_X2_copyFrom
theorem dX8_saveState_0 : decode cX8_saveState 0 = .ok (.aload_n 0, 1) := by decide +kernel
theorem dX8_saveState_1 : decode cX8_saveState 1 = .ok (.getfield 19, 3) := by decide +kernel
theorem dX8_saveState_4 : decode cX8_saveState 4 = .ok (.aload_n 0, 1) := by decide +kernel
theorem dX8_saveState_5 : decode cX8_saveState 5 = .ok (.getfield 23, 3) := by decide +kernel
theorem dX8_saveState_8 : decode cX8_saveState 8 = .ok (.aload_n 0, 1) := by decide +kernel
theorem dX8_saveState_9 : decode cX8_saveState 9 = .ok (.getfield 27, 3) := by decide +kernel
theorem dX8_saveState_12 : decode cX8_saveState 12 = .ok (.iadd, 1) := by decide +kernel
theorem dX8_saveState_13 : decode cX8_saveState 13 = .ok (.bipush 6, 2) := by decide +kernel
theorem dX8_saveState_15 : decode cX8_saveState 15 = .ok (.irem, 1) := by decide +kernel
theorem dX8_saveState_16 : decode cX8_saveState 16 = .ok (.aaload, 1) := by decide +kernel
theorem dX8_saveState_17 : decode cX8_saveState 17 = .ok (.aload_n 0, 1) := by decide +kernel
theorem dX8_saveState_18 : decode cX8_saveState 18 = .ok (.getfield 10, 3) := by decide +kernel
theorem dX8_saveState_21 : decode cX8_saveState 21 = .ok (.invokevirtual 215, 3) := by decide +kernel
theorem dX8_saveState_24 : decode cX8_saveState 24 = .ok (.aload_n 0, 1) := by decide +kernel
theorem dX8_saveState_25 : decode cX8_saveState 25 = .ok (.getfield 27, 3) := by decide +kernel
theorem dX8_saveState_28 : decode cX8_saveState 28 = .ok (.bipush 6, 2) := by decide +kernel
theorem dX8_saveState_30 : decode cX8_saveState 30 = .ok (.if_icmp .ge 16, 3) := by decide +kernel
theorem dX8_saveState_33 : decode cX8_saveState 33 = .ok (.aload_n 0, 1) := by decide +kernel
theorem dX8_saveState_34 : decode cX8_saveState 34 = .ok (.dup, 1) := by decide +kernel
theorem dX8_saveState_35 : decode cX8_saveState 35 = .ok (.getfield 27, 3) := by decide +kernel
theorem dX8_saveState_38 : decode cX8_saveState 38 = .ok (.iconst 1, 1) := by decide +kernel
theorem dX8_saveState_39 : decode cX8_saveState 39 = .ok (.iadd, 1) := by decide +kernel
theorem dX8_saveState_40 : decode cX8_saveState 40 = .ok (.putfield 27, 3) := by decide +kernel
theorem dX8_saveState_43 : decode cX8_saveState 43 = .ok (.goto 16, 3) := by decide +kernel
theorem dX8_saveState_46 : decode cX8_saveState 46 = .ok (.aload_n 0, 1) := by decide +kernel
theorem dX8_saveState_47 : decode cX8_saveState 47 = .ok (.aload_n 0, 1) := by decide +kernel
theorem dX8_saveState_48 : decode cX8_saveState 48 = .ok (.getfield 23, 3) := by decide +kernel
theorem dX8_saveState_51 : decode cX8_saveState 51 = .ok (.iconst 1, 1) := by decide +kernel
theorem dX8_saveState_52 : decode cX8_saveState 52 = .ok (.iadd, 1) := by decide +kernel
theorem dX8_saveState_53 : decode cX8_saveState 53 = .ok (.bipush 6, 2) := by decide +kernel
theorem dX8_saveState_55 : decode cX8_saveState 55 = .ok (.irem, 1) := by decide +kernel
theorem dX8_saveState_56 : decode cX8_saveState 56 = .ok (.putfield 23, 3) := by decide +kernel
theorem dX8_saveState_59 : decode cX8_saveState 59 = .ok (.return_, 1) := by decide +kernel
set_option maxRecDepth 20000 in
theorem ggX8_numberOf_X2_faultCount : GoodIn wsX8_numberOf wsX2_faultCount := goodIn_r _ [19, 20, 21, 22, 66, 67, 68, 69, 70, 71, 72, 73, 74, 75, 88, 89, 90, 91, 92, 93, 94] (by decide +kernel) (by decide +kernel)
set_option maxRecDepth 20000 in
theorem gX8_numberOf_X2_faultCount : GoodIn wsX8_numberOf (wsV RX8 330 RX2 yX2_faultCount wsX2_faultCount) := goodIn_app (goodIn_of _ (by decide +kernel)) ggX8_numberOf_X2_faultCount
set_option maxRecDepth 20000 in
theorem ggX8_numberOf_X2_windNow : GoodIn wsX8_numberOf wsX2_windNow := goodIn_r _ [26, 27, 28, 29, 30, 31, 32, 33, 34, 35, 66, 67, 68, 69, 70, 71, 72, 73, 74, 75, 76, 77] (by decide +kernel) (by decide +kernel)
set_option maxRecDepth 20000 in
theorem gX8_numberOf_X2_windNow : GoodIn wsX8_numberOf (wsV RX8 333 RX2 yX2_windNow wsX2_windNow) := goodIn_app (goodIn_of _ (by decide +kernel)) ggX8_numberOf_X2_windNow
set_option maxRecDepth 20000 in
theorem ggX8_numberOf_X4_first : GoodIn wsX8_numberOf wsX4_first := goodIn_r _ [40, 41, 42, 78, 79] (by decide +kernel) (by decide +kernel)
set_option maxRecDepth 20000 in
theorem gX8_numberOf_X4_first : GoodIn wsX8_numberOf (wsV RX8 336 RX4 yX4_first wsX4_first) := goodIn_app (goodIn_of _ (by decide +kernel)) ggX8_numberOf_X4_first
set_option maxRecDepth 20000 in
theorem ggX8_numberOf_X1_workOn : GoodIn wsX8_numberOf wsX1_workOn := goodIn_r _ [47, 48, 49, 80, 81, 82, 83, 84] (by decide +kernel) (by decide +kernel)
set_option maxRecDepth 20000 in
theorem gX8_numberOf_X1_workOn : GoodIn wsX8_numberOf (wsV RX8 349 RX1 yX1_workOn wsX1_workOn) := goodIn_app (goodIn_of _ (by decide +kernel)) ggX8_numberOf_X1_workOn
set_option maxRecDepth 20000 in
theorem ggX8_numberOf_X2_lostPower : GoodIn wsX8_numberOf wsX2_lostPower := goodIn_r _ [53, 54, 66, 67, 68, 69, 70, 71, 72, 73, 74, 75] (by decide +kernel) (by decide +kernel)
set_option maxRecDepth 20000 in
theorem gX8_numberOf_X2_lostPower : GoodIn wsX8_numberOf (wsV RX8 278 RX2 yX2_lostPower wsX2_lostPower) := goodIn_app (goodIn_of _ (by decide +kernel)) ggX8_numberOf_X2_lostPower
set_option maxRecDepth 20000 in
theorem ggX8_numberOf_X2_wonPower : GoodIn wsX8_numberOf wsX2_wonPower := goodIn_r _ [58, 20, 21, 59, 66, 67, 68, 69, 70, 71, 72, 73, 74, 75, 88, 89, 90, 91, 92, 93, 94] (by decide +kernel) (by decide +kernel)
set_option maxRecDepth 20000 in
theorem gX8_numberOf_X2_wonPower : GoodIn wsX8_numberOf (wsV RX8 281 RX2 yX2_wonPower wsX2_wonPower) := goodIn_app (goodIn_of _ (by decide +kernel)) ggX8_numberOf_X2_wonPower
theorem dX8_numberOf_0 : decode cX8_numberOf 0 = .ok (.aload_n 0, 1) := by decide +kernel
theorem dX8_numberOf_1 : decode cX8_numberOf 1 = .ok (.getfield 10, 3) := by decide +kernel
theorem dX8_numberOf_4 : decode cX8_numberOf 4 = .ok (.getfield 326, 3) := by decide +kernel
theorem dX8_numberOf_7 : decode cX8_numberOf 7 = .ok (.astore_n 2, 1) := by decide +kernel
theorem dX8_numberOf_8 : decode cX8_numberOf 8 = .ok (.iload_n 1, 1) := by decide +kernel
theorem dX8_numberOf_9 : decode cX8_numberOf 9 = .ok (.tableswitch 193 0 13 #[71, 79, 87, 95, 103, 114, 125, 136, 141, 146, 151, 166, 174, 182], 71) := by decide +kernel
theorem dX8_numberOf_80 : decode cX8_numberOf 80 = .ok (.aload_n 0, 1) := by decide +kernel
theorem dX8_numberOf_81 : decode cX8_numberOf 81 = .ok (.getfield 10, 3) := by decide +kernel
theorem dX8_numberOf_84 : decode cX8_numberOf 84 = .ok (.getfield 48, 3) := by decide +kernel
theorem dX8_numberOf_87 : decode cX8_numberOf 87 = .ok (.ireturn, 1) := by decide +kernel
theorem dX8_numberOf_88 : decode cX8_numberOf 88 = .ok (.aload_n 0, 1) := by decide +kernel
theorem dX8_numberOf_89 : decode cX8_numberOf 89 = .ok (.getfield 10, 3) := by decide +kernel
theorem dX8_numberOf_92 : decode cX8_numberOf 92 = .ok (.invokevirtual 330, 3) := by decide +kernel
theorem dX8_numberOf_95 : decode cX8_numberOf 95 = .ok (.ireturn, 1) := by decide +kernel
theorem dX8_numberOf_96 : decode cX8_numberOf 96 = .ok (.aload_n 0, 1) := by decide +kernel
theorem dX8_numberOf_97 : decode cX8_numberOf 97 = .ok (.getfield 10, 3) := by decide +kernel
theorem dX8_numberOf_100 : decode cX8_numberOf 100 = .ok (.getfield 170, 3) := by decide +kernel
theorem dX8_numberOf_103 : decode cX8_numberOf 103 = .ok (.ireturn, 1) := by decide +kernel
theorem dX8_numberOf_104 : decode cX8_numberOf 104 = .ok (.aload_n 0, 1) := by decide +kernel
theorem dX8_numberOf_105 : decode cX8_numberOf 105 = .ok (.getfield 10, 3) := by decide +kernel
theorem dX8_numberOf_108 : decode cX8_numberOf 108 = .ok (.invokevirtual 333, 3) := by decide +kernel
theorem dX8_numberOf_111 : decode cX8_numberOf 111 = .ok (.ireturn, 1) := by decide +kernel
theorem dX8_numberOf_112 : decode cX8_numberOf 112 = .ok (.aload_n 0, 1) := by decide +kernel
theorem dX8_numberOf_113 : decode cX8_numberOf 113 = .ok (.getfield 10, 3) := by decide +kernel
theorem dX8_numberOf_116 : decode cX8_numberOf 116 = .ok (.getfield 202, 3) := by decide +kernel
theorem dX8_numberOf_119 : decode cX8_numberOf 119 = .ok (.getfield 210, 3) := by decide +kernel
theorem dX8_numberOf_122 : decode cX8_numberOf 122 = .ok (.ireturn, 1) := by decide +kernel
theorem dX8_numberOf_123 : decode cX8_numberOf 123 = .ok (.aload_n 0, 1) := by decide +kernel
theorem dX8_numberOf_124 : decode cX8_numberOf 124 = .ok (.getfield 10, 3) := by decide +kernel
theorem dX8_numberOf_127 : decode cX8_numberOf 127 = .ok (.getfield 125, 3) := by decide +kernel
theorem dX8_numberOf_130 : decode cX8_numberOf 130 = .ok (.getfield 142, 3) := by decide +kernel
theorem dX8_numberOf_133 : decode cX8_numberOf 133 = .ok (.ireturn, 1) := by decide +kernel
theorem dX8_numberOf_134 : decode cX8_numberOf 134 = .ok (.aload_n 0, 1) := by decide +kernel
theorem dX8_numberOf_135 : decode cX8_numberOf 135 = .ok (.getfield 10, 3) := by decide +kernel
theorem dX8_numberOf_138 : decode cX8_numberOf 138 = .ok (.getfield 125, 3) := by decide +kernel
theorem dX8_numberOf_141 : decode cX8_numberOf 141 = .ok (.invokevirtual 336, 3) := by decide +kernel
theorem dX8_numberOf_144 : decode cX8_numberOf 144 = .ok (.ireturn, 1) := by decide +kernel
theorem dX8_numberOf_145 : decode cX8_numberOf 145 = .ok (.aload_n 2, 1) := by decide +kernel
theorem dX8_numberOf_146 : decode cX8_numberOf 146 = .ok (.getfield 339, 3) := by decide +kernel
theorem dX8_numberOf_149 : decode cX8_numberOf 149 = .ok (.ireturn, 1) := by decide +kernel
theorem dX8_numberOf_150 : decode cX8_numberOf 150 = .ok (.aload_n 2, 1) := by decide +kernel
theorem dX8_numberOf_151 : decode cX8_numberOf 151 = .ok (.getfield 343, 3) := by decide +kernel
theorem dX8_numberOf_154 : decode cX8_numberOf 154 = .ok (.ireturn, 1) := by decide +kernel
theorem dX8_numberOf_155 : decode cX8_numberOf 155 = .ok (.aload_n 2, 1) := by decide +kernel
theorem dX8_numberOf_156 : decode cX8_numberOf 156 = .ok (.getfield 346, 3) := by decide +kernel
theorem dX8_numberOf_159 : decode cX8_numberOf 159 = .ok (.ireturn, 1) := by decide +kernel
theorem dX8_numberOf_160 : decode cX8_numberOf 160 = .ok (.aload_n 2, 1) := by decide +kernel
theorem dX8_numberOf_161 : decode cX8_numberOf 161 = .ok (.aload_n 0, 1) := by decide +kernel
theorem dX8_numberOf_162 : decode cX8_numberOf 162 = .ok (.getfield 10, 3) := by decide +kernel
theorem dX8_numberOf_165 : decode cX8_numberOf 165 = .ok (.getfield 125, 3) := by decide +kernel
theorem dX8_numberOf_168 : decode cX8_numberOf 168 = .ok (.invokevirtual 336, 3) := by decide +kernel
theorem dX8_numberOf_171 : decode cX8_numberOf 171 = .ok (.invokevirtual 349, 3) := by decide +kernel
theorem dX8_numberOf_174 : decode cX8_numberOf 174 = .ok (.ireturn, 1) := by decide +kernel
theorem dX8_numberOf_175 : decode cX8_numberOf 175 = .ok (.aload_n 0, 1) := by decide +kernel
theorem dX8_numberOf_176 : decode cX8_numberOf 176 = .ok (.getfield 10, 3) := by decide +kernel
theorem dX8_numberOf_179 : decode cX8_numberOf 179 = .ok (.invokevirtual 278, 3) := by decide +kernel
theorem dX8_numberOf_182 : decode cX8_numberOf 182 = .ok (.ireturn, 1) := by decide +kernel
theorem dX8_numberOf_183 : decode cX8_numberOf 183 = .ok (.aload_n 0, 1) := by decide +kernel
theorem dX8_numberOf_184 : decode cX8_numberOf 184 = .ok (.getfield 10, 3) := by decide +kernel
theorem dX8_numberOf_187 : decode cX8_numberOf 187 = .ok (.invokevirtual 281, 3) := by decide +kernel
theorem dX8_numberOf_190 : decode cX8_numberOf 190 = .ok (.ireturn, 1) := by decide +kernel
theorem dX8_numberOf_191 : decode cX8_numberOf 191 = .ok (.aload_n 0, 1) := by decide +kernel
theorem dX8_numberOf_192 : decode cX8_numberOf 192 = .ok (.getfield 10, 3) := by decide +kernel
theorem dX8_numberOf_195 : decode cX8_numberOf 195 = .ok (.getfield 151, 3) := by decide +kernel
theorem dX8_numberOf_198 : decode cX8_numberOf 198 = .ok (.getfield 167, 3) := by decide +kernel
theorem dX8_numberOf_201 : decode cX8_numberOf 201 = .ok (.ireturn, 1) := by decide +kernel
theorem dX8_numberOf_202 : decode cX8_numberOf 202 = .ok (.aload_n 0, 1) := by decide +kernel
theorem dX8_numberOf_203 : decode cX8_numberOf 203 = .ok (.getfield 27, 3) := by decide +kernel
theorem dX8_numberOf_206 : decode cX8_numberOf 206 = .ok (.ireturn, 1) := by decide +kernel
theorem dX8_mix_0 : decode cX8_mix 0 = .ok (.ldc2_w 352, 3) := by decide +kernel
theorem dX8_mix_3 : decode cX8_mix 3 = .ok (.lload_n 0, 1) := by decide +kernel
theorem dX8_mix_4 : decode cX8_mix 4 = .ok (.lmul, 1) := by decide +kernel
theorem dX8_mix_5 : decode cX8_mix 5 = .ok (.lload_n 2, 1) := by decide +kernel
theorem dX8_mix_6 : decode cX8_mix 6 = .ok (.ladd, 1) := by decide +kernel
theorem dX8_mix_7 : decode cX8_mix 7 = .ok (.lreturn, 1) := by decide +kernel
set_option maxRecDepth 20000 in
theorem ggX8_mixFarm_X8_mix : GoodIn wsX8_mixFarm wsX8_mix := goodIn_r _ [16, 17] (by decide +kernel) (by decide +kernel)
set_option maxRecDepth 20000 in
theorem gX8_mixFarm_X8_mix : GoodIn wsX8_mixFarm (va_wsS RX8 286 yX8_mix wsX8_mix) := goodIn_app (goodIn_of _ (by decide +kernel)) ggX8_mixFarm_X8_mix
set_option maxRecDepth 20000 in
theorem ggX8_mixFarm_X2_turbineProperty : GoodIn wsX8_mixFarm wsX2_turbineProperty := goodIn_r _ [22, 23, 24, 25, 26, 27, 28, 29, 30, 31, 32, 33, 34, 35, 36, 21, 37, 38, 39, 40, 41, 42, 43, 44, 45, 46, 47, 48, 49, 50, 51, 52, 53, 54, 55, 56, 57, 58, 59, 60, 61, 62, 63, 64, 65, 66, 67, 68, 69, 70, 71, 72, 73, 74, 75, 76, 77, 78, 79, 80, 81, 92, 93, 94, 95, 96, 97, 98, 99, 100, 101, 108, 109, 110, 111, 112, 113, 114, 115, 116, 102, 103, 104, 117, 118] (by decide +kernel) (by decide +kernel)
set_option maxRecDepth 20000 in
theorem gX8_mixFarm_X2_turbineProperty : GoodIn wsX8_mixFarm (wsV RX8 221 RX2 yX2_turbineProperty wsX2_turbineProperty) := goodIn_app (goodIn_of _ (by decide +kernel)) ggX8_mixFarm_X2_turbineProperty
set_option maxRecDepth 20000 in
theorem ggX8_mixFarm_X2_hoursUntilCalm : GoodIn wsX8_mixFarm wsX2_hoursUntilCalm := goodIn_r _ [85, 23, 29, 64, 65, 34, 35, 36, 21, 37, 38, 39, 40, 41, 42, 43, 44, 66, 67, 68, 69, 70, 71, 72, 92, 93, 94, 95, 96, 97, 98, 99, 100, 101, 108, 109, 110, 111, 112, 113, 114, 117, 118] (by decide +kernel) (by decide +kernel)
set_option maxRecDepth 20000 in
theorem gX8_mixFarm_X2_hoursUntilCalm : GoodIn wsX8_mixFarm (wsV RX8 268 RX2 yX2_hoursUntilCalm wsX2_hoursUntilCalm) := goodIn_app (goodIn_of _ (by decide +kernel)) ggX8_mixFarm_X2_hoursUntilCalm
theorem dX8_mixFarm_0 : decode cX8_mixFarm 0 = .ok (.lload_n 1, 1) := by decide +kernel
theorem dX8_mixFarm_1 : decode cX8_mixFarm 1 = .ok (.lstore_n 3, 1) := by decide +kernel
theorem dX8_mixFarm_2 : decode cX8_mixFarm 2 = .ok (.iconst 0, 1) := by decide +kernel
theorem dX8_mixFarm_3 : decode cX8_mixFarm 3 = .ok (.istore 5, 2) := by decide +kernel
theorem dX8_mixFarm_5 : decode cX8_mixFarm 5 = .ok (.iload 5, 2) := by decide +kernel
theorem dX8_mixFarm_7 : decode cX8_mixFarm 7 = .ok (.bipush 7, 2) := by decide +kernel
theorem dX8_mixFarm_9 : decode cX8_mixFarm 9 = .ok (.if_icmp .ge 25, 3) := by decide +kernel
theorem dX8_mixFarm_12 : decode cX8_mixFarm 12 = .ok (.lload_n 3, 1) := by decide +kernel
theorem dX8_mixFarm_13 : decode cX8_mixFarm 13 = .ok (.aload_n 0, 1) := by decide +kernel
theorem dX8_mixFarm_14 : decode cX8_mixFarm 14 = .ok (.getfield 10, 3) := by decide +kernel
theorem dX8_mixFarm_17 : decode cX8_mixFarm 17 = .ok (.getfield 122, 3) := by decide +kernel
theorem dX8_mixFarm_20 : decode cX8_mixFarm 20 = .ok (.iload 5, 2) := by decide +kernel
theorem dX8_mixFarm_22 : decode cX8_mixFarm 22 = .ok (.iaload, 1) := by decide +kernel
theorem dX8_mixFarm_23 : decode cX8_mixFarm 23 = .ok (.i2l, 1) := by decide +kernel
theorem dX8_mixFarm_24 : decode cX8_mixFarm 24 = .ok (.invokestatic 286, 3) := by decide +kernel
theorem dX8_mixFarm_27 : decode cX8_mixFarm 27 = .ok (.lstore_n 3, 1) := by decide +kernel
theorem dX8_mixFarm_28 : decode cX8_mixFarm 28 = .ok (.iinc 5 1, 3) := by decide +kernel
theorem dX8_mixFarm_31 : decode cX8_mixFarm 31 = .ok (.goto (-26), 3) := by decide +kernel
theorem dX8_mixFarm_34 : decode cX8_mixFarm 34 = .ok (.iconst 0, 1) := by decide +kernel
theorem dX8_mixFarm_35 : decode cX8_mixFarm 35 = .ok (.istore 5, 2) := by decide +kernel
theorem dX8_mixFarm_37 : decode cX8_mixFarm 37 = .ok (.iload 5, 2) := by decide +kernel
theorem dX8_mixFarm_39 : decode cX8_mixFarm 39 = .ok (.aload_n 0, 1) := by decide +kernel
theorem dX8_mixFarm_40 : decode cX8_mixFarm 40 = .ok (.getfield 10, 3) := by decide +kernel
theorem dX8_mixFarm_43 : decode cX8_mixFarm 43 = .ok (.getfield 48, 3) := by decide +kernel
theorem dX8_mixFarm_46 : decode cX8_mixFarm 46 = .ok (.if_icmp .ge 58, 3) := by decide +kernel
theorem dX8_mixFarm_49 : decode cX8_mixFarm 49 = .ok (.iconst 0, 1) := by decide +kernel
theorem dX8_mixFarm_50 : decode cX8_mixFarm 50 = .ok (.istore 6, 2) := by decide +kernel
theorem dX8_mixFarm_52 : decode cX8_mixFarm 52 = .ok (.iload 6, 2) := by decide +kernel
theorem dX8_mixFarm_54 : decode cX8_mixFarm 54 = .ok (.bipush 10, 2) := by decide +kernel
theorem dX8_mixFarm_56 : decode cX8_mixFarm 56 = .ok (.if_icmp .gt 26, 3) := by decide +kernel
theorem dX8_mixFarm_59 : decode cX8_mixFarm 59 = .ok (.lload_n 3, 1) := by decide +kernel
theorem dX8_mixFarm_60 : decode cX8_mixFarm 60 = .ok (.aload_n 0, 1) := by decide +kernel
theorem dX8_mixFarm_61 : decode cX8_mixFarm 61 = .ok (.getfield 10, 3) := by decide +kernel
theorem dX8_mixFarm_64 : decode cX8_mixFarm 64 = .ok (.iload 5, 2) := by decide +kernel
theorem dX8_mixFarm_66 : decode cX8_mixFarm 66 = .ok (.iload 6, 2) := by decide +kernel
theorem dX8_mixFarm_68 : decode cX8_mixFarm 68 = .ok (.invokevirtual 221, 3) := by decide +kernel
theorem dX8_mixFarm_71 : decode cX8_mixFarm 71 = .ok (.i2l, 1) := by decide +kernel
theorem dX8_mixFarm_72 : decode cX8_mixFarm 72 = .ok (.invokestatic 286, 3) := by decide +kernel
theorem dX8_mixFarm_75 : decode cX8_mixFarm 75 = .ok (.lstore_n 3, 1) := by decide +kernel
theorem dX8_mixFarm_76 : decode cX8_mixFarm 76 = .ok (.iinc 6 1, 3) := by decide +kernel
theorem dX8_mixFarm_79 : decode cX8_mixFarm 79 = .ok (.goto (-27), 3) := by decide +kernel
theorem dX8_mixFarm_82 : decode cX8_mixFarm 82 = .ok (.lload_n 3, 1) := by decide +kernel
theorem dX8_mixFarm_83 : decode cX8_mixFarm 83 = .ok (.aload_n 0, 1) := by decide +kernel
theorem dX8_mixFarm_84 : decode cX8_mixFarm 84 = .ok (.getfield 10, 3) := by decide +kernel
theorem dX8_mixFarm_87 : decode cX8_mixFarm 87 = .ok (.iload 5, 2) := by decide +kernel
theorem dX8_mixFarm_89 : decode cX8_mixFarm 89 = .ok (.iconst 3, 1) := by decide +kernel
theorem dX8_mixFarm_90 : decode cX8_mixFarm 90 = .ok (.invokevirtual 268, 3) := by decide +kernel
theorem dX8_mixFarm_93 : decode cX8_mixFarm 93 = .ok (.i2l, 1) := by decide +kernel
theorem dX8_mixFarm_94 : decode cX8_mixFarm 94 = .ok (.invokestatic 286, 3) := by decide +kernel
theorem dX8_mixFarm_97 : decode cX8_mixFarm 97 = .ok (.lstore_n 3, 1) := by decide +kernel
theorem dX8_mixFarm_98 : decode cX8_mixFarm 98 = .ok (.iinc 5 1, 3) := by decide +kernel
theorem dX8_mixFarm_101 : decode cX8_mixFarm 101 = .ok (.goto (-64), 3) := by decide +kernel
theorem dX8_mixFarm_104 : decode cX8_mixFarm 104 = .ok (.iconst 0, 1) := by decide +kernel
theorem dX8_mixFarm_105 : decode cX8_mixFarm 105 = .ok (.istore 5, 2) := by decide +kernel
theorem dX8_mixFarm_107 : decode cX8_mixFarm 107 = .ok (.iload 5, 2) := by decide +kernel
theorem dX8_mixFarm_109 : decode cX8_mixFarm 109 = .ok (.aload_n 0, 1) := by decide +kernel
theorem dX8_mixFarm_110 : decode cX8_mixFarm 110 = .ok (.getfield 10, 3) := by decide +kernel
theorem dX8_mixFarm_113 : decode cX8_mixFarm 113 = .ok (.getfield 151, 3) := by decide +kernel
theorem dX8_mixFarm_116 : decode cX8_mixFarm 116 = .ok (.getfield 167, 3) := by decide +kernel
theorem dX8_mixFarm_119 : decode cX8_mixFarm 119 = .ok (.if_icmp .ge 47, 3) := by decide +kernel
theorem dX8_mixFarm_122 : decode cX8_mixFarm 122 = .ok (.lload_n 3, 1) := by decide +kernel
theorem dX8_mixFarm_123 : decode cX8_mixFarm 123 = .ok (.aload_n 0, 1) := by decide +kernel
theorem dX8_mixFarm_124 : decode cX8_mixFarm 124 = .ok (.getfield 10, 3) := by decide +kernel
theorem dX8_mixFarm_127 : decode cX8_mixFarm 127 = .ok (.getfield 151, 3) := by decide +kernel
theorem dX8_mixFarm_130 : decode cX8_mixFarm 130 = .ok (.getfield 229, 3) := by decide +kernel
theorem dX8_mixFarm_133 : decode cX8_mixFarm 133 = .ok (.iload 5, 2) := by decide +kernel
theorem dX8_mixFarm_135 : decode cX8_mixFarm 135 = .ok (.iaload, 1) := by decide +kernel
theorem dX8_mixFarm_136 : decode cX8_mixFarm 136 = .ok (.i2l, 1) := by decide +kernel
theorem dX8_mixFarm_137 : decode cX8_mixFarm 137 = .ok (.invokestatic 286, 3) := by decide +kernel
theorem dX8_mixFarm_140 : decode cX8_mixFarm 140 = .ok (.lstore_n 3, 1) := by decide +kernel
theorem dX8_mixFarm_141 : decode cX8_mixFarm 141 = .ok (.lload_n 3, 1) := by decide +kernel
theorem dX8_mixFarm_142 : decode cX8_mixFarm 142 = .ok (.aload_n 0, 1) := by decide +kernel
theorem dX8_mixFarm_143 : decode cX8_mixFarm 143 = .ok (.getfield 10, 3) := by decide +kernel
theorem dX8_mixFarm_146 : decode cX8_mixFarm 146 = .ok (.getfield 151, 3) := by decide +kernel
theorem dX8_mixFarm_149 : decode cX8_mixFarm 149 = .ok (.getfield 232, 3) := by decide +kernel
theorem dX8_mixFarm_152 : decode cX8_mixFarm 152 = .ok (.iload 5, 2) := by decide +kernel
theorem dX8_mixFarm_154 : decode cX8_mixFarm 154 = .ok (.iaload, 1) := by decide +kernel
theorem dX8_mixFarm_155 : decode cX8_mixFarm 155 = .ok (.i2l, 1) := by decide +kernel
theorem dX8_mixFarm_156 : decode cX8_mixFarm 156 = .ok (.invokestatic 286, 3) := by decide +kernel
theorem dX8_mixFarm_159 : decode cX8_mixFarm 159 = .ok (.lstore_n 3, 1) := by decide +kernel
theorem dX8_mixFarm_160 : decode cX8_mixFarm 160 = .ok (.iinc 5 1, 3) := by decide +kernel
theorem dX8_mixFarm_163 : decode cX8_mixFarm 163 = .ok (.goto (-56), 3) := by decide +kernel
theorem dX8_mixFarm_166 : decode cX8_mixFarm 166 = .ok (.iconst 0, 1) := by decide +kernel
theorem dX8_mixFarm_167 : decode cX8_mixFarm 167 = .ok (.istore 5, 2) := by decide +kernel
theorem dX8_mixFarm_169 : decode cX8_mixFarm 169 = .ok (.iload 5, 2) := by decide +kernel
theorem dX8_mixFarm_171 : decode cX8_mixFarm 171 = .ok (.aload_n 0, 1) := by decide +kernel
theorem dX8_mixFarm_172 : decode cX8_mixFarm 172 = .ok (.getfield 10, 3) := by decide +kernel
theorem dX8_mixFarm_175 : decode cX8_mixFarm 175 = .ok (.getfield 87, 3) := by decide +kernel
theorem dX8_mixFarm_178 : decode cX8_mixFarm 178 = .ok (.getfield 107, 3) := by decide +kernel
theorem dX8_mixFarm_181 : decode cX8_mixFarm 181 = .ok (.if_icmp .ge 47, 3) := by decide +kernel
theorem dX8_mixFarm_184 : decode cX8_mixFarm 184 = .ok (.lload_n 3, 1) := by decide +kernel
theorem dX8_mixFarm_185 : decode cX8_mixFarm 185 = .ok (.aload_n 0, 1) := by decide +kernel
theorem dX8_mixFarm_186 : decode cX8_mixFarm 186 = .ok (.getfield 10, 3) := by decide +kernel
theorem dX8_mixFarm_189 : decode cX8_mixFarm 189 = .ok (.getfield 87, 3) := by decide +kernel
theorem dX8_mixFarm_192 : decode cX8_mixFarm 192 = .ok (.getfield 237, 3) := by decide +kernel
theorem dX8_mixFarm_195 : decode cX8_mixFarm 195 = .ok (.iload 5, 2) := by decide +kernel
theorem dX8_mixFarm_197 : decode cX8_mixFarm 197 = .ok (.iaload, 1) := by decide +kernel
theorem dX8_mixFarm_198 : decode cX8_mixFarm 198 = .ok (.i2l, 1) := by decide +kernel
theorem dX8_mixFarm_199 : decode cX8_mixFarm 199 = .ok (.invokestatic 286, 3) := by decide +kernel
theorem dX8_mixFarm_202 : decode cX8_mixFarm 202 = .ok (.lstore_n 3, 1) := by decide +kernel
theorem dX8_mixFarm_203 : decode cX8_mixFarm 203 = .ok (.lload_n 3, 1) := by decide +kernel
theorem dX8_mixFarm_204 : decode cX8_mixFarm 204 = .ok (.aload_n 0, 1) := by decide +kernel
theorem dX8_mixFarm_205 : decode cX8_mixFarm 205 = .ok (.getfield 10, 3) := by decide +kernel
theorem dX8_mixFarm_208 : decode cX8_mixFarm 208 = .ok (.getfield 87, 3) := by decide +kernel
theorem dX8_mixFarm_211 : decode cX8_mixFarm 211 = .ok (.getfield 240, 3) := by decide +kernel
theorem dX8_mixFarm_214 : decode cX8_mixFarm 214 = .ok (.iload 5, 2) := by decide +kernel
theorem dX8_mixFarm_216 : decode cX8_mixFarm 216 = .ok (.iaload, 1) := by decide +kernel
theorem dX8_mixFarm_217 : decode cX8_mixFarm 217 = .ok (.i2l, 1) := by decide +kernel
theorem dX8_mixFarm_218 : decode cX8_mixFarm 218 = .ok (.invokestatic 286, 3) := by decide +kernel
theorem dX8_mixFarm_221 : decode cX8_mixFarm 221 = .ok (.lstore_n 3, 1) := by decide +kernel
theorem dX8_mixFarm_222 : decode cX8_mixFarm 222 = .ok (.iinc 5 1, 3) := by decide +kernel
theorem dX8_mixFarm_225 : decode cX8_mixFarm 225 = .ok (.goto (-56), 3) := by decide +kernel
theorem dX8_mixFarm_228 : decode cX8_mixFarm 228 = .ok (.iconst 0, 1) := by decide +kernel
theorem dX8_mixFarm_229 : decode cX8_mixFarm 229 = .ok (.istore 5, 2) := by decide +kernel
theorem dX8_mixFarm_231 : decode cX8_mixFarm 231 = .ok (.iload 5, 2) := by decide +kernel
theorem dX8_mixFarm_233 : decode cX8_mixFarm 233 = .ok (.iconst 5, 1) := by decide +kernel
theorem dX8_mixFarm_234 : decode cX8_mixFarm 234 = .ok (.if_icmp .ge 25, 3) := by decide +kernel
theorem dX8_mixFarm_237 : decode cX8_mixFarm 237 = .ok (.lload_n 3, 1) := by decide +kernel
theorem dX8_mixFarm_238 : decode cX8_mixFarm 238 = .ok (.aload_n 0, 1) := by decide +kernel
theorem dX8_mixFarm_239 : decode cX8_mixFarm 239 = .ok (.getfield 10, 3) := by decide +kernel
theorem dX8_mixFarm_242 : decode cX8_mixFarm 242 = .ok (.getfield 245, 3) := by decide +kernel
theorem dX8_mixFarm_245 : decode cX8_mixFarm 245 = .ok (.iload 5, 2) := by decide +kernel
theorem dX8_mixFarm_247 : decode cX8_mixFarm 247 = .ok (.iaload, 1) := by decide +kernel
theorem dX8_mixFarm_248 : decode cX8_mixFarm 248 = .ok (.i2l, 1) := by decide +kernel
theorem dX8_mixFarm_249 : decode cX8_mixFarm 249 = .ok (.invokestatic 286, 3) := by decide +kernel
theorem dX8_mixFarm_252 : decode cX8_mixFarm 252 = .ok (.lstore_n 3, 1) := by decide +kernel
theorem dX8_mixFarm_253 : decode cX8_mixFarm 253 = .ok (.iinc 5 1, 3) := by decide +kernel
theorem dX8_mixFarm_256 : decode cX8_mixFarm 256 = .ok (.goto (-25), 3) := by decide +kernel
theorem dX8_mixFarm_259 : decode cX8_mixFarm 259 = .ok (.lload_n 3, 1) := by decide +kernel
theorem dX8_mixFarm_260 : decode cX8_mixFarm 260 = .ok (.lreturn, 1) := by decide +kernel
theorem dX8_bitsOfFloat_0 : decode cX8_bitsOfFloat 0 = .ok (.fload_n 0, 1) := by decide +kernel
theorem dX8_bitsOfFloat_1 : decode cX8_bitsOfFloat 1 = .ok (.fconst 0, 1) := by decide +kernel
theorem dX8_bitsOfFloat_2 : decode cX8_bitsOfFloat 2 = .ok (.fcmp .g, 1) := by decide +kernel
theorem dX8_bitsOfFloat_3 : decode cX8_bitsOfFloat 3 = .ok (.ifCond .gt 5, 3) := by decide +kernel
theorem dX8_bitsOfFloat_6 : decode cX8_bitsOfFloat 6 = .ok (.iconst 0, 1) := by decide +kernel
theorem dX8_bitsOfFloat_7 : decode cX8_bitsOfFloat 7 = .ok (.ireturn, 1) := by decide +kernel
theorem dX8_bitsOfFloat_8 : decode cX8_bitsOfFloat 8 = .ok (.fload_n 0, 1) := by decide +kernel
theorem dX8_bitsOfFloat_9 : decode cX8_bitsOfFloat 9 = .ok (.fstore_n 1, 1) := by decide +kernel
theorem dX8_bitsOfFloat_10 : decode cX8_bitsOfFloat 10 = .ok (.bipush 127, 2) := by decide +kernel
theorem dX8_bitsOfFloat_12 : decode cX8_bitsOfFloat 12 = .ok (.istore_n 2, 1) := by decide +kernel
theorem dX8_bitsOfFloat_13 : decode cX8_bitsOfFloat 13 = .ok (.iconst 0, 1) := by decide +kernel
theorem dX8_bitsOfFloat_14 : decode cX8_bitsOfFloat 14 = .ok (.istore_n 3, 1) := by decide +kernel
theorem dX8_bitsOfFloat_15 : decode cX8_bitsOfFloat 15 = .ok (.iload_n 3, 1) := by decide +kernel
theorem dX8_bitsOfFloat_16 : decode cX8_bitsOfFloat 16 = .ok (.bipush 126, 2) := by decide +kernel
theorem dX8_bitsOfFloat_18 : decode cX8_bitsOfFloat 18 = .ok (.if_icmp .ge 22, 3) := by decide +kernel
theorem dX8_bitsOfFloat_21 : decode cX8_bitsOfFloat 21 = .ok (.fload_n 1, 1) := by decide +kernel
theorem dX8_bitsOfFloat_22 : decode cX8_bitsOfFloat 22 = .ok (.fconst 2, 1) := by decide +kernel
theorem dX8_bitsOfFloat_23 : decode cX8_bitsOfFloat 23 = .ok (.fcmp .l, 1) := by decide +kernel
theorem dX8_bitsOfFloat_24 : decode cX8_bitsOfFloat 24 = .ok (.ifCond .lt 16, 3) := by decide +kernel
theorem dX8_bitsOfFloat_27 : decode cX8_bitsOfFloat 27 = .ok (.fload_n 1, 1) := by decide +kernel
theorem dX8_bitsOfFloat_28 : decode cX8_bitsOfFloat 28 = .ok (.fconst 2, 1) := by decide +kernel
theorem dX8_bitsOfFloat_29 : decode cX8_bitsOfFloat 29 = .ok (.fdiv, 1) := by decide +kernel
theorem dX8_bitsOfFloat_30 : decode cX8_bitsOfFloat 30 = .ok (.fstore_n 1, 1) := by decide +kernel
theorem dX8_bitsOfFloat_31 : decode cX8_bitsOfFloat 31 = .ok (.iinc 2 1, 3) := by decide +kernel
theorem dX8_bitsOfFloat_34 : decode cX8_bitsOfFloat 34 = .ok (.iinc 3 1, 3) := by decide +kernel
theorem dX8_bitsOfFloat_37 : decode cX8_bitsOfFloat 37 = .ok (.goto (-22), 3) := by decide +kernel
theorem dX8_bitsOfFloat_40 : decode cX8_bitsOfFloat 40 = .ok (.iconst 0, 1) := by decide +kernel
theorem dX8_bitsOfFloat_41 : decode cX8_bitsOfFloat 41 = .ok (.istore_n 3, 1) := by decide +kernel
theorem dX8_bitsOfFloat_42 : decode cX8_bitsOfFloat 42 = .ok (.iload_n 3, 1) := by decide +kernel
theorem dX8_bitsOfFloat_43 : decode cX8_bitsOfFloat 43 = .ok (.bipush 126, 2) := by decide +kernel
theorem dX8_bitsOfFloat_45 : decode cX8_bitsOfFloat 45 = .ok (.if_icmp .ge 22, 3) := by decide +kernel
theorem dX8_bitsOfFloat_48 : decode cX8_bitsOfFloat 48 = .ok (.fload_n 1, 1) := by decide +kernel
theorem dX8_bitsOfFloat_49 : decode cX8_bitsOfFloat 49 = .ok (.fconst 1, 1) := by decide +kernel
theorem dX8_bitsOfFloat_50 : decode cX8_bitsOfFloat 50 = .ok (.fcmp .g, 1) := by decide +kernel
theorem dX8_bitsOfFloat_51 : decode cX8_bitsOfFloat 51 = .ok (.ifCond .ge 16, 3) := by decide +kernel
theorem dX8_bitsOfFloat_54 : decode cX8_bitsOfFloat 54 = .ok (.fload_n 1, 1) := by decide +kernel
theorem dX8_bitsOfFloat_55 : decode cX8_bitsOfFloat 55 = .ok (.fconst 2, 1) := by decide +kernel
theorem dX8_bitsOfFloat_56 : decode cX8_bitsOfFloat 56 = .ok (.fmul, 1) := by decide +kernel
theorem dX8_bitsOfFloat_57 : decode cX8_bitsOfFloat 57 = .ok (.fstore_n 1, 1) := by decide +kernel
theorem dX8_bitsOfFloat_58 : decode cX8_bitsOfFloat 58 = .ok (.iinc 2 (-1), 3) := by decide +kernel
theorem dX8_bitsOfFloat_61 : decode cX8_bitsOfFloat 61 = .ok (.iinc 3 1, 3) := by decide +kernel
theorem dX8_bitsOfFloat_64 : decode cX8_bitsOfFloat 64 = .ok (.goto (-22), 3) := by decide +kernel
theorem dX8_bitsOfFloat_67 : decode cX8_bitsOfFloat 67 = .ok (.iload_n 2, 1) := by decide +kernel
theorem dX8_bitsOfFloat_68 : decode cX8_bitsOfFloat 68 = .ok (.bipush 23, 2) := by decide +kernel
theorem dX8_bitsOfFloat_70 : decode cX8_bitsOfFloat 70 = .ok (.ishl, 1) := by decide +kernel
theorem dX8_bitsOfFloat_71 : decode cX8_bitsOfFloat 71 = .ok (.fload_n 1, 1) := by decide +kernel
theorem dX8_bitsOfFloat_72 : decode cX8_bitsOfFloat 72 = .ok (.fconst 1, 1) := by decide +kernel
theorem dX8_bitsOfFloat_73 : decode cX8_bitsOfFloat 73 = .ok (.fsub, 1) := by decide +kernel
theorem dX8_bitsOfFloat_74 : decode cX8_bitsOfFloat 74 = .ok (.ldc_w 354, 3) := by decide +kernel
theorem dX8_bitsOfFloat_77 : decode cX8_bitsOfFloat 77 = .ok (.fmul, 1) := by decide +kernel
theorem dX8_bitsOfFloat_78 : decode cX8_bitsOfFloat 78 = .ok (.f2i, 1) := by decide +kernel
theorem dX8_bitsOfFloat_79 : decode cX8_bitsOfFloat 79 = .ok (.ior, 1) := by decide +kernel
theorem dX8_bitsOfFloat_80 : decode cX8_bitsOfFloat 80 = .ok (.ireturn, 1) := by decide +kernel
theorem dX8_bitsOfDouble_0 : decode cX8_bitsOfDouble 0 = .ok (.dload_n 0, 1) := by decide +kernel
theorem dX8_bitsOfDouble_1 : decode cX8_bitsOfDouble 1 = .ok (.dconst 0, 1) := by decide +kernel
theorem dX8_bitsOfDouble_2 : decode cX8_bitsOfDouble 2 = .ok (.dcmp .g, 1) := by decide +kernel
theorem dX8_bitsOfDouble_3 : decode cX8_bitsOfDouble 3 = .ok (.ifCond .gt 5, 3) := by decide +kernel
theorem dX8_bitsOfDouble_6 : decode cX8_bitsOfDouble 6 = .ok (.lconst 0, 1) := by decide +kernel
theorem dX8_bitsOfDouble_7 : decode cX8_bitsOfDouble 7 = .ok (.lreturn, 1) := by decide +kernel
theorem dX8_bitsOfDouble_8 : decode cX8_bitsOfDouble 8 = .ok (.dload_n 0, 1) := by decide +kernel
theorem dX8_bitsOfDouble_9 : decode cX8_bitsOfDouble 9 = .ok (.dstore_n 2, 1) := by decide +kernel
theorem dX8_bitsOfDouble_10 : decode cX8_bitsOfDouble 10 = .ok (.ldc2_w 355, 3) := by decide +kernel
theorem dX8_bitsOfDouble_13 : decode cX8_bitsOfDouble 13 = .ok (.lstore 4, 2) := by decide +kernel
theorem dX8_bitsOfDouble_15 : decode cX8_bitsOfDouble 15 = .ok (.iconst 0, 1) := by decide +kernel
theorem dX8_bitsOfDouble_16 : decode cX8_bitsOfDouble 16 = .ok (.istore 6, 2) := by decide +kernel
theorem dX8_bitsOfDouble_18 : decode cX8_bitsOfDouble 18 = .ok (.iload 6, 2) := by decide +kernel
theorem dX8_bitsOfDouble_20 : decode cX8_bitsOfDouble 20 = .ok (.sipush 1022, 3) := by decide +kernel
theorem dX8_bitsOfDouble_23 : decode cX8_bitsOfDouble 23 = .ok (.if_icmp .ge 27, 3) := by decide +kernel
theorem dX8_bitsOfDouble_26 : decode cX8_bitsOfDouble 26 = .ok (.dload_n 2, 1) := by decide +kernel
theorem dX8_bitsOfDouble_27 : decode cX8_bitsOfDouble 27 = .ok (.dconst 1, 1) := by decide +kernel
theorem dX8_bitsOfDouble_28 : decode cX8_bitsOfDouble 28 = .ok (.dcmp .g, 1) := by decide +kernel
theorem dX8_bitsOfDouble_29 : decode cX8_bitsOfDouble 29 = .ok (.ifCond .ge 21, 3) := by decide +kernel
theorem dX8_bitsOfDouble_32 : decode cX8_bitsOfDouble 32 = .ok (.dload_n 2, 1) := by decide +kernel
theorem dX8_bitsOfDouble_33 : decode cX8_bitsOfDouble 33 = .ok (.ldc2_w 357, 3) := by decide +kernel
theorem dX8_bitsOfDouble_36 : decode cX8_bitsOfDouble 36 = .ok (.dmul, 1) := by decide +kernel
theorem dX8_bitsOfDouble_37 : decode cX8_bitsOfDouble 37 = .ok (.dstore_n 2, 1) := by decide +kernel
theorem dX8_bitsOfDouble_38 : decode cX8_bitsOfDouble 38 = .ok (.lload 4, 2) := by decide +kernel
theorem dX8_bitsOfDouble_40 : decode cX8_bitsOfDouble 40 = .ok (.lconst 1, 1) := by decide +kernel
theorem dX8_bitsOfDouble_41 : decode cX8_bitsOfDouble 41 = .ok (.lsub, 1) := by decide +kernel
theorem dX8_bitsOfDouble_42 : decode cX8_bitsOfDouble 42 = .ok (.lstore 4, 2) := by decide +kernel
theorem dX8_bitsOfDouble_44 : decode cX8_bitsOfDouble 44 = .ok (.iinc 6 1, 3) := by decide +kernel
theorem dX8_bitsOfDouble_47 : decode cX8_bitsOfDouble 47 = .ok (.goto (-29), 3) := by decide +kernel
theorem dX8_bitsOfDouble_50 : decode cX8_bitsOfDouble 50 = .ok (.lload 4, 2) := by decide +kernel
theorem dX8_bitsOfDouble_52 : decode cX8_bitsOfDouble 52 = .ok (.bipush 52, 2) := by decide +kernel
theorem dX8_bitsOfDouble_54 : decode cX8_bitsOfDouble 54 = .ok (.lshl, 1) := by decide +kernel
theorem dX8_bitsOfDouble_55 : decode cX8_bitsOfDouble 55 = .ok (.dload_n 2, 1) := by decide +kernel
theorem dX8_bitsOfDouble_56 : decode cX8_bitsOfDouble 56 = .ok (.dconst 1, 1) := by decide +kernel
theorem dX8_bitsOfDouble_57 : decode cX8_bitsOfDouble 57 = .ok (.dsub, 1) := by decide +kernel
theorem dX8_bitsOfDouble_58 : decode cX8_bitsOfDouble 58 = .ok (.ldc2_w 359, 3) := by decide +kernel
theorem dX8_bitsOfDouble_61 : decode cX8_bitsOfDouble 61 = .ok (.dmul, 1) := by decide +kernel
theorem dX8_bitsOfDouble_62 : decode cX8_bitsOfDouble 62 = .ok (.d2l, 1) := by decide +kernel
theorem dX8_bitsOfDouble_63 : decode cX8_bitsOfDouble 63 = .ok (.lor, 1) := by decide +kernel
theorem dX8_bitsOfDouble_64 : decode cX8_bitsOfDouble 64 = .ok (.lreturn, 1) := by decide +kernel
