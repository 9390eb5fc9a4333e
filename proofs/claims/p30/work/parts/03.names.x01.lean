theorem dX2_hoursUntilCalm_52 : decode cX2_hoursUntilCalm 52 = .ok (.invokevirtual 108, 3) := by decide +kernel
theorem dX2_hoursUntilCalm_55 : decode cX2_hoursUntilCalm 55 = .ok (.iload_n 3, 1) := by decide +kernel
theorem dX2_hoursUntilCalm_56 : decode cX2_hoursUntilCalm 56 = .ok (.if_icmp .gt 10, 3) := by decide +kernel
theorem dX2_hoursUntilCalm_59 : decode cX2_hoursUntilCalm 59 = .ok (.iload 4, 2) := by decide +kernel
theorem dX2_hoursUntilCalm_61 : decode cX2_hoursUntilCalm 61 = .ok (.iconst 1, 1) := by decide +kernel
theorem dX2_hoursUntilCalm_62 : decode cX2_hoursUntilCalm 62 = .ok (.iadd, 1) := by decide +kernel
theorem dX2_hoursUntilCalm_63 : decode cX2_hoursUntilCalm 63 = .ok (.goto 4, 3) := by decide +kernel
theorem dX2_hoursUntilCalm_66 : decode cX2_hoursUntilCalm 66 = .ok (.iconst 0, 1) := by decide +kernel
theorem dX2_hoursUntilCalm_67 : decode cX2_hoursUntilCalm 67 = .ok (.istore 4, 2) := by decide +kernel
theorem dX2_hoursUntilCalm_69 : decode cX2_hoursUntilCalm 69 = .ok (.iload 4, 2) := by decide +kernel
theorem dX2_hoursUntilCalm_71 : decode cX2_hoursUntilCalm 71 = .ok (.iload_n 2, 1) := by decide +kernel
theorem dX2_hoursUntilCalm_72 : decode cX2_hoursUntilCalm 72 = .ok (.if_icmp .ne 10, 3) := by decide +kernel
theorem dX2_hoursUntilCalm_75 : decode cX2_hoursUntilCalm 75 = .ok (.iload 5, 2) := by decide +kernel
theorem dX2_hoursUntilCalm_77 : decode cX2_hoursUntilCalm 77 = .ok (.iconst 1, 1) := by decide +kernel
theorem dX2_hoursUntilCalm_78 : decode cX2_hoursUntilCalm 78 = .ok (.iadd, 1) := by decide +kernel
theorem dX2_hoursUntilCalm_79 : decode cX2_hoursUntilCalm 79 = .ok (.iload_n 2, 1) := by decide +kernel
theorem dX2_hoursUntilCalm_80 : decode cX2_hoursUntilCalm 80 = .ok (.isub, 1) := by decide +kernel
theorem dX2_hoursUntilCalm_81 : decode cX2_hoursUntilCalm 81 = .ok (.ireturn, 1) := by decide +kernel
theorem dX2_hoursUntilCalm_82 : decode cX2_hoursUntilCalm 82 = .ok (.iinc 5 1, 3) := by decide +kernel
theorem dX2_hoursUntilCalm_85 : decode cX2_hoursUntilCalm 85 = .ok (.goto (-53), 3) := by decide +kernel
theorem dX2_hoursUntilCalm_88 : decode cX2_hoursUntilCalm 88 = .ok (.iconst (-1), 1) := by decide +kernel
theorem dX2_hoursUntilCalm_89 : decode cX2_hoursUntilCalm 89 = .ok (.ireturn, 1) := by decide +kernel
set_option maxRecDepth 20000 in
theorem ggX2_runHours_X2_runHour : GoodIn wsX2_runHours wsX2_runHour := goodIn_r _ [5, 6, 7, 8, 9, 10, 11, 12, 13, 14, 15, 16, 17, 18, 19, 20, 21, 22, 23, 4, 24, 25, 26, 27, 28, 29, 30, 31, 32, 33, 34, 35, 36, 37, 38, 39, 40, 41, 42, 43, 44, 45, 46, 47, 48, 49, 50, 51, 52, 53, 54, 55, 56, 57, 58, 59, 60, 61, 62, 63, 64, 65, 66, 67, 68, 69, 70, 71, 72, 73, 74, 75, 76, 77, 78, 79, 80, 81, 82, 83, 84, 85, 86, 87, 88, 89, 90, 91, 92, 93, 94, 95, 96, 97, 98, 99, 100, 101, 102, 103, 104, 105, 106, 107, 108, 109, 110, 111, 112, 113, 114, 115, 116, 117, 118, 119, 120, 121, 122, 123, 124, 125, 126, 127, 128, 129, 130, 131, 132, 133, 134, 135, 136, 137, 138, 139, 140, 141, 142, 143, 144, 145, 146, 147, 148, 149, 150, 151, 152, 153, 154, 155, 156, 157, 158, 159, 160, 161, 162, 163, 164, 165, 166, 167, 168, 169, 170, 171, 172, 173, 174, 175, 176, 177, 178, 179, 180, 181, 182, 183, 184, 185, 186, 187, 188, 189, 190] (by decide +kernel) (by decide +kernel)
set_option maxRecDepth 20000 in
theorem gX2_runHours_X2_runHour : GoodIn wsX2_runHours (wsV RX2 172 RX2 yX2_runHour wsX2_runHour) := goodIn_app (goodIn_of _ (by decide +kernel)) ggX2_runHours_X2_runHour
theorem dX2_runHours_0 : decode cX2_runHours 0 = .ok (.iconst 0, 1) := by decide +kernel
theorem dX2_runHours_1 : decode cX2_runHours 1 = .ok (.istore_n 2, 1) := by decide +kernel
theorem dX2_runHours_2 : decode cX2_runHours 2 = .ok (.iconst 0, 1) := by decide +kernel
theorem dX2_runHours_3 : decode cX2_runHours 3 = .ok (.istore_n 3, 1) := by decide +kernel
theorem dX2_runHours_4 : decode cX2_runHours 4 = .ok (.iload_n 3, 1) := by decide +kernel
theorem dX2_runHours_5 : decode cX2_runHours 5 = .ok (.iload_n 1, 1) := by decide +kernel
theorem dX2_runHours_6 : decode cX2_runHours 6 = .ok (.if_icmp .ge 16, 3) := by decide +kernel
theorem dX2_runHours_9 : decode cX2_runHours 9 = .ok (.iload_n 2, 1) := by decide +kernel
theorem dX2_runHours_10 : decode cX2_runHours 10 = .ok (.aload_n 0, 1) := by decide +kernel
theorem dX2_runHours_11 : decode cX2_runHours 11 = .ok (.invokevirtual 172, 3) := by decide +kernel
theorem dX2_runHours_14 : decode cX2_runHours 14 = .ok (.iadd, 1) := by decide +kernel
theorem dX2_runHours_15 : decode cX2_runHours 15 = .ok (.istore_n 2, 1) := by decide +kernel
theorem dX2_runHours_16 : decode cX2_runHours 16 = .ok (.iinc 3 1, 3) := by decide +kernel
theorem dX2_runHours_19 : decode cX2_runHours 19 = .ok (.goto (-15), 3) := by decide +kernel
theorem dX2_runHours_22 : decode cX2_runHours 22 = .ok (.iload_n 2, 1) := by decide +kernel
theorem dX2_runHours_23 : decode cX2_runHours 23 = .ok (.ireturn, 1) := by decide +kernel
set_option maxRecDepth 20000 in
theorem ggX2_runHour_X3_unload : GoodIn wsX2_runHour wsX3_unload := goodIn_r _ [9, 10, 11, 12, 13, 14, 15, 165, 166, 167] (by decide +kernel) (by decide +kernel)
set_option maxRecDepth 20000 in
theorem gX2_runHour_X3_unload : GoodIn wsX2_runHour (wsV RX2 175 RX3 yX3_unload wsX3_unload) := goodIn_app (goodIn_of _ (by decide +kernel)) ggX2_runHour_X3_unload
set_option maxRecDepth 20000 in
theorem ggX2_runHour_X2_dropFaultless : GoodIn wsX2_runHour wsX2_dropFaultless := goodIn_r _ [20, 3, 21, 22, 23, 24, 25, 26, 27, 28, 29, 30, 31, 32, 33, 34, 35, 36, 37, 38, 39, 40, 41, 42, 19, 43, 44, 45, 46, 47, 48, 155, 156, 157, 158, 159, 160, 161, 162, 163, 164, 168, 169, 170, 171, 172, 173, 174, 175, 176, 177, 178, 179, 180, 181] (by decide +kernel) (by decide +kernel)
set_option maxRecDepth 20000 in
theorem gX2_runHour_X2_dropFaultless : GoodIn wsX2_runHour (wsV RX2 179 RX2 yX2_dropFaultless wsX2_dropFaultless) := goodIn_app (goodIn_of _ (by decide +kernel)) ggX2_runHour_X2_dropFaultless
set_option maxRecDepth 20000 in
theorem ggX2_runHour_X4_first : GoodIn wsX2_runHour wsX4_first := goodIn_r _ [30, 31, 32, 168, 169] (by decide +kernel) (by decide +kernel)
set_option maxRecDepth 20000 in
theorem gX2_runHour_X4_first : GoodIn wsX2_runHour (wsV RX2 182 RX4 yX4_first wsX4_first) := goodIn_app (goodIn_of _ (by decide +kernel)) ggX2_runHour_X4_first
set_option maxRecDepth 20000 in
theorem ggX2_runHour_X2_serve : GoodIn wsX2_runHour wsX2_serve := goodIn_r _ [52, 24, 22, 53, 54, 1, 2, 40, 41, 42, 19, 43, 44, 55, 56, 57, 36, 58, 59, 60, 61, 62, 63, 64, 65, 14, 66, 67, 68, 69, 70, 71, 13, 15, 72, 73, 74, 75, 76, 77, 78, 79, 80, 81, 82, 83, 84, 85, 86, 87, 88, 89, 8, 90, 10, 91, 11, 92, 93, 94, 95, 96, 4, 97, 98, 99, 100, 101, 102, 103, 104, 105, 106, 107, 108, 109, 110, 111, 112, 113, 38, 39, 155, 156, 157, 158, 159, 160, 161, 162, 163, 164, 170, 171, 172, 173, 174, 175, 176, 177, 178, 179, 180, 181, 182, 183, 184, 165, 166, 167, 185, 186] (by decide +kernel) (by decide +kernel)
set_option maxRecDepth 20000 in
theorem gX2_runHour_X2_serve : GoodIn wsX2_runHour (wsV RX2 185 RX2 yX2_serve wsX2_serve) := goodIn_app (goodIn_of _ (by decide +kernel)) ggX2_runHour_X2_serve
set_option maxRecDepth 20000 in
theorem ggX2_runHour_X2_sharePower : GoodIn wsX2_runHour wsX2_sharePower := goodIn_r _ [117, 44, 24, 25, 118, 119, 120, 92, 93, 94, 19, 95, 96, 4, 97, 98, 99, 100, 101, 102, 103, 121, 122, 123, 107, 124, 125, 126, 13, 14, 15, 155, 156, 157, 158, 159, 160, 161, 162, 163, 164, 175, 176, 177, 178, 179, 180, 181, 185, 186] (by decide +kernel) (by decide +kernel)
set_option maxRecDepth 20000 in
theorem gX2_runHour_X2_sharePower : GoodIn wsX2_runHour (wsV RX2 188 RX2 yX2_sharePower wsX2_sharePower) := goodIn_app (goodIn_of _ (by decide +kernel)) ggX2_runHour_X2_sharePower
set_option maxRecDepth 20000 in
theorem ggX2_runHour_X2_finishIfDone : GoodIn wsX2_runHour wsX2_finishIfDone := goodIn_r _ [130, 22, 131, 2, 24, 25, 132, 1, 3, 40, 41, 42, 19, 43, 44, 133, 134, 135, 8, 136, 10, 91, 11, 137, 138, 139, 140, 33, 34, 35, 36, 37, 38, 39, 141, 142, 143, 29, 144, 31, 32, 45, 46, 47, 48, 155, 156, 157, 158, 159, 160, 161, 162, 163, 164, 170, 171, 172, 173, 174, 175, 176, 177, 178, 179, 180, 181, 165, 166, 167, 168, 169] (by decide +kernel) (by decide +kernel)
set_option maxRecDepth 20000 in
theorem gX2_runHour_X2_finishIfDone : GoodIn wsX2_runHour (wsV RX2 191 RX2 yX2_finishIfDone wsX2_finishIfDone) := goodIn_app (goodIn_of _ (by decide +kernel)) ggX2_runHour_X2_finishIfDone
set_option maxRecDepth 20000 in
theorem ggX2_runHour_X2_worsen : GoodIn wsX2_runHour wsX2_worsen := goodIn_r _ [148, 44, 24, 2, 149, 150, 151, 107, 152, 153, 154, 155, 156, 157, 158, 159, 160, 161, 162, 163, 164, 175, 176, 177, 178, 179, 180, 181] (by decide +kernel) (by decide +kernel)
set_option maxRecDepth 20000 in
theorem gX2_runHour_X2_worsen : GoodIn wsX2_runHour (wsV RX2 194 RX2 yX2_worsen wsX2_worsen) := goodIn_app (goodIn_of _ (by decide +kernel)) ggX2_runHour_X2_worsen
theorem dX2_runHour_0 : decode cX2_runHour 0 = .ok (.aload_n 0, 1) := by decide +kernel
theorem dX2_runHour_1 : decode cX2_runHour 1 = .ok (.getfield 31, 3) := by decide +kernel
theorem dX2_runHour_4 : decode cX2_runHour 4 = .ok (.aload_n 0, 1) := by decide +kernel
theorem dX2_runHour_5 : decode cX2_runHour 5 = .ok (.getfield 56, 3) := by decide +kernel
theorem dX2_runHour_8 : decode cX2_runHour 8 = .ok (.iconst 5, 1) := by decide +kernel
theorem dX2_runHour_9 : decode cX2_runHour 9 = .ok (.iaload, 1) := by decide +kernel
theorem dX2_runHour_10 : decode cX2_runHour 10 = .ok (.invokevirtual 175, 3) := by decide +kernel
theorem dX2_runHour_13 : decode cX2_runHour 13 = .ok (.aload_n 0, 1) := by decide +kernel
theorem dX2_runHour_14 : decode cX2_runHour 14 = .ok (.invokevirtual 179, 3) := by decide +kernel
theorem dX2_runHour_17 : decode cX2_runHour 17 = .ok (.aload_n 0, 1) := by decide +kernel
theorem dX2_runHour_18 : decode cX2_runHour 18 = .ok (.getfield 38, 3) := by decide +kernel
theorem dX2_runHour_21 : decode cX2_runHour 21 = .ok (.invokevirtual 182, 3) := by decide +kernel
theorem dX2_runHour_24 : decode cX2_runHour 24 = .ok (.istore_n 1, 1) := by decide +kernel
theorem dX2_runHour_25 : decode cX2_runHour 25 = .ok (.aload_n 0, 1) := by decide +kernel
theorem dX2_runHour_26 : decode cX2_runHour 26 = .ok (.iload_n 1, 1) := by decide +kernel
theorem dX2_runHour_27 : decode cX2_runHour 27 = .ok (.invokevirtual 185, 3) := by decide +kernel
theorem dX2_runHour_30 : decode cX2_runHour 30 = .ok (.istore_n 2, 1) := by decide +kernel
theorem dX2_runHour_31 : decode cX2_runHour 31 = .ok (.aload_n 0, 1) := by decide +kernel
theorem dX2_runHour_32 : decode cX2_runHour 32 = .ok (.iload_n 1, 1) := by decide +kernel
theorem dX2_runHour_33 : decode cX2_runHour 33 = .ok (.iload_n 2, 1) := by decide +kernel
theorem dX2_runHour_34 : decode cX2_runHour 34 = .ok (.invokevirtual 188, 3) := by decide +kernel
theorem dX2_runHour_37 : decode cX2_runHour 37 = .ok (.istore_n 3, 1) := by decide +kernel
theorem dX2_runHour_38 : decode cX2_runHour 38 = .ok (.iload_n 2, 1) := by decide +kernel
theorem dX2_runHour_39 : decode cX2_runHour 39 = .ok (.iconst 4, 1) := by decide +kernel
theorem dX2_runHour_40 : decode cX2_runHour 40 = .ok (.if_icmp .ne 8, 3) := by decide +kernel
theorem dX2_runHour_43 : decode cX2_runHour 43 = .ok (.aload_n 0, 1) := by decide +kernel
theorem dX2_runHour_44 : decode cX2_runHour 44 = .ok (.iload_n 1, 1) := by decide +kernel
theorem dX2_runHour_45 : decode cX2_runHour 45 = .ok (.invokevirtual 191, 3) := by decide +kernel
theorem dX2_runHour_48 : decode cX2_runHour 48 = .ok (.aload_n 0, 1) := by decide +kernel
theorem dX2_runHour_49 : decode cX2_runHour 49 = .ok (.iload_n 2, 1) := by decide +kernel
theorem dX2_runHour_50 : decode cX2_runHour 50 = .ok (.iconst 4, 1) := by decide +kernel
theorem dX2_runHour_51 : decode cX2_runHour 51 = .ok (.if_icmp .ne 7, 3) := by decide +kernel
theorem dX2_runHour_54 : decode cX2_runHour 54 = .ok (.iload_n 1, 1) := by decide +kernel
theorem dX2_runHour_55 : decode cX2_runHour 55 = .ok (.goto 4, 3) := by decide +kernel
theorem dX2_runHour_58 : decode cX2_runHour 58 = .ok (.iconst (-1), 1) := by decide +kernel
theorem dX2_runHour_59 : decode cX2_runHour 59 = .ok (.invokevirtual 194, 3) := by decide +kernel
theorem dX2_runHour_62 : decode cX2_runHour 62 = .ok (.aload_n 0, 1) := by decide +kernel
theorem dX2_runHour_63 : decode cX2_runHour 63 = .ok (.dup, 1) := by decide +kernel
theorem dX2_runHour_64 : decode cX2_runHour 64 = .ok (.getfield 63, 3) := by decide +kernel
theorem dX2_runHour_67 : decode cX2_runHour 67 = .ok (.iconst 1, 1) := by decide +kernel
theorem dX2_runHour_68 : decode cX2_runHour 68 = .ok (.iadd, 1) := by decide +kernel
theorem dX2_runHour_69 : decode cX2_runHour 69 = .ok (.putfield 63, 3) := by decide +kernel
theorem dX2_runHour_72 : decode cX2_runHour 72 = .ok (.iload_n 3, 1) := by decide +kernel
theorem dX2_runHour_73 : decode cX2_runHour 73 = .ok (.ireturn, 1) := by decide +kernel
set_option maxRecDepth 20000 in
theorem ggX2_dropFaultless_X4_first : GoodIn wsX2_dropFaultless wsX4_first := goodIn_r _ [11, 12, 13, 41, 42] (by decide +kernel) (by decide +kernel)
set_option maxRecDepth 20000 in
theorem gX2_dropFaultless_X4_first : GoodIn wsX2_dropFaultless (wsV RX2 182 RX4 yX4_first wsX4_first) := goodIn_app (goodIn_of _ (by decide +kernel)) ggX2_dropFaultless_X4_first
set_option maxRecDepth 20000 in
theorem ggX2_dropFaultless_X1_forgetWork : GoodIn wsX2_dropFaultless wsX1_forgetWork := goodIn_r _ [18, 19, 20, 43, 44, 45, 46, 47] (by decide +kernel) (by decide +kernel)
set_option maxRecDepth 20000 in
theorem gX2_dropFaultless_X1_forgetWork : GoodIn wsX2_dropFaultless (wsV RX2 200 RX1 yX1_forgetWork wsX1_forgetWork) := goodIn_app (goodIn_of _ (by decide +kernel)) ggX2_dropFaultless_X1_forgetWork
set_option maxRecDepth 20000 in
theorem ggX2_dropFaultless_X2_hasTurbine : GoodIn wsX2_dropFaultless wsX2_hasTurbine := goodIn_r _ [25, 26, 31, 32, 33, 34, 35, 36, 37, 38, 39, 40] (by decide +kernel) (by decide +kernel)
set_option maxRecDepth 20000 in
theorem gX2_dropFaultless_X2_hasTurbine : GoodIn wsX2_dropFaultless (wsV RX2 112 RX2 yX2_hasTurbine wsX2_hasTurbine) := goodIn_app (goodIn_of _ (by decide +kernel)) ggX2_dropFaultless_X2_hasTurbine
set_option maxRecDepth 20000 in
theorem ggX2_dropFaultless_X4_removeAt : GoodIn wsX2_dropFaultless wsX4_removeAt := goodIn_r _ [30, 12, 13, 41, 42] (by decide +kernel) (by decide +kernel)
set_option maxRecDepth 20000 in
theorem gX2_dropFaultless_X4_removeAt : GoodIn wsX2_dropFaultless (wsV RX2 203 RX4 yX4_removeAt wsX4_removeAt) := goodIn_app (goodIn_of _ (by decide +kernel)) ggX2_dropFaultless_X4_removeAt
theorem dX2_dropFaultless_0 : decode cX2_dropFaultless 0 = .ok (.aload_n 0, 1) := by decide +kernel
theorem dX2_dropFaultless_1 : decode cX2_dropFaultless 1 = .ok (.getfield 38, 3) := by decide +kernel
theorem dX2_dropFaultless_4 : decode cX2_dropFaultless 4 = .ok (.getfield 153, 3) := by decide +kernel
theorem dX2_dropFaultless_7 : decode cX2_dropFaultless 7 = .ok (.ifCond .le 27, 3) := by decide +kernel
theorem dX2_dropFaultless_10 : decode cX2_dropFaultless 10 = .ok (.aload_n 0, 1) := by decide +kernel
theorem dX2_dropFaultless_11 : decode cX2_dropFaultless 11 = .ok (.getfield 38, 3) := by decide +kernel
theorem dX2_dropFaultless_14 : decode cX2_dropFaultless 14 = .ok (.invokevirtual 182, 3) := by decide +kernel
theorem dX2_dropFaultless_17 : decode cX2_dropFaultless 17 = .ok (.aload_n 0, 1) := by decide +kernel
theorem dX2_dropFaultless_18 : decode cX2_dropFaultless 18 = .ok (.getfield 45, 3) := by decide +kernel
theorem dX2_dropFaultless_21 : decode cX2_dropFaultless 21 = .ok (.getfield 197, 3) := by decide +kernel
theorem dX2_dropFaultless_24 : decode cX2_dropFaultless 24 = .ok (.if_icmp .eq 10, 3) := by decide +kernel
theorem dX2_dropFaultless_27 : decode cX2_dropFaultless 27 = .ok (.aload_n 0, 1) := by decide +kernel
theorem dX2_dropFaultless_28 : decode cX2_dropFaultless 28 = .ok (.getfield 45, 3) := by decide +kernel
theorem dX2_dropFaultless_31 : decode cX2_dropFaultless 31 = .ok (.invokevirtual 200, 3) := by decide +kernel
theorem dX2_dropFaultless_34 : decode cX2_dropFaultless 34 = .ok (.iconst 0, 1) := by decide +kernel
theorem dX2_dropFaultless_35 : decode cX2_dropFaultless 35 = .ok (.istore_n 1, 1) := by decide +kernel
theorem dX2_dropFaultless_36 : decode cX2_dropFaultless 36 = .ok (.iload_n 1, 1) := by decide +kernel
theorem dX2_dropFaultless_37 : decode cX2_dropFaultless 37 = .ok (.bipush 10, 2) := by decide +kernel
theorem dX2_dropFaultless_39 : decode cX2_dropFaultless 39 = .ok (.if_icmp .ge 53, 3) := by decide +kernel
theorem dX2_dropFaultless_42 : decode cX2_dropFaultless 42 = .ok (.aload_n 0, 1) := by decide +kernel
theorem dX2_dropFaultless_43 : decode cX2_dropFaultless 43 = .ok (.getfield 38, 3) := by decide +kernel
theorem dX2_dropFaultless_46 : decode cX2_dropFaultless 46 = .ok (.invokevirtual 182, 3) := by decide +kernel
theorem dX2_dropFaultless_49 : decode cX2_dropFaultless 49 = .ok (.istore_n 2, 1) := by decide +kernel
theorem dX2_dropFaultless_50 : decode cX2_dropFaultless 50 = .ok (.aload_n 0, 1) := by decide +kernel
theorem dX2_dropFaultless_51 : decode cX2_dropFaultless 51 = .ok (.iload_n 2, 1) := by decide +kernel
theorem dX2_dropFaultless_52 : decode cX2_dropFaultless 52 = .ok (.invokevirtual 112, 3) := by decide +kernel
theorem dX2_dropFaultless_55 : decode cX2_dropFaultless 55 = .ok (.ifCond .eq 15, 3) := by decide +kernel
theorem dX2_dropFaultless_58 : decode cX2_dropFaultless 58 = .ok (.aload_n 0, 1) := by decide +kernel
theorem dX2_dropFaultless_59 : decode cX2_dropFaultless 59 = .ok (.getfield 11, 3) := by decide +kernel
theorem dX2_dropFaultless_62 : decode cX2_dropFaultless 62 = .ok (.iload_n 2, 1) := by decide +kernel
theorem dX2_dropFaultless_63 : decode cX2_dropFaultless 63 = .ok (.aaload, 1) := by decide +kernel
theorem dX2_dropFaultless_64 : decode cX2_dropFaultless 64 = .ok (.getfield 102, 3) := by decide +kernel
theorem dX2_dropFaultless_67 : decode cX2_dropFaultless 67 = .ok (.ifCond .eq 4, 3) := by decide +kernel
theorem dX2_dropFaultless_70 : decode cX2_dropFaultless 70 = .ok (.return_, 1) := by decide +kernel
theorem dX2_dropFaultless_71 : decode cX2_dropFaultless 71 = .ok (.aload_n 0, 1) := by decide +kernel
theorem dX2_dropFaultless_72 : decode cX2_dropFaultless 72 = .ok (.getfield 38, 3) := by decide +kernel
theorem dX2_dropFaultless_75 : decode cX2_dropFaultless 75 = .ok (.iconst 0, 1) := by decide +kernel
theorem dX2_dropFaultless_76 : decode cX2_dropFaultless 76 = .ok (.invokevirtual 203, 3) := by decide +kernel
theorem dX2_dropFaultless_79 : decode cX2_dropFaultless 79 = .ok (.aload_n 0, 1) := by decide +kernel
theorem dX2_dropFaultless_80 : decode cX2_dropFaultless 80 = .ok (.getfield 45, 3) := by decide +kernel
theorem dX2_dropFaultless_83 : decode cX2_dropFaultless 83 = .ok (.invokevirtual 200, 3) := by decide +kernel
theorem dX2_dropFaultless_86 : decode cX2_dropFaultless 86 = .ok (.iinc 1 1, 3) := by decide +kernel
theorem dX2_dropFaultless_89 : decode cX2_dropFaultless 89 = .ok (.goto (-53), 3) := by decide +kernel
theorem dX2_dropFaultless_92 : decode cX2_dropFaultless 92 = .ok (.return_, 1) := by decide +kernel
set_option maxRecDepth 20000 in
theorem ggX2_serve_X2_hasTurbine : GoodIn wsX2_serve wsX2_hasTurbine := goodIn_r _ [11, 12, 82, 83, 84, 85, 86, 87, 88, 89, 90, 91] (by decide +kernel) (by decide +kernel)
set_option maxRecDepth 20000 in
theorem gX2_serve_X2_hasTurbine : GoodIn wsX2_serve (wsV RX2 112 RX2 yX2_hasTurbine wsX2_hasTurbine) := goodIn_app (goodIn_of _ (by decide +kernel)) ggX2_serve_X2_hasTurbine
set_option maxRecDepth 20000 in
theorem ggX2_serve_X1_isOnWay : GoodIn wsX2_serve wsX1_isOnWay := goodIn_r _ [17, 18, 92, 93, 94, 95, 96] (by decide +kernel) (by decide +kernel)
set_option maxRecDepth 20000 in
theorem gX2_serve_X1_isOnWay : GoodIn wsX2_serve (wsV RX2 206 RX1 yX1_isOnWay wsX1_isOnWay) := goodIn_app (goodIn_of _ (by decide +kernel)) ggX2_serve_X1_isOnWay
set_option maxRecDepth 20000 in
theorem ggX2_serve_X2_hoursBetween : GoodIn wsX2_serve wsX2_hoursBetween := goodIn_r _ [22, 6, 23, 24, 25, 26, 27, 28, 29, 30, 31, 32, 33, 34, 35, 36, 37, 38, 39, 40, 41, 82, 83, 84, 85, 86, 87, 88, 89, 90, 91, 104, 105, 106] (by decide +kernel) (by decide +kernel)
set_option maxRecDepth 20000 in
theorem gX2_serve_X2_hoursBetween : GoodIn wsX2_serve (wsV RX2 211 RX2 yX2_hoursBetween wsX2_hoursBetween) := goodIn_app (goodIn_of _ (by decide +kernel)) ggX2_serve_X2_hoursBetween
set_option maxRecDepth 20000 in
theorem ggX2_serve_X1_driveTo : GoodIn wsX2_serve wsX1_driveTo := goodIn_r _ [45, 18, 46, 47, 24, 25, 26, 48, 92, 93, 94, 95, 96] (by decide +kernel) (by decide +kernel)
set_option maxRecDepth 20000 in
theorem gX2_serve_X1_driveTo : GoodIn wsX2_serve (wsV RX2 214 RX1 yX1_driveTo wsX1_driveTo) := goodIn_app (goodIn_of _ (by decide +kernel)) ggX2_serve_X1_driveTo
set_option maxRecDepth 20000 in
theorem ggX2_serve_X3_unloadedFor : GoodIn wsX2_serve wsX3_unloadedFor := goodIn_r _ [53, 54, 55, 56, 107, 108, 109] (by decide +kernel) (by decide +kernel)
set_option maxRecDepth 20000 in
theorem gX2_serve_X3_unloadedFor : GoodIn wsX2_serve (wsV RX2 131 RX3 yX3_unloadedFor wsX3_unloadedFor) := goodIn_app (goodIn_of _ (by decide +kernel)) ggX2_serve_X3_unloadedFor
set_option maxRecDepth 20000 in
theorem ggX2_serve_X2_windNow : GoodIn wsX2_serve wsX2_windNow := goodIn_r _ [60, 61, 62, 63, 64, 65, 66, 67, 68, 69, 82, 83, 84, 85, 86, 87, 88, 89, 90, 91, 110, 111] (by decide +kernel) (by decide +kernel)
set_option maxRecDepth 20000 in
theorem gX2_serve_X2_windNow : GoodIn wsX2_serve (wsV RX2 137 RX2 yX2_windNow wsX2_windNow) := goodIn_app (goodIn_of _ (by decide +kernel)) ggX2_serve_X2_windNow
set_option maxRecDepth 20000 in
theorem ggX2_serve_X5_limit : GoodIn wsX2_serve wsX5_limit := goodIn_r _ [74, 75, 97, 98, 99, 100, 101, 102, 103] (by decide +kernel) (by decide +kernel)
set_option maxRecDepth 20000 in
theorem gX2_serve_X5_limit : GoodIn wsX2_serve (wsV RX2 125 RX5 yX5_limit wsX5_limit) := goodIn_app (goodIn_of _ (by decide +kernel)) ggX2_serve_X5_limit
set_option maxRecDepth 20000 in
theorem ggX2_serve_X1_workAnHourOn : GoodIn wsX2_serve wsX1_workAnHourOn := goodIn_r _ [79, 80, 81, 92, 93, 94, 95, 96] (by decide +kernel) (by decide +kernel)
set_option maxRecDepth 20000 in
theorem gX2_serve_X1_workAnHourOn : GoodIn wsX2_serve (wsV RX2 217 RX1 yX1_workAnHourOn wsX1_workAnHourOn) := goodIn_app (goodIn_of _ (by decide +kernel)) ggX2_serve_X1_workAnHourOn
theorem dX2_serve_0 : decode cX2_serve 0 = .ok (.aload_n 0, 1) := by decide +kernel
theorem dX2_serve_1 : decode cX2_serve 1 = .ok (.iload_n 1, 1) := by decide +kernel
theorem dX2_serve_2 : decode cX2_serve 2 = .ok (.invokevirtual 112, 3) := by decide +kernel
theorem dX2_serve_5 : decode cX2_serve 5 = .ok (.ifCond .ne 5, 3) := by decide +kernel
theorem dX2_serve_8 : decode cX2_serve 8 = .ok (.iconst 0, 1) := by decide +kernel
theorem dX2_serve_9 : decode cX2_serve 9 = .ok (.ireturn, 1) := by decide +kernel
theorem dX2_serve_10 : decode cX2_serve 10 = .ok (.aload_n 0, 1) := by decide +kernel
theorem dX2_serve_11 : decode cX2_serve 11 = .ok (.getfield 11, 3) := by decide +kernel
theorem dX2_serve_14 : decode cX2_serve 14 = .ok (.iload_n 1, 1) := by decide +kernel
theorem dX2_serve_15 : decode cX2_serve 15 = .ok (.aaload, 1) := by decide +kernel
theorem dX2_serve_16 : decode cX2_serve 16 = .ok (.astore_n 2, 1) := by decide +kernel
theorem dX2_serve_17 : decode cX2_serve 17 = .ok (.aload_n 0, 1) := by decide +kernel
theorem dX2_serve_18 : decode cX2_serve 18 = .ok (.getfield 45, 3) := by decide +kernel
theorem dX2_serve_21 : decode cX2_serve 21 = .ok (.invokevirtual 206, 3) := by decide +kernel
theorem dX2_serve_24 : decode cX2_serve 24 = .ok (.ifCond .ne 17, 3) := by decide +kernel
theorem dX2_serve_27 : decode cX2_serve 27 = .ok (.aload_n 0, 1) := by decide +kernel
theorem dX2_serve_28 : decode cX2_serve 28 = .ok (.getfield 45, 3) := by decide +kernel
theorem dX2_serve_31 : decode cX2_serve 31 = .ok (.getfield 210, 3) := by decide +kernel
theorem dX2_serve_34 : decode cX2_serve 34 = .ok (.aload_n 2, 1) := by decide +kernel
theorem dX2_serve_35 : decode cX2_serve 35 = .ok (.getfield 95, 3) := by decide +kernel
theorem dX2_serve_38 : decode cX2_serve 38 = .ok (.if_icmp .eq 32, 3) := by decide +kernel
theorem dX2_serve_41 : decode cX2_serve 41 = .ok (.aload_n 0, 1) := by decide +kernel
theorem dX2_serve_42 : decode cX2_serve 42 = .ok (.getfield 45, 3) := by decide +kernel
theorem dX2_serve_45 : decode cX2_serve 45 = .ok (.iload_n 1, 1) := by decide +kernel
theorem dX2_serve_46 : decode cX2_serve 46 = .ok (.aload_n 2, 1) := by decide +kernel
theorem dX2_serve_47 : decode cX2_serve 47 = .ok (.getfield 95, 3) := by decide +kernel
theorem dX2_serve_50 : decode cX2_serve 50 = .ok (.aload_n 0, 1) := by decide +kernel
theorem dX2_serve_51 : decode cX2_serve 51 = .ok (.aload_n 0, 1) := by decide +kernel
theorem dX2_serve_52 : decode cX2_serve 52 = .ok (.getfield 45, 3) := by decide +kernel
theorem dX2_serve_55 : decode cX2_serve 55 = .ok (.getfield 210, 3) := by decide +kernel
theorem dX2_serve_58 : decode cX2_serve 58 = .ok (.aload_n 2, 1) := by decide +kernel
theorem dX2_serve_59 : decode cX2_serve 59 = .ok (.getfield 95, 3) := by decide +kernel
theorem dX2_serve_62 : decode cX2_serve 62 = .ok (.invokevirtual 211, 3) := by decide +kernel
theorem dX2_serve_65 : decode cX2_serve 65 = .ok (.invokevirtual 214, 3) := by decide +kernel
theorem dX2_serve_68 : decode cX2_serve 68 = .ok (.iconst 1, 1) := by decide +kernel
theorem dX2_serve_69 : decode cX2_serve 69 = .ok (.ireturn, 1) := by decide +kernel
theorem dX2_serve_70 : decode cX2_serve 70 = .ok (.aload_n 0, 1) := by decide +kernel
theorem dX2_serve_71 : decode cX2_serve 71 = .ok (.getfield 31, 3) := by decide +kernel
theorem dX2_serve_74 : decode cX2_serve 74 = .ok (.iload_n 1, 1) := by decide +kernel
theorem dX2_serve_75 : decode cX2_serve 75 = .ok (.invokevirtual 131, 3) := by decide +kernel
theorem dX2_serve_78 : decode cX2_serve 78 = .ok (.ifCond .ne 5, 3) := by decide +kernel
theorem dX2_serve_81 : decode cX2_serve 81 = .ok (.iconst 2, 1) := by decide +kernel
theorem dX2_serve_82 : decode cX2_serve 82 = .ok (.ireturn, 1) := by decide +kernel
theorem dX2_serve_83 : decode cX2_serve 83 = .ok (.aload_n 0, 1) := by decide +kernel
theorem dX2_serve_84 : decode cX2_serve 84 = .ok (.invokevirtual 137, 3) := by decide +kernel
theorem dX2_serve_87 : decode cX2_serve 87 = .ok (.aload_n 2, 1) := by decide +kernel
theorem dX2_serve_88 : decode cX2_serve 88 = .ok (.aload_n 0, 1) := by decide +kernel
theorem dX2_serve_89 : decode cX2_serve 89 = .ok (.getfield 56, 3) := by decide +kernel
theorem dX2_serve_92 : decode cX2_serve 92 = .ok (.iconst 0, 1) := by decide +kernel
theorem dX2_serve_93 : decode cX2_serve 93 = .ok (.iaload, 1) := by decide +kernel
theorem dX2_serve_94 : decode cX2_serve 94 = .ok (.invokevirtual 125, 3) := by decide +kernel
theorem dX2_serve_97 : decode cX2_serve 97 = .ok (.if_icmp .le 5, 3) := by decide +kernel
theorem dX2_serve_100 : decode cX2_serve 100 = .ok (.iconst 3, 1) := by decide +kernel
theorem dX2_serve_101 : decode cX2_serve 101 = .ok (.ireturn, 1) := by decide +kernel
theorem dX2_serve_102 : decode cX2_serve 102 = .ok (.aload_n 0, 1) := by decide +kernel
theorem dX2_serve_103 : decode cX2_serve 103 = .ok (.getfield 45, 3) := by decide +kernel
theorem dX2_serve_106 : decode cX2_serve 106 = .ok (.iload_n 1, 1) := by decide +kernel
theorem dX2_serve_107 : decode cX2_serve 107 = .ok (.invokevirtual 217, 3) := by decide +kernel
theorem dX2_serve_110 : decode cX2_serve 110 = .ok (.iconst 4, 1) := by decide +kernel
theorem dX2_serve_111 : decode cX2_serve 111 = .ok (.ireturn, 1) := by decide +kernel
set_option maxRecDepth 20000 in
theorem ggX2_sharePower_X2_windNow : GoodIn wsX2_sharePower wsX2_windNow := goodIn_r _ [11, 12, 13, 14, 15, 16, 17, 18, 19, 20, 31, 32, 33, 34, 35, 36, 37, 38, 39, 40, 48, 49] (by decide +kernel) (by decide +kernel)
set_option maxRecDepth 20000 in
theorem gX2_sharePower_X2_windNow : GoodIn wsX2_sharePower (wsV RX2 137 RX2 yX2_windNow wsX2_windNow) := goodIn_app (goodIn_of _ (by decide +kernel)) ggX2_sharePower_X2_windNow
set_option maxRecDepth 20000 in
theorem ggX2_sharePower_X5_fullPower : GoodIn wsX2_sharePower wsX5_fullPower := goodIn_r _ [25, 26, 27, 28, 29, 30, 41, 42, 43, 44, 45, 46, 47] (by decide +kernel) (by decide +kernel)
set_option maxRecDepth 20000 in
theorem gX2_sharePower_X5_fullPower : GoodIn wsX2_sharePower (wsV RX2 141 RX5 yX5_fullPower wsX5_fullPower) := goodIn_app (goodIn_of _ (by decide +kernel)) ggX2_sharePower_X5_fullPower
theorem dX2_sharePower_0 : decode cX2_sharePower 0 = .ok (.aload_n 0, 1) := by decide +kernel
theorem dX2_sharePower_1 : decode cX2_sharePower 1 = .ok (.invokevirtual 137, 3) := by decide +kernel
theorem dX2_sharePower_4 : decode cX2_sharePower 4 = .ok (.istore_n 3, 1) := by decide +kernel
theorem dX2_sharePower_5 : decode cX2_sharePower 5 = .ok (.iconst 0, 1) := by decide +kernel
theorem dX2_sharePower_6 : decode cX2_sharePower 6 = .ok (.istore 4, 2) := by decide +kernel
theorem dX2_sharePower_8 : decode cX2_sharePower 8 = .ok (.iconst 0, 1) := by decide +kernel
theorem dX2_sharePower_9 : decode cX2_sharePower 9 = .ok (.istore 5, 2) := by decide +kernel
theorem dX2_sharePower_11 : decode cX2_sharePower 11 = .ok (.iload 5, 2) := by decide +kernel
theorem dX2_sharePower_13 : decode cX2_sharePower 13 = .ok (.aload_n 0, 1) := by decide +kernel
theorem dX2_sharePower_14 : decode cX2_sharePower 14 = .ok (.getfield 17, 3) := by decide +kernel
theorem dX2_sharePower_17 : decode cX2_sharePower 17 = .ok (.if_icmp .ge 130, 3) := by decide +kernel
theorem dX2_sharePower_20 : decode cX2_sharePower 20 = .ok (.aload_n 0, 1) := by decide +kernel
theorem dX2_sharePower_21 : decode cX2_sharePower 21 = .ok (.getfield 11, 3) := by decide +kernel
theorem dX2_sharePower_24 : decode cX2_sharePower 24 = .ok (.iload 5, 2) := by decide +kernel
theorem dX2_sharePower_26 : decode cX2_sharePower 26 = .ok (.aaload, 1) := by decide +kernel
theorem dX2_sharePower_27 : decode cX2_sharePower 27 = .ok (.iload_n 3, 1) := by decide +kernel
theorem dX2_sharePower_28 : decode cX2_sharePower 28 = .ok (.invokevirtual 141, 3) := by decide +kernel
theorem dX2_sharePower_31 : decode cX2_sharePower 31 = .ok (.istore 6, 2) := by decide +kernel
theorem dX2_sharePower_33 : decode cX2_sharePower 33 = .ok (.iload 5, 2) := by decide +kernel
theorem dX2_sharePower_35 : decode cX2_sharePower 35 = .ok (.iload_n 1, 1) := by decide +kernel
theorem dX2_sharePower_36 : decode cX2_sharePower 36 = .ok (.if_icmp .ne 7, 3) := by decide +kernel
theorem dX2_sharePower_39 : decode cX2_sharePower 39 = .ok (.iload_n 2, 1) := by decide +kernel
theorem dX2_sharePower_40 : decode cX2_sharePower 40 = .ok (.goto 4, 3) := by decide +kernel
theorem dX2_sharePower_43 : decode cX2_sharePower 43 = .ok (.iconst 0, 1) := by decide +kernel
theorem dX2_sharePower_44 : decode cX2_sharePower 44 = .ok (.istore 7, 2) := by decide +kernel
theorem dX2_sharePower_46 : decode cX2_sharePower 46 = .ok (.iload 7, 2) := by decide +kernel
theorem dX2_sharePower_48 : decode cX2_sharePower 48 = .ok (.iconst 4, 1) := by decide +kernel
theorem dX2_sharePower_49 : decode cX2_sharePower 49 = .ok (.if_icmp .ne 8, 3) := by decide +kernel
theorem dX2_sharePower_52 : decode cX2_sharePower 52 = .ok (.iload 6, 2) := by decide +kernel
theorem dX2_sharePower_54 : decode cX2_sharePower 54 = .ok (.goto 18, 3) := by decide +kernel
theorem dX2_sharePower_57 : decode cX2_sharePower 57 = .ok (.iload 6, 2) := by decide +kernel
theorem dX2_sharePower_59 : decode cX2_sharePower 59 = .ok (.aload_n 0, 1) := by decide +kernel
theorem dX2_sharePower_60 : decode cX2_sharePower 60 = .ok (.getfield 11, 3) := by decide +kernel
theorem dX2_sharePower_63 : decode cX2_sharePower 63 = .ok (.iload 5, 2) := by decide +kernel
theorem dX2_sharePower_65 : decode cX2_sharePower 65 = .ok (.aaload, 1) := by decide +kernel
theorem dX2_sharePower_66 : decode cX2_sharePower 66 = .ok (.getfield 102, 3) := by decide +kernel
theorem dX2_sharePower_69 : decode cX2_sharePower 69 = .ok (.imul, 1) := by decide +kernel
theorem dX2_sharePower_70 : decode cX2_sharePower 70 = .ok (.iconst 4, 1) := by decide +kernel
theorem dX2_sharePower_71 : decode cX2_sharePower 71 = .ok (.idiv, 1) := by decide +kernel
theorem dX2_sharePower_72 : decode cX2_sharePower 72 = .ok (.istore 8, 2) := by decide +kernel
theorem dX2_sharePower_74 : decode cX2_sharePower 74 = .ok (.aload_n 0, 1) := by decide +kernel
theorem dX2_sharePower_75 : decode cX2_sharePower 75 = .ok (.getfield 11, 3) := by decide +kernel
theorem dX2_sharePower_78 : decode cX2_sharePower 78 = .ok (.iload 5, 2) := by decide +kernel
theorem dX2_sharePower_80 : decode cX2_sharePower 80 = .ok (.aaload, 1) := by decide +kernel
theorem dX2_sharePower_81 : decode cX2_sharePower 81 = .ok (.dup, 1) := by decide +kernel
theorem dX2_sharePower_82 : decode cX2_sharePower 82 = .ok (.getfield 134, 3) := by decide +kernel
theorem dX2_sharePower_85 : decode cX2_sharePower 85 = .ok (.iload 8, 2) := by decide +kernel
theorem dX2_sharePower_87 : decode cX2_sharePower 87 = .ok (.iadd, 1) := by decide +kernel
theorem dX2_sharePower_88 : decode cX2_sharePower 88 = .ok (.putfield 134, 3) := by decide +kernel
theorem dX2_sharePower_91 : decode cX2_sharePower 91 = .ok (.aload_n 0, 1) := by decide +kernel
theorem dX2_sharePower_92 : decode cX2_sharePower 92 = .ok (.getfield 11, 3) := by decide +kernel
theorem dX2_sharePower_95 : decode cX2_sharePower 95 = .ok (.iload 5, 2) := by decide +kernel
theorem dX2_sharePower_97 : decode cX2_sharePower 97 = .ok (.aaload, 1) := by decide +kernel
theorem dX2_sharePower_98 : decode cX2_sharePower 98 = .ok (.dup, 1) := by decide +kernel
theorem dX2_sharePower_99 : decode cX2_sharePower 99 = .ok (.getfield 105, 3) := by decide +kernel
theorem dX2_sharePower_102 : decode cX2_sharePower 102 = .ok (.iload 6, 2) := by decide +kernel
theorem dX2_sharePower_104 : decode cX2_sharePower 104 = .ok (.iload 8, 2) := by decide +kernel
theorem dX2_sharePower_106 : decode cX2_sharePower 106 = .ok (.isub, 1) := by decide +kernel
theorem dX2_sharePower_107 : decode cX2_sharePower 107 = .ok (.iadd, 1) := by decide +kernel
theorem dX2_sharePower_108 : decode cX2_sharePower 108 = .ok (.putfield 105, 3) := by decide +kernel
theorem dX2_sharePower_111 : decode cX2_sharePower 111 = .ok (.iload 7, 2) := by decide +kernel
theorem dX2_sharePower_113 : decode cX2_sharePower 113 = .ok (.ifCond .lt 21, 3) := by decide +kernel
theorem dX2_sharePower_116 : decode cX2_sharePower 116 = .ok (.iload 7, 2) := by decide +kernel
theorem dX2_sharePower_118 : decode cX2_sharePower 118 = .ok (.iconst 5, 1) := by decide +kernel
theorem dX2_sharePower_119 : decode cX2_sharePower 119 = .ok (.if_icmp .ge 15, 3) := by decide +kernel
theorem dX2_sharePower_122 : decode cX2_sharePower 122 = .ok (.aload_n 0, 1) := by decide +kernel
theorem dX2_sharePower_123 : decode cX2_sharePower 123 = .ok (.getfield 60, 3) := by decide +kernel
theorem dX2_sharePower_126 : decode cX2_sharePower 126 = .ok (.iload 7, 2) := by decide +kernel
theorem dX2_sharePower_128 : decode cX2_sharePower 128 = .ok (.dup2, 1) := by decide +kernel
theorem dX2_sharePower_129 : decode cX2_sharePower 129 = .ok (.iaload, 1) := by decide +kernel
theorem dX2_sharePower_130 : decode cX2_sharePower 130 = .ok (.iload 8, 2) := by decide +kernel
theorem dX2_sharePower_132 : decode cX2_sharePower 132 = .ok (.iadd, 1) := by decide +kernel
theorem dX2_sharePower_133 : decode cX2_sharePower 133 = .ok (.iastore, 1) := by decide +kernel
theorem dX2_sharePower_134 : decode cX2_sharePower 134 = .ok (.iload 4, 2) := by decide +kernel
theorem dX2_sharePower_136 : decode cX2_sharePower 136 = .ok (.iload 8, 2) := by decide +kernel
theorem dX2_sharePower_138 : decode cX2_sharePower 138 = .ok (.iadd, 1) := by decide +kernel
theorem dX2_sharePower_139 : decode cX2_sharePower 139 = .ok (.istore 4, 2) := by decide +kernel
theorem dX2_sharePower_141 : decode cX2_sharePower 141 = .ok (.iinc 5 1, 3) := by decide +kernel
theorem dX2_sharePower_144 : decode cX2_sharePower 144 = .ok (.goto (-133), 3) := by decide +kernel
theorem dX2_sharePower_147 : decode cX2_sharePower 147 = .ok (.iload 4, 2) := by decide +kernel
theorem dX2_sharePower_149 : decode cX2_sharePower 149 = .ok (.ireturn, 1) := by decide +kernel
set_option maxRecDepth 20000 in
theorem ggX2_finishIfDone_X2_hasTurbine : GoodIn wsX2_finishIfDone wsX2_hasTurbine := goodIn_r _ [13, 14, 45, 46, 47, 48, 49, 50, 51, 52, 53, 54] (by decide +kernel) (by decide +kernel)
set_option maxRecDepth 20000 in
theorem gX2_finishIfDone_X2_hasTurbine : GoodIn wsX2_finishIfDone (wsV RX2 112 RX2 yX2_hasTurbine wsX2_hasTurbine) := goodIn_app (goodIn_of _ (by decide +kernel)) ggX2_finishIfDone_X2_hasTurbine
set_option maxRecDepth 20000 in
theorem ggX2_finishIfDone_X3_useBladeFor : GoodIn wsX2_finishIfDone wsX3_useBladeFor := goodIn_r _ [19, 20, 21, 22, 23, 24, 25, 18, 26, 67, 68, 69] (by decide +kernel) (by decide +kernel)
set_option maxRecDepth 20000 in
theorem gX2_finishIfDone_X3_useBladeFor : GoodIn wsX2_finishIfDone (wsV RX2 223 RX3 yX3_useBladeFor wsX3_useBladeFor) := goodIn_app (goodIn_of _ (by decide +kernel)) ggX2_finishIfDone_X3_useBladeFor
set_option maxRecDepth 20000 in
theorem ggX2_finishIfDone_X1_forgetWork : GoodIn wsX2_finishIfDone wsX1_forgetWork := goodIn_r _ [31, 32, 33, 55, 56, 57, 58, 59] (by decide +kernel) (by decide +kernel)
set_option maxRecDepth 20000 in
theorem gX2_finishIfDone_X1_forgetWork : GoodIn wsX2_finishIfDone (wsV RX2 200 RX1 yX1_forgetWork wsX1_forgetWork) := goodIn_app (goodIn_of _ (by decide +kernel)) ggX2_finishIfDone_X1_forgetWork
set_option maxRecDepth 20000 in
theorem ggX2_finishIfDone_X4_placeOf : GoodIn wsX2_finishIfDone wsX4_placeOf := goodIn_r _ [38, 39, 40, 70, 71] (by decide +kernel) (by decide +kernel)
set_option maxRecDepth 20000 in
theorem gX2_finishIfDone_X4_placeOf : GoodIn wsX2_finishIfDone (wsV RX2 128 RX4 yX4_placeOf wsX4_placeOf) := goodIn_app (goodIn_of _ (by decide +kernel)) ggX2_finishIfDone_X4_placeOf
set_option maxRecDepth 20000 in
theorem ggX2_finishIfDone_X4_removeAt : GoodIn wsX2_finishIfDone wsX4_removeAt := goodIn_r _ [44, 39, 40, 70, 71] (by decide +kernel) (by decide +kernel)
set_option maxRecDepth 20000 in
theorem gX2_finishIfDone_X4_removeAt : GoodIn wsX2_finishIfDone (wsV RX2 203 RX4 yX4_removeAt wsX4_removeAt) := goodIn_app (goodIn_of _ (by decide +kernel)) ggX2_finishIfDone_X4_removeAt
theorem dX2_finishIfDone_0 : decode cX2_finishIfDone 0 = .ok (.aload_n 0, 1) := by decide +kernel
theorem dX2_finishIfDone_1 : decode cX2_finishIfDone 1 = .ok (.iload_n 1, 1) := by decide +kernel
theorem dX2_finishIfDone_2 : decode cX2_finishIfDone 2 = .ok (.invokevirtual 112, 3) := by decide +kernel
theorem dX2_finishIfDone_5 : decode cX2_finishIfDone 5 = .ok (.ifCond .eq 29, 3) := by decide +kernel
theorem dX2_finishIfDone_8 : decode cX2_finishIfDone 8 = .ok (.aload_n 0, 1) := by decide +kernel
theorem dX2_finishIfDone_9 : decode cX2_finishIfDone 9 = .ok (.getfield 45, 3) := by decide +kernel
theorem dX2_finishIfDone_12 : decode cX2_finishIfDone 12 = .ok (.getfield 220, 3) := by decide +kernel
theorem dX2_finishIfDone_15 : decode cX2_finishIfDone 15 = .ok (.aload_n 0, 1) := by decide +kernel
theorem dX2_finishIfDone_16 : decode cX2_finishIfDone 16 = .ok (.getfield 56, 3) := by decide +kernel
theorem dX2_finishIfDone_19 : decode cX2_finishIfDone 19 = .ok (.iconst 2, 1) := by decide +kernel
theorem dX2_finishIfDone_20 : decode cX2_finishIfDone 20 = .ok (.iaload, 1) := by decide +kernel
theorem dX2_finishIfDone_21 : decode cX2_finishIfDone 21 = .ok (.aload_n 0, 1) := by decide +kernel
theorem dX2_finishIfDone_22 : decode cX2_finishIfDone 22 = .ok (.getfield 11, 3) := by decide +kernel
theorem dX2_finishIfDone_25 : decode cX2_finishIfDone 25 = .ok (.iload_n 1, 1) := by decide +kernel
theorem dX2_finishIfDone_26 : decode cX2_finishIfDone 26 = .ok (.aaload, 1) := by decide +kernel
theorem dX2_finishIfDone_27 : decode cX2_finishIfDone 27 = .ok (.getfield 102, 3) := by decide +kernel
theorem dX2_finishIfDone_30 : decode cX2_finishIfDone 30 = .ok (.imul, 1) := by decide +kernel
theorem dX2_finishIfDone_31 : decode cX2_finishIfDone 31 = .ok (.if_icmp .ge 4, 3) := by decide +kernel
theorem dX2_finishIfDone_34 : decode cX2_finishIfDone 34 = .ok (.return_, 1) := by decide +kernel
theorem dX2_finishIfDone_35 : decode cX2_finishIfDone 35 = .ok (.aload_n 0, 1) := by decide +kernel
theorem dX2_finishIfDone_36 : decode cX2_finishIfDone 36 = .ok (.getfield 11, 3) := by decide +kernel
theorem dX2_finishIfDone_39 : decode cX2_finishIfDone 39 = .ok (.iload_n 1, 1) := by decide +kernel
theorem dX2_finishIfDone_40 : decode cX2_finishIfDone 40 = .ok (.aaload, 1) := by decide +kernel
theorem dX2_finishIfDone_41 : decode cX2_finishIfDone 41 = .ok (.iconst 0, 1) := by decide +kernel
theorem dX2_finishIfDone_42 : decode cX2_finishIfDone 42 = .ok (.putfield 102, 3) := by decide +kernel
theorem dX2_finishIfDone_45 : decode cX2_finishIfDone 45 = .ok (.aload_n 0, 1) := by decide +kernel
theorem dX2_finishIfDone_46 : decode cX2_finishIfDone 46 = .ok (.getfield 11, 3) := by decide +kernel
theorem dX2_finishIfDone_49 : decode cX2_finishIfDone 49 = .ok (.iload_n 1, 1) := by decide +kernel
theorem dX2_finishIfDone_50 : decode cX2_finishIfDone 50 = .ok (.aaload, 1) := by decide +kernel
theorem dX2_finishIfDone_51 : decode cX2_finishIfDone 51 = .ok (.iconst 0, 1) := by decide +kernel
theorem dX2_finishIfDone_52 : decode cX2_finishIfDone 52 = .ok (.putfield 122, 3) := by decide +kernel
theorem dX2_finishIfDone_55 : decode cX2_finishIfDone 55 = .ok (.aload_n 0, 1) := by decide +kernel
theorem dX2_finishIfDone_56 : decode cX2_finishIfDone 56 = .ok (.getfield 31, 3) := by decide +kernel
theorem dX2_finishIfDone_59 : decode cX2_finishIfDone 59 = .ok (.iload_n 1, 1) := by decide +kernel
theorem dX2_finishIfDone_60 : decode cX2_finishIfDone 60 = .ok (.invokevirtual 223, 3) := by decide +kernel
theorem dX2_finishIfDone_63 : decode cX2_finishIfDone 63 = .ok (.aload_n 0, 1) := by decide +kernel
theorem dX2_finishIfDone_64 : decode cX2_finishIfDone 64 = .ok (.getfield 45, 3) := by decide +kernel
theorem dX2_finishIfDone_67 : decode cX2_finishIfDone 67 = .ok (.invokevirtual 200, 3) := by decide +kernel
theorem dX2_finishIfDone_70 : decode cX2_finishIfDone 70 = .ok (.aload_n 0, 1) := by decide +kernel
theorem dX2_finishIfDone_71 : decode cX2_finishIfDone 71 = .ok (.getfield 38, 3) := by decide +kernel
theorem dX2_finishIfDone_74 : decode cX2_finishIfDone 74 = .ok (.aload_n 0, 1) := by decide +kernel
theorem dX2_finishIfDone_75 : decode cX2_finishIfDone 75 = .ok (.getfield 38, 3) := by decide +kernel
theorem dX2_finishIfDone_78 : decode cX2_finishIfDone 78 = .ok (.iload_n 1, 1) := by decide +kernel
theorem dX2_finishIfDone_79 : decode cX2_finishIfDone 79 = .ok (.invokevirtual 128, 3) := by decide +kernel
theorem dX2_finishIfDone_82 : decode cX2_finishIfDone 82 = .ok (.invokevirtual 203, 3) := by decide +kernel
theorem dX2_finishIfDone_85 : decode cX2_finishIfDone 85 = .ok (.return_, 1) := by decide +kernel
set_option maxRecDepth 20000 in
theorem ggX2_worsen_X5_growOlder : GoodIn wsX2_worsen wsX5_growOlder := goodIn_r _ [8, 9, 10, 21, 22, 23, 24, 25, 26, 27] (by decide +kernel) (by decide +kernel)
set_option maxRecDepth 20000 in
theorem gX2_worsen_X5_growOlder : GoodIn wsX2_worsen (wsV RX2 226 RX5 yX5_growOlder wsX5_growOlder) := goodIn_app (goodIn_of _ (by decide +kernel)) ggX2_worsen_X5_growOlder
theorem dX2_worsen_0 : decode cX2_worsen 0 = .ok (.iconst 0, 1) := by decide +kernel
theorem dX2_worsen_1 : decode cX2_worsen 1 = .ok (.istore_n 2, 1) := by decide +kernel
theorem dX2_worsen_2 : decode cX2_worsen 2 = .ok (.iload_n 2, 1) := by decide +kernel
theorem dX2_worsen_3 : decode cX2_worsen 3 = .ok (.aload_n 0, 1) := by decide +kernel
theorem dX2_worsen_4 : decode cX2_worsen 4 = .ok (.getfield 17, 3) := by decide +kernel
theorem dX2_worsen_7 : decode cX2_worsen 7 = .ok (.if_icmp .ge 29, 3) := by decide +kernel
theorem dX2_worsen_10 : decode cX2_worsen 10 = .ok (.iload_n 2, 1) := by decide +kernel
theorem dX2_worsen_11 : decode cX2_worsen 11 = .ok (.iload_n 1, 1) := by decide +kernel
theorem dX2_worsen_12 : decode cX2_worsen 12 = .ok (.if_icmp .eq 18, 3) := by decide +kernel
theorem dX2_worsen_15 : decode cX2_worsen 15 = .ok (.aload_n 0, 1) := by decide +kernel
theorem dX2_worsen_16 : decode cX2_worsen 16 = .ok (.getfield 11, 3) := by decide +kernel
theorem dX2_worsen_19 : decode cX2_worsen 19 = .ok (.iload_n 2, 1) := by decide +kernel
theorem dX2_worsen_20 : decode cX2_worsen 20 = .ok (.aaload, 1) := by decide +kernel
theorem dX2_worsen_21 : decode cX2_worsen 21 = .ok (.aload_n 0, 1) := by decide +kernel
theorem dX2_worsen_22 : decode cX2_worsen 22 = .ok (.getfield 56, 3) := by decide +kernel
theorem dX2_worsen_25 : decode cX2_worsen 25 = .ok (.iconst 3, 1) := by decide +kernel
theorem dX2_worsen_26 : decode cX2_worsen 26 = .ok (.iaload, 1) := by decide +kernel
theorem dX2_worsen_27 : decode cX2_worsen 27 = .ok (.invokevirtual 226, 3) := by decide +kernel
theorem dX2_worsen_30 : decode cX2_worsen 30 = .ok (.iinc 2 1, 3) := by decide +kernel
theorem dX2_worsen_33 : decode cX2_worsen 33 = .ok (.goto (-31), 3) := by decide +kernel
theorem dX2_worsen_36 : decode cX2_worsen 36 = .ok (.return_, 1) := by decide +kernel
theorem dX3_init_0 : decode cX3_init 0 = .ok (.aload_n 0, 1) := by decide +kernel
theorem dX3_init_1 : decode cX3_init 1 = .ok (.invokespecial 3, 3) := by decide +kernel
theorem dX3_init_4 : decode cX3_init 4 = .ok (.aload_n 0, 1) := by decide +kernel
theorem dX3_init_5 : decode cX3_init 5 = .ok (.bipush 10, 2) := by decide +kernel
theorem dX3_init_7 : decode cX3_init 7 = .ok (.newarray .int, 2) := by decide +kernel
theorem dX3_init_9 : decode cX3_init 9 = .ok (.putfield 9, 3) := by decide +kernel
theorem dX3_init_12 : decode cX3_init 12 = .ok (.aload_n 0, 1) := by decide +kernel
theorem dX3_init_13 : decode cX3_init 13 = .ok (.bipush 10, 2) := by decide +kernel
theorem dX3_init_15 : decode cX3_init 15 = .ok (.newarray .int, 2) := by decide +kernel
theorem dX3_init_17 : decode cX3_init 17 = .ok (.putfield 15, 3) := by decide +kernel
theorem dX3_init_20 : decode cX3_init 20 = .ok (.aload_n 0, 1) := by decide +kernel
theorem dX3_init_21 : decode cX3_init 21 = .ok (.iconst 0, 1) := by decide +kernel
theorem dX3_init_22 : decode cX3_init 22 = .ok (.putfield 18, 3) := by decide +kernel
theorem dX3_init_25 : decode cX3_init 25 = .ok (.return_, 1) := by decide +kernel
theorem dX3_copyFrom_0 : decode cX3_copyFrom 0 = .ok (.aload_n 1, 1) := by decide +kernel
theorem dX3_copyFrom_1 : decode cX3_copyFrom 1 = .ok (.getfield 9, 3) := by decide +kernel
theorem dX3_copyFrom_4 : decode cX3_copyFrom 4 = .ok (.iconst 0, 1) := by decide +kernel
theorem dX3_copyFrom_5 : decode cX3_copyFrom 5 = .ok (.aload_n 0, 1) := by decide +kernel
theorem dX3_copyFrom_6 : decode cX3_copyFrom 6 = .ok (.getfield 9, 3) := by decide +kernel
theorem dX3_copyFrom_9 : decode cX3_copyFrom 9 = .ok (.iconst 0, 1) := by decide +kernel
theorem dX3_copyFrom_10 : decode cX3_copyFrom 10 = .ok (.bipush 10, 2) := by decide +kernel
theorem dX3_copyFrom_12 : decode cX3_copyFrom 12 = .ok (.invokestatic 22, 3) := by decide +kernel
theorem dX3_copyFrom_15 : decode cX3_copyFrom 15 = .ok (.aload_n 1, 1) := by decide +kernel
theorem dX3_copyFrom_16 : decode cX3_copyFrom 16 = .ok (.getfield 15, 3) := by decide +kernel
theorem dX3_copyFrom_19 : decode cX3_copyFrom 19 = .ok (.iconst 0, 1) := by decide +kernel
theorem dX3_copyFrom_20 : decode cX3_copyFrom 20 = .ok (.aload_n 0, 1) := by decide +kernel
theorem dX3_copyFrom_21 : decode cX3_copyFrom 21 = .ok (.getfield 15, 3) := by decide +kernel
theorem dX3_copyFrom_24 : decode cX3_copyFrom 24 = .ok (.iconst 0, 1) := by decide +kernel
theorem dX3_copyFrom_25 : decode cX3_copyFrom 25 = .ok (.bipush 10, 2) := by decide +kernel
theorem dX3_copyFrom_27 : decode cX3_copyFrom 27 = .ok (.invokestatic 22, 3) := by decide +kernel
theorem dX3_copyFrom_30 : decode cX3_copyFrom 30 = .ok (.aload_n 0, 1) := by decide +kernel
theorem dX3_copyFrom_31 : decode cX3_copyFrom 31 = .ok (.aload_n 1, 1) := by decide +kernel
theorem dX3_copyFrom_32 : decode cX3_copyFrom 32 = .ok (.getfield 18, 3) := by decide +kernel
theorem dX3_copyFrom_35 : decode cX3_copyFrom 35 = .ok (.putfield 18, 3) := by decide +kernel
theorem dX3_copyFrom_38 : decode cX3_copyFrom 38 = .ok (.return_, 1) := by decide +kernel
theorem dX3_isFull_0 : decode cX3_isFull 0 = .ok (.aload_n 0, 1) := by decide +kernel
theorem dX3_isFull_1 : decode cX3_isFull 1 = .ok (.getfield 18, 3) := by decide +kernel
theorem dX3_isFull_4 : decode cX3_isFull 4 = .ok (.bipush 10, 2) := by decide +kernel
theorem dX3_isFull_6 : decode cX3_isFull 6 = .ok (.if_icmp .lt 7, 3) := by decide +kernel
theorem dX3_isFull_9 : decode cX3_isFull 9 = .ok (.iconst 1, 1) := by decide +kernel
theorem dX3_isFull_10 : decode cX3_isFull 10 = .ok (.goto 4, 3) := by decide +kernel
theorem dX3_isFull_13 : decode cX3_isFull 13 = .ok (.iconst 0, 1) := by decide +kernel
theorem dX3_isFull_14 : decode cX3_isFull 14 = .ok (.ireturn, 1) := by decide +kernel
set_option maxRecDepth 20000 in
theorem ggX3_take_X3_isFull : GoodIn wsX3_take wsX3_isFull := goodIn_r _ [8, 2, 9, 10, 11] (by decide +kernel) (by decide +kernel)
set_option maxRecDepth 20000 in
theorem gX3_take_X3_isFull : GoodIn wsX3_take (wsV RX3 28 RX3 yX3_isFull wsX3_isFull) := goodIn_app (goodIn_of _ (by decide +kernel)) ggX3_take_X3_isFull
theorem dX3_take_0 : decode cX3_take 0 = .ok (.aload_n 0, 1) := by decide +kernel
theorem dX3_take_1 : decode cX3_take 1 = .ok (.invokevirtual 28, 3) := by decide +kernel
theorem dX3_take_4 : decode cX3_take 4 = .ok (.ifCond .eq 4, 3) := by decide +kernel
theorem dX3_take_7 : decode cX3_take 7 = .ok (.return_, 1) := by decide +kernel
theorem dX3_take_8 : decode cX3_take 8 = .ok (.aload_n 0, 1) := by decide +kernel
theorem dX3_take_9 : decode cX3_take 9 = .ok (.getfield 9, 3) := by decide +kernel
theorem dX3_take_12 : decode cX3_take 12 = .ok (.aload_n 0, 1) := by decide +kernel
theorem dX3_take_13 : decode cX3_take 13 = .ok (.getfield 18, 3) := by decide +kernel
theorem dX3_take_16 : decode cX3_take 16 = .ok (.iload_n 1, 1) := by decide +kernel
theorem dX3_take_17 : decode cX3_take 17 = .ok (.iastore, 1) := by decide +kernel
theorem dX3_take_18 : decode cX3_take 18 = .ok (.aload_n 0, 1) := by decide +kernel
theorem dX3_take_19 : decode cX3_take 19 = .ok (.getfield 15, 3) := by decide +kernel
theorem dX3_take_22 : decode cX3_take 22 = .ok (.aload_n 0, 1) := by decide +kernel
theorem dX3_take_23 : decode cX3_take 23 = .ok (.getfield 18, 3) := by decide +kernel
theorem dX3_take_26 : decode cX3_take 26 = .ok (.iload_n 2, 1) := by decide +kernel
theorem dX3_take_27 : decode cX3_take 27 = .ok (.iastore, 1) := by decide +kernel
theorem dX3_take_28 : decode cX3_take 28 = .ok (.aload_n 0, 1) := by decide +kernel
theorem dX3_take_29 : decode cX3_take 29 = .ok (.dup, 1) := by decide +kernel
theorem dX3_take_30 : decode cX3_take 30 = .ok (.getfield 18, 3) := by decide +kernel
theorem dX3_take_33 : decode cX3_take 33 = .ok (.iconst 1, 1) := by decide +kernel
theorem dX3_take_34 : decode cX3_take 34 = .ok (.iadd, 1) := by decide +kernel
theorem dX3_take_35 : decode cX3_take 35 = .ok (.putfield 18, 3) := by decide +kernel
theorem dX3_take_38 : decode cX3_take 38 = .ok (.return_, 1) := by decide +kernel
theorem dX3_unload_0 : decode cX3_unload 0 = .ok (.iload_n 1, 1) := by decide +kernel
theorem dX3_unload_1 : decode cX3_unload 1 = .ok (.istore_n 2, 1) := by decide +kernel
theorem dX3_unload_2 : decode cX3_unload 2 = .ok (.iconst 0, 1) := by decide +kernel
theorem dX3_unload_3 : decode cX3_unload 3 = .ok (.istore_n 3, 1) := by decide +kernel
theorem dX3_unload_4 : decode cX3_unload 4 = .ok (.iload_n 3, 1) := by decide +kernel
theorem dX3_unload_5 : decode cX3_unload 5 = .ok (.aload_n 0, 1) := by decide +kernel
theorem dX3_unload_6 : decode cX3_unload 6 = .ok (.getfield 18, 3) := by decide +kernel
theorem dX3_unload_9 : decode cX3_unload 9 = .ok (.if_icmp .ge 37, 3) := by decide +kernel
theorem dX3_unload_12 : decode cX3_unload 12 = .ok (.iload_n 2, 1) := by decide +kernel
theorem dX3_unload_13 : decode cX3_unload 13 = .ok (.aload_n 0, 1) := by decide +kernel
theorem dX3_unload_14 : decode cX3_unload 14 = .ok (.getfield 15, 3) := by decide +kernel
theorem dX3_unload_17 : decode cX3_unload 17 = .ok (.iload_n 3, 1) := by decide +kernel
theorem dX3_unload_18 : decode cX3_unload 18 = .ok (.iaload, 1) := by decide +kernel
theorem dX3_unload_19 : decode cX3_unload 19 = .ok (.invokestatic 32, 3) := by decide +kernel
theorem dX3_unload_22 : decode cX3_unload 22 = .ok (.istore 4, 2) := by decide +kernel
theorem dX3_unload_24 : decode cX3_unload 24 = .ok (.aload_n 0, 1) := by decide +kernel
theorem dX3_unload_25 : decode cX3_unload 25 = .ok (.getfield 15, 3) := by decide +kernel
theorem dX3_unload_28 : decode cX3_unload 28 = .ok (.iload_n 3, 1) := by decide +kernel
theorem dX3_unload_29 : decode cX3_unload 29 = .ok (.dup2, 1) := by decide +kernel
theorem dX3_unload_30 : decode cX3_unload 30 = .ok (.iaload, 1) := by decide +kernel
theorem dX3_unload_31 : decode cX3_unload 31 = .ok (.iload 4, 2) := by decide +kernel
theorem dX3_unload_33 : decode cX3_unload 33 = .ok (.isub, 1) := by decide +kernel
theorem dX3_unload_34 : decode cX3_unload 34 = .ok (.iastore, 1) := by decide +kernel
theorem dX3_unload_35 : decode cX3_unload 35 = .ok (.iload_n 2, 1) := by decide +kernel
theorem dX3_unload_36 : decode cX3_unload 36 = .ok (.iload 4, 2) := by decide +kernel
theorem dX3_unload_38 : decode cX3_unload 38 = .ok (.isub, 1) := by decide +kernel
theorem dX3_unload_39 : decode cX3_unload 39 = .ok (.istore_n 2, 1) := by decide +kernel
theorem dX3_unload_40 : decode cX3_unload 40 = .ok (.iinc 3 1, 3) := by decide +kernel
theorem dX3_unload_43 : decode cX3_unload 43 = .ok (.goto (-39), 3) := by decide +kernel
theorem dX3_unload_46 : decode cX3_unload 46 = .ok (.return_, 1) := by decide +kernel
theorem dX3_unloadedFor_0 : decode cX3_unloadedFor 0 = .ok (.iconst 0, 1) := by decide +kernel
theorem dX3_unloadedFor_1 : decode cX3_unloadedFor 1 = .ok (.istore_n 2, 1) := by decide +kernel
theorem dX3_unloadedFor_2 : decode cX3_unloadedFor 2 = .ok (.iconst 0, 1) := by decide +kernel
theorem dX3_unloadedFor_3 : decode cX3_unloadedFor 3 = .ok (.istore_n 3, 1) := by decide +kernel
theorem dX3_unloadedFor_4 : decode cX3_unloadedFor 4 = .ok (.iload_n 3, 1) := by decide +kernel
theorem dX3_unloadedFor_5 : decode cX3_unloadedFor 5 = .ok (.aload_n 0, 1) := by decide +kernel
theorem dX3_unloadedFor_6 : decode cX3_unloadedFor 6 = .ok (.getfield 18, 3) := by decide +kernel
theorem dX3_unloadedFor_9 : decode cX3_unloadedFor 9 = .ok (.if_icmp .ge 31, 3) := by decide +kernel
theorem dX3_unloadedFor_12 : decode cX3_unloadedFor 12 = .ok (.aload_n 0, 1) := by decide +kernel
theorem dX3_unloadedFor_13 : decode cX3_unloadedFor 13 = .ok (.getfield 9, 3) := by decide +kernel
theorem dX3_unloadedFor_16 : decode cX3_unloadedFor 16 = .ok (.iload_n 3, 1) := by decide +kernel
theorem dX3_unloadedFor_17 : decode cX3_unloadedFor 17 = .ok (.iaload, 1) := by decide +kernel
theorem dX3_unloadedFor_18 : decode cX3_unloadedFor 18 = .ok (.iload_n 1, 1) := by decide +kernel
theorem dX3_unloadedFor_19 : decode cX3_unloadedFor 19 = .ok (.if_icmp .ne 15, 3) := by decide +kernel
theorem dX3_unloadedFor_22 : decode cX3_unloadedFor 22 = .ok (.aload_n 0, 1) := by decide +kernel
theorem dX3_unloadedFor_23 : decode cX3_unloadedFor 23 = .ok (.getfield 15, 3) := by decide +kernel
theorem dX3_unloadedFor_26 : decode cX3_unloadedFor 26 = .ok (.iload_n 3, 1) := by decide +kernel
theorem dX3_unloadedFor_27 : decode cX3_unloadedFor 27 = .ok (.iaload, 1) := by decide +kernel
theorem dX3_unloadedFor_28 : decode cX3_unloadedFor 28 = .ok (.ifCond .ne 6, 3) := by decide +kernel
theorem dX3_unloadedFor_31 : decode cX3_unloadedFor 31 = .ok (.iinc 2 1, 3) := by decide +kernel
theorem dX3_unloadedFor_34 : decode cX3_unloadedFor 34 = .ok (.iinc 3 1, 3) := by decide +kernel
theorem dX3_unloadedFor_37 : decode cX3_unloadedFor 37 = .ok (.goto (-33), 3) := by decide +kernel
theorem dX3_unloadedFor_40 : decode cX3_unloadedFor 40 = .ok (.iload_n 2, 1) := by decide +kernel
theorem dX3_unloadedFor_41 : decode cX3_unloadedFor 41 = .ok (.ireturn, 1) := by decide +kernel
set_option maxRecDepth 20000 in
theorem ggX3_useBladeFor_X3_removeAt : GoodIn wsX3_useBladeFor wsX3_removeAt := goodIn_r _ [8, 1, 2, 3, 9, 10, 11] (by decide +kernel) (by decide +kernel)
set_option maxRecDepth 20000 in
theorem gX3_useBladeFor_X3_removeAt : GoodIn wsX3_useBladeFor (wsV RX3 38 RX3 yX3_removeAt wsX3_removeAt) := goodIn_app (goodIn_of _ (by decide +kernel)) ggX3_useBladeFor_X3_removeAt
theorem dX3_useBladeFor_0 : decode cX3_useBladeFor 0 = .ok (.iconst 0, 1) := by decide +kernel
theorem dX3_useBladeFor_1 : decode cX3_useBladeFor 1 = .ok (.istore_n 2, 1) := by decide +kernel
theorem dX3_useBladeFor_2 : decode cX3_useBladeFor 2 = .ok (.iload_n 2, 1) := by decide +kernel
theorem dX3_useBladeFor_3 : decode cX3_useBladeFor 3 = .ok (.aload_n 0, 1) := by decide +kernel
theorem dX3_useBladeFor_4 : decode cX3_useBladeFor 4 = .ok (.getfield 18, 3) := by decide +kernel
theorem dX3_useBladeFor_7 : decode cX3_useBladeFor 7 = .ok (.if_icmp .ge 34, 3) := by decide +kernel
theorem dX3_useBladeFor_10 : decode cX3_useBladeFor 10 = .ok (.aload_n 0, 1) := by decide +kernel
theorem dX3_useBladeFor_11 : decode cX3_useBladeFor 11 = .ok (.getfield 9, 3) := by decide +kernel
theorem dX3_useBladeFor_14 : decode cX3_useBladeFor 14 = .ok (.iload_n 2, 1) := by decide +kernel
theorem dX3_useBladeFor_15 : decode cX3_useBladeFor 15 = .ok (.iaload, 1) := by decide +kernel
theorem dX3_useBladeFor_16 : decode cX3_useBladeFor 16 = .ok (.iload_n 1, 1) := by decide +kernel
theorem dX3_useBladeFor_17 : decode cX3_useBladeFor 17 = .ok (.if_icmp .ne 18, 3) := by decide +kernel
theorem dX3_useBladeFor_20 : decode cX3_useBladeFor 20 = .ok (.aload_n 0, 1) := by decide +kernel
theorem dX3_useBladeFor_21 : decode cX3_useBladeFor 21 = .ok (.getfield 15, 3) := by decide +kernel
theorem dX3_useBladeFor_24 : decode cX3_useBladeFor 24 = .ok (.iload_n 2, 1) := by decide +kernel
theorem dX3_useBladeFor_25 : decode cX3_useBladeFor 25 = .ok (.iaload, 1) := by decide +kernel
theorem dX3_useBladeFor_26 : decode cX3_useBladeFor 26 = .ok (.ifCond .ne 9, 3) := by decide +kernel
theorem dX3_useBladeFor_29 : decode cX3_useBladeFor 29 = .ok (.aload_n 0, 1) := by decide +kernel
theorem dX3_useBladeFor_30 : decode cX3_useBladeFor 30 = .ok (.iload_n 2, 1) := by decide +kernel
theorem dX3_useBladeFor_31 : decode cX3_useBladeFor 31 = .ok (.invokevirtual 38, 3) := by decide +kernel
theorem dX3_useBladeFor_34 : decode cX3_useBladeFor 34 = .ok (.return_, 1) := by decide +kernel
theorem dX3_useBladeFor_35 : decode cX3_useBladeFor 35 = .ok (.iinc 2 1, 3) := by decide +kernel
theorem dX3_useBladeFor_38 : decode cX3_useBladeFor 38 = .ok (.goto (-36), 3) := by decide +kernel
theorem dX3_useBladeFor_41 : decode cX3_useBladeFor 41 = .ok (.return_, 1) := by decide +kernel
theorem dX3_removeAt_0 : decode cX3_removeAt 0 = .ok (.iload_n 1, 1) := by decide +kernel
theorem dX3_removeAt_1 : decode cX3_removeAt 1 = .ok (.ifCond .lt 11, 3) := by decide +kernel
theorem dX3_removeAt_4 : decode cX3_removeAt 4 = .ok (.iload_n 1, 1) := by decide +kernel
theorem dX3_removeAt_5 : decode cX3_removeAt 5 = .ok (.aload_n 0, 1) := by decide +kernel
theorem dX3_removeAt_6 : decode cX3_removeAt 6 = .ok (.getfield 18, 3) := by decide +kernel
theorem dX3_removeAt_9 : decode cX3_removeAt 9 = .ok (.if_icmp .lt 4, 3) := by decide +kernel
theorem dX3_removeAt_12 : decode cX3_removeAt 12 = .ok (.return_, 1) := by decide +kernel
theorem dX3_removeAt_13 : decode cX3_removeAt 13 = .ok (.aload_n 0, 1) := by decide +kernel
theorem dX3_removeAt_14 : decode cX3_removeAt 14 = .ok (.dup, 1) := by decide +kernel
theorem dX3_removeAt_15 : decode cX3_removeAt 15 = .ok (.getfield 18, 3) := by decide +kernel
theorem dX3_removeAt_18 : decode cX3_removeAt 18 = .ok (.iconst 1, 1) := by decide +kernel
theorem dX3_removeAt_19 : decode cX3_removeAt 19 = .ok (.isub, 1) := by decide +kernel
theorem dX3_removeAt_20 : decode cX3_removeAt 20 = .ok (.putfield 18, 3) := by decide +kernel
theorem dX3_removeAt_23 : decode cX3_removeAt 23 = .ok (.iload_n 1, 1) := by decide +kernel
theorem dX3_removeAt_24 : decode cX3_removeAt 24 = .ok (.istore_n 2, 1) := by decide +kernel
theorem dX3_removeAt_25 : decode cX3_removeAt 25 = .ok (.iload_n 2, 1) := by decide +kernel
theorem dX3_removeAt_26 : decode cX3_removeAt 26 = .ok (.aload_n 0, 1) := by decide +kernel
theorem dX3_removeAt_27 : decode cX3_removeAt 27 = .ok (.getfield 18, 3) := by decide +kernel
theorem dX3_removeAt_30 : decode cX3_removeAt 30 = .ok (.if_icmp .ge 37, 3) := by decide +kernel
theorem dX3_removeAt_33 : decode cX3_removeAt 33 = .ok (.aload_n 0, 1) := by decide +kernel
theorem dX3_removeAt_34 : decode cX3_removeAt 34 = .ok (.getfield 9, 3) := by decide +kernel
theorem dX3_removeAt_37 : decode cX3_removeAt 37 = .ok (.iload_n 2, 1) := by decide +kernel
theorem dX3_removeAt_38 : decode cX3_removeAt 38 = .ok (.aload_n 0, 1) := by decide +kernel
theorem dX3_removeAt_39 : decode cX3_removeAt 39 = .ok (.getfield 9, 3) := by decide +kernel
theorem dX3_removeAt_42 : decode cX3_removeAt 42 = .ok (.iload_n 2, 1) := by decide +kernel
theorem dX3_removeAt_43 : decode cX3_removeAt 43 = .ok (.iconst 1, 1) := by decide +kernel
theorem dX3_removeAt_44 : decode cX3_removeAt 44 = .ok (.iadd, 1) := by decide +kernel
theorem dX3_removeAt_45 : decode cX3_removeAt 45 = .ok (.iaload, 1) := by decide +kernel
theorem dX3_removeAt_46 : decode cX3_removeAt 46 = .ok (.iastore, 1) := by decide +kernel
theorem dX3_removeAt_47 : decode cX3_removeAt 47 = .ok (.aload_n 0, 1) := by decide +kernel
theorem dX3_removeAt_48 : decode cX3_removeAt 48 = .ok (.getfield 15, 3) := by decide +kernel
theorem dX3_removeAt_51 : decode cX3_removeAt 51 = .ok (.iload_n 2, 1) := by decide +kernel
theorem dX3_removeAt_52 : decode cX3_removeAt 52 = .ok (.aload_n 0, 1) := by decide +kernel
theorem dX3_removeAt_53 : decode cX3_removeAt 53 = .ok (.getfield 15, 3) := by decide +kernel
theorem dX3_removeAt_56 : decode cX3_removeAt 56 = .ok (.iload_n 2, 1) := by decide +kernel
theorem dX3_removeAt_57 : decode cX3_removeAt 57 = .ok (.iconst 1, 1) := by decide +kernel
theorem dX3_removeAt_58 : decode cX3_removeAt 58 = .ok (.iadd, 1) := by decide +kernel
theorem dX3_removeAt_59 : decode cX3_removeAt 59 = .ok (.iaload, 1) := by decide +kernel
theorem dX3_removeAt_60 : decode cX3_removeAt 60 = .ok (.iastore, 1) := by decide +kernel
theorem dX3_removeAt_61 : decode cX3_removeAt 61 = .ok (.iinc 2 1, 3) := by decide +kernel
theorem dX3_removeAt_64 : decode cX3_removeAt 64 = .ok (.goto (-39), 3) := by decide +kernel
theorem dX3_removeAt_67 : decode cX3_removeAt 67 = .ok (.return_, 1) := by decide +kernel
theorem dX4_init_0 : decode cX4_init 0 = .ok (.aload_n 0, 1) := by decide +kernel
theorem dX4_init_1 : decode cX4_init 1 = .ok (.invokespecial 3, 3) := by decide +kernel
theorem dX4_init_4 : decode cX4_init 4 = .ok (.aload_n 0, 1) := by decide +kernel
theorem dX4_init_5 : decode cX4_init 5 = .ok (.bipush 10, 2) := by decide +kernel
theorem dX4_init_7 : decode cX4_init 7 = .ok (.newarray .int, 2) := by decide +kernel
theorem dX4_init_9 : decode cX4_init 9 = .ok (.putfield 9, 3) := by decide +kernel
theorem dX4_init_12 : decode cX4_init 12 = .ok (.aload_n 0, 1) := by decide +kernel
theorem dX4_init_13 : decode cX4_init 13 = .ok (.iconst 0, 1) := by decide +kernel
theorem dX4_init_14 : decode cX4_init 14 = .ok (.putfield 15, 3) := by decide +kernel
theorem dX4_init_17 : decode cX4_init 17 = .ok (.return_, 1) := by decide +kernel
theorem dX4_copyFrom_0 : decode cX4_copyFrom 0 = .ok (.aload_n 1, 1) := by decide +kernel
theorem dX4_copyFrom_1 : decode cX4_copyFrom 1 = .ok (.getfield 9, 3) := by decide +kernel
theorem dX4_copyFrom_4 : decode cX4_copyFrom 4 = .ok (.iconst 0, 1) := by decide +kernel
theorem dX4_copyFrom_5 : decode cX4_copyFrom 5 = .ok (.aload_n 0, 1) := by decide +kernel
theorem dX4_copyFrom_6 : decode cX4_copyFrom 6 = .ok (.getfield 9, 3) := by decide +kernel
theorem dX4_copyFrom_9 : decode cX4_copyFrom 9 = .ok (.iconst 0, 1) := by decide +kernel
theorem dX4_copyFrom_10 : decode cX4_copyFrom 10 = .ok (.bipush 10, 2) := by decide +kernel
theorem dX4_copyFrom_12 : decode cX4_copyFrom 12 = .ok (.invokestatic 19, 3) := by decide +kernel
theorem dX4_copyFrom_15 : decode cX4_copyFrom 15 = .ok (.aload_n 0, 1) := by decide +kernel
theorem dX4_copyFrom_16 : decode cX4_copyFrom 16 = .ok (.aload_n 1, 1) := by decide +kernel
theorem dX4_copyFrom_17 : decode cX4_copyFrom 17 = .ok (.getfield 15, 3) := by decide +kernel
theorem dX4_copyFrom_20 : decode cX4_copyFrom 20 = .ok (.putfield 15, 3) := by decide +kernel
theorem dX4_copyFrom_23 : decode cX4_copyFrom 23 = .ok (.return_, 1) := by decide +kernel
theorem dX4_first_0 : decode cX4_first 0 = .ok (.aload_n 0, 1) := by decide +kernel
theorem dX4_first_1 : decode cX4_first 1 = .ok (.getfield 15, 3) := by decide +kernel
theorem dX4_first_4 : decode cX4_first 4 = .ok (.ifCond .le 12, 3) := by decide +kernel
theorem dX4_first_7 : decode cX4_first 7 = .ok (.aload_n 0, 1) := by decide +kernel
theorem dX4_first_8 : decode cX4_first 8 = .ok (.getfield 9, 3) := by decide +kernel
theorem dX4_first_11 : decode cX4_first 11 = .ok (.iconst 0, 1) := by decide +kernel
theorem dX4_first_12 : decode cX4_first 12 = .ok (.iaload, 1) := by decide +kernel
theorem dX4_first_13 : decode cX4_first 13 = .ok (.goto 4, 3) := by decide +kernel
theorem dX4_first_16 : decode cX4_first 16 = .ok (.iconst (-1), 1) := by decide +kernel
theorem dX4_first_17 : decode cX4_first 17 = .ok (.ireturn, 1) := by decide +kernel
theorem dX4_placeOf_0 : decode cX4_placeOf 0 = .ok (.iconst 0, 1) := by decide +kernel
theorem dX4_placeOf_1 : decode cX4_placeOf 1 = .ok (.istore_n 2, 1) := by decide +kernel
theorem dX4_placeOf_2 : decode cX4_placeOf 2 = .ok (.iload_n 2, 1) := by decide +kernel
theorem dX4_placeOf_3 : decode cX4_placeOf 3 = .ok (.aload_n 0, 1) := by decide +kernel
theorem dX4_placeOf_4 : decode cX4_placeOf 4 = .ok (.getfield 15, 3) := by decide +kernel
theorem dX4_placeOf_7 : decode cX4_placeOf 7 = .ok (.if_icmp .ge 21, 3) := by decide +kernel
theorem dX4_placeOf_10 : decode cX4_placeOf 10 = .ok (.aload_n 0, 1) := by decide +kernel
theorem dX4_placeOf_11 : decode cX4_placeOf 11 = .ok (.getfield 9, 3) := by decide +kernel
theorem dX4_placeOf_14 : decode cX4_placeOf 14 = .ok (.iload_n 2, 1) := by decide +kernel
theorem dX4_placeOf_15 : decode cX4_placeOf 15 = .ok (.iaload, 1) := by decide +kernel
theorem dX4_placeOf_16 : decode cX4_placeOf 16 = .ok (.iload_n 1, 1) := by decide +kernel
theorem dX4_placeOf_17 : decode cX4_placeOf 17 = .ok (.if_icmp .ne 5, 3) := by decide +kernel
theorem dX4_placeOf_20 : decode cX4_placeOf 20 = .ok (.iload_n 2, 1) := by decide +kernel
theorem dX4_placeOf_21 : decode cX4_placeOf 21 = .ok (.ireturn, 1) := by decide +kernel
theorem dX4_placeOf_22 : decode cX4_placeOf 22 = .ok (.iinc 2 1, 3) := by decide +kernel
theorem dX4_placeOf_25 : decode cX4_placeOf 25 = .ok (.goto (-23), 3) := by decide +kernel
theorem dX4_placeOf_28 : decode cX4_placeOf 28 = .ok (.iconst (-1), 1) := by decide +kernel
theorem dX4_placeOf_29 : decode cX4_placeOf 29 = .ok (.ireturn, 1) := by decide +kernel
set_option maxRecDepth 20000 in
theorem ggX4_countWithout_X4_placeOf : GoodIn wsX4_countWithout wsX4_placeOf := goodIn_r _ [6, 1, 7, 8, 9] (by decide +kernel) (by decide +kernel)
set_option maxRecDepth 20000 in
theorem gX4_countWithout_X4_placeOf : GoodIn wsX4_countWithout (wsV RX4 25 RX4 yX4_placeOf wsX4_placeOf) := goodIn_app (goodIn_of _ (by decide +kernel)) ggX4_countWithout_X4_placeOf
theorem dX4_countWithout_0 : decode cX4_countWithout 0 = .ok (.aload_n 0, 1) := by decide +kernel
theorem dX4_countWithout_1 : decode cX4_countWithout 1 = .ok (.iload_n 1, 1) := by decide +kernel
theorem dX4_countWithout_2 : decode cX4_countWithout 2 = .ok (.invokevirtual 25, 3) := by decide +kernel
theorem dX4_countWithout_5 : decode cX4_countWithout 5 = .ok (.iconst (-1), 1) := by decide +kernel
theorem dX4_countWithout_6 : decode cX4_countWithout 6 = .ok (.if_icmp .ne 10, 3) := by decide +kernel
theorem dX4_countWithout_9 : decode cX4_countWithout 9 = .ok (.aload_n 0, 1) := by decide +kernel
theorem dX4_countWithout_10 : decode cX4_countWithout 10 = .ok (.getfield 15, 3) := by decide +kernel
theorem dX4_countWithout_13 : decode cX4_countWithout 13 = .ok (.goto 9, 3) := by decide +kernel
theorem dX4_countWithout_16 : decode cX4_countWithout 16 = .ok (.aload_n 0, 1) := by decide +kernel
theorem dX4_countWithout_17 : decode cX4_countWithout 17 = .ok (.getfield 15, 3) := by decide +kernel
theorem dX4_countWithout_20 : decode cX4_countWithout 20 = .ok (.iconst 1, 1) := by decide +kernel
theorem dX4_countWithout_21 : decode cX4_countWithout 21 = .ok (.isub, 1) := by decide +kernel
theorem dX4_countWithout_22 : decode cX4_countWithout 22 = .ok (.ireturn, 1) := by decide +kernel
set_option maxRecDepth 20000 in
theorem ggX4_moveTo_X4_placeOf : GoodIn wsX4_moveTo wsX4_placeOf := goodIn_r _ [7, 1, 2, 12, 13] (by decide +kernel) (by decide +kernel)
set_option maxRecDepth 20000 in
theorem gX4_moveTo_X4_placeOf : GoodIn wsX4_moveTo (wsV RX4 25 RX4 yX4_placeOf wsX4_placeOf) := goodIn_app (goodIn_of _ (by decide +kernel)) ggX4_moveTo_X4_placeOf
set_option maxRecDepth 20000 in
theorem ggX4_moveTo_X4_removeAt : GoodIn wsX4_moveTo wsX4_removeAt := goodIn_r _ [11, 1, 2, 12, 13] (by decide +kernel) (by decide +kernel)
set_option maxRecDepth 20000 in
theorem gX4_moveTo_X4_removeAt : GoodIn wsX4_moveTo (wsV RX4 29 RX4 yX4_removeAt wsX4_removeAt) := goodIn_app (goodIn_of _ (by decide +kernel)) ggX4_moveTo_X4_removeAt
theorem dX4_moveTo_0 : decode cX4_moveTo 0 = .ok (.aload_n 0, 1) := by decide +kernel
theorem dX4_moveTo_1 : decode cX4_moveTo 1 = .ok (.aload_n 0, 1) := by decide +kernel
theorem dX4_moveTo_2 : decode cX4_moveTo 2 = .ok (.iload_n 1, 1) := by decide +kernel
theorem dX4_moveTo_3 : decode cX4_moveTo 3 = .ok (.invokevirtual 25, 3) := by decide +kernel
theorem dX4_moveTo_6 : decode cX4_moveTo 6 = .ok (.invokevirtual 29, 3) := by decide +kernel
theorem dX4_moveTo_9 : decode cX4_moveTo 9 = .ok (.iload_n 2, 1) := by decide +kernel
theorem dX4_moveTo_10 : decode cX4_moveTo 10 = .ok (.ifCond .lt 20, 3) := by decide +kernel
theorem dX4_moveTo_13 : decode cX4_moveTo 13 = .ok (.iload_n 2, 1) := by decide +kernel
theorem dX4_moveTo_14 : decode cX4_moveTo 14 = .ok (.aload_n 0, 1) := by decide +kernel
theorem dX4_moveTo_15 : decode cX4_moveTo 15 = .ok (.getfield 15, 3) := by decide +kernel
theorem dX4_moveTo_18 : decode cX4_moveTo 18 = .ok (.if_icmp .gt 12, 3) := by decide +kernel
theorem dX4_moveTo_21 : decode cX4_moveTo 21 = .ok (.aload_n 0, 1) := by decide +kernel
theorem dX4_moveTo_22 : decode cX4_moveTo 22 = .ok (.getfield 15, 3) := by decide +kernel
theorem dX4_moveTo_25 : decode cX4_moveTo 25 = .ok (.bipush 10, 2) := by decide +kernel
theorem dX4_moveTo_27 : decode cX4_moveTo 27 = .ok (.if_icmp .lt 4, 3) := by decide +kernel
theorem dX4_moveTo_30 : decode cX4_moveTo 30 = .ok (.return_, 1) := by decide +kernel
theorem dX4_moveTo_31 : decode cX4_moveTo 31 = .ok (.aload_n 0, 1) := by decide +kernel
theorem dX4_moveTo_32 : decode cX4_moveTo 32 = .ok (.getfield 15, 3) := by decide +kernel
theorem dX4_moveTo_35 : decode cX4_moveTo 35 = .ok (.istore_n 3, 1) := by decide +kernel
theorem dX4_moveTo_36 : decode cX4_moveTo 36 = .ok (.iload_n 3, 1) := by decide +kernel
theorem dX4_moveTo_37 : decode cX4_moveTo 37 = .ok (.iload_n 2, 1) := by decide +kernel
theorem dX4_moveTo_38 : decode cX4_moveTo 38 = .ok (.if_icmp .le 23, 3) := by decide +kernel
theorem dX4_moveTo_41 : decode cX4_moveTo 41 = .ok (.aload_n 0, 1) := by decide +kernel
theorem dX4_moveTo_42 : decode cX4_moveTo 42 = .ok (.getfield 9, 3) := by decide +kernel
theorem dX4_moveTo_45 : decode cX4_moveTo 45 = .ok (.iload_n 3, 1) := by decide +kernel
theorem dX4_moveTo_46 : decode cX4_moveTo 46 = .ok (.aload_n 0, 1) := by decide +kernel
theorem dX4_moveTo_47 : decode cX4_moveTo 47 = .ok (.getfield 9, 3) := by decide +kernel
theorem dX4_moveTo_50 : decode cX4_moveTo 50 = .ok (.iload_n 3, 1) := by decide +kernel
theorem dX4_moveTo_51 : decode cX4_moveTo 51 = .ok (.iconst 1, 1) := by decide +kernel
theorem dX4_moveTo_52 : decode cX4_moveTo 52 = .ok (.isub, 1) := by decide +kernel
theorem dX4_moveTo_53 : decode cX4_moveTo 53 = .ok (.iaload, 1) := by decide +kernel
theorem dX4_moveTo_54 : decode cX4_moveTo 54 = .ok (.iastore, 1) := by decide +kernel
theorem dX4_moveTo_55 : decode cX4_moveTo 55 = .ok (.iinc 3 (-1), 3) := by decide +kernel
theorem dX4_moveTo_58 : decode cX4_moveTo 58 = .ok (.goto (-22), 3) := by decide +kernel
theorem dX4_moveTo_61 : decode cX4_moveTo 61 = .ok (.aload_n 0, 1) := by decide +kernel
theorem dX4_moveTo_62 : decode cX4_moveTo 62 = .ok (.getfield 9, 3) := by decide +kernel
theorem dX4_moveTo_65 : decode cX4_moveTo 65 = .ok (.iload_n 2, 1) := by decide +kernel
theorem dX4_moveTo_66 : decode cX4_moveTo 66 = .ok (.iload_n 1, 1) := by decide +kernel
theorem dX4_moveTo_67 : decode cX4_moveTo 67 = .ok (.iastore, 1) := by decide +kernel
theorem dX4_moveTo_68 : decode cX4_moveTo 68 = .ok (.aload_n 0, 1) := by decide +kernel
theorem dX4_moveTo_69 : decode cX4_moveTo 69 = .ok (.dup, 1) := by decide +kernel
theorem dX4_moveTo_70 : decode cX4_moveTo 70 = .ok (.getfield 15, 3) := by decide +kernel
theorem dX4_moveTo_73 : decode cX4_moveTo 73 = .ok (.iconst 1, 1) := by decide +kernel
theorem dX4_moveTo_74 : decode cX4_moveTo 74 = .ok (.iadd, 1) := by decide +kernel
theorem dX4_moveTo_75 : decode cX4_moveTo 75 = .ok (.putfield 15, 3) := by decide +kernel
theorem dX4_moveTo_78 : decode cX4_moveTo 78 = .ok (.return_, 1) := by decide +kernel
theorem dX4_removeAt_0 : decode cX4_removeAt 0 = .ok (.iload_n 1, 1) := by decide +kernel
theorem dX4_removeAt_1 : decode cX4_removeAt 1 = .ok (.ifCond .lt 11, 3) := by decide +kernel
theorem dX4_removeAt_4 : decode cX4_removeAt 4 = .ok (.iload_n 1, 1) := by decide +kernel
theorem dX4_removeAt_5 : decode cX4_removeAt 5 = .ok (.aload_n 0, 1) := by decide +kernel
theorem dX4_removeAt_6 : decode cX4_removeAt 6 = .ok (.getfield 15, 3) := by decide +kernel
theorem dX4_removeAt_9 : decode cX4_removeAt 9 = .ok (.if_icmp .lt 4, 3) := by decide +kernel
theorem dX4_removeAt_12 : decode cX4_removeAt 12 = .ok (.return_, 1) := by decide +kernel
theorem dX4_removeAt_13 : decode cX4_removeAt 13 = .ok (.aload_n 0, 1) := by decide +kernel
theorem dX4_removeAt_14 : decode cX4_removeAt 14 = .ok (.dup, 1) := by decide +kernel
theorem dX4_removeAt_15 : decode cX4_removeAt 15 = .ok (.getfield 15, 3) := by decide +kernel
theorem dX4_removeAt_18 : decode cX4_removeAt 18 = .ok (.iconst 1, 1) := by decide +kernel
theorem dX4_removeAt_19 : decode cX4_removeAt 19 = .ok (.isub, 1) := by decide +kernel
theorem dX4_removeAt_20 : decode cX4_removeAt 20 = .ok (.putfield 15, 3) := by decide +kernel
theorem dX4_removeAt_23 : decode cX4_removeAt 23 = .ok (.iload_n 1, 1) := by decide +kernel
theorem dX4_removeAt_24 : decode cX4_removeAt 24 = .ok (.istore_n 2, 1) := by decide +kernel
theorem dX4_removeAt_25 : decode cX4_removeAt 25 = .ok (.iload_n 2, 1) := by decide +kernel
theorem dX4_removeAt_26 : decode cX4_removeAt 26 = .ok (.aload_n 0, 1) := by decide +kernel
theorem dX4_removeAt_27 : decode cX4_removeAt 27 = .ok (.getfield 15, 3) := by decide +kernel
theorem dX4_removeAt_30 : decode cX4_removeAt 30 = .ok (.if_icmp .ge 23, 3) := by decide +kernel
theorem dX4_removeAt_33 : decode cX4_removeAt 33 = .ok (.aload_n 0, 1) := by decide +kernel
theorem dX4_removeAt_34 : decode cX4_removeAt 34 = .ok (.getfield 9, 3) := by decide +kernel
theorem dX4_removeAt_37 : decode cX4_removeAt 37 = .ok (.iload_n 2, 1) := by decide +kernel
theorem dX4_removeAt_38 : decode cX4_removeAt 38 = .ok (.aload_n 0, 1) := by decide +kernel
theorem dX4_removeAt_39 : decode cX4_removeAt 39 = .ok (.getfield 9, 3) := by decide +kernel
theorem dX4_removeAt_42 : decode cX4_removeAt 42 = .ok (.iload_n 2, 1) := by decide +kernel
theorem dX4_removeAt_43 : decode cX4_removeAt 43 = .ok (.iconst 1, 1) := by decide +kernel
theorem dX4_removeAt_44 : decode cX4_removeAt 44 = .ok (.iadd, 1) := by decide +kernel
theorem dX4_removeAt_45 : decode cX4_removeAt 45 = .ok (.iaload, 1) := by decide +kernel
theorem dX4_removeAt_46 : decode cX4_removeAt 46 = .ok (.iastore, 1) := by decide +kernel
theorem dX4_removeAt_47 : decode cX4_removeAt 47 = .ok (.iinc 2 1, 3) := by decide +kernel
theorem dX4_removeAt_50 : decode cX4_removeAt 50 = .ok (.goto (-25), 3) := by decide +kernel
theorem dX4_removeAt_53 : decode cX4_removeAt 53 = .ok (.return_, 1) := by decide +kernel
theorem dX5_init_0 : decode cX5_init 0 = .ok (.aload_n 0, 1) := by decide +kernel
theorem dX5_init_1 : decode cX5_init 1 = .ok (.invokespecial 3, 3) := by decide +kernel
theorem dX5_init_4 : decode cX5_init 4 = .ok (.return_, 1) := by decide +kernel
theorem dX5_begin_0 : decode cX5_begin 0 = .ok (.aload_n 0, 1) := by decide +kernel
theorem dX5_begin_1 : decode cX5_begin 1 = .ok (.iload_n 1, 1) := by decide +kernel
theorem dX5_begin_2 : decode cX5_begin 2 = .ok (.putfield 9, 3) := by decide +kernel
theorem dX5_begin_5 : decode cX5_begin 5 = .ok (.aload_n 0, 1) := by decide +kernel
theorem dX5_begin_6 : decode cX5_begin 6 = .ok (.iload_n 2, 1) := by decide +kernel
theorem dX5_begin_7 : decode cX5_begin 7 = .ok (.putfield 15, 3) := by decide +kernel
theorem dX5_begin_10 : decode cX5_begin 10 = .ok (.aload_n 0, 1) := by decide +kernel
theorem dX5_begin_11 : decode cX5_begin 11 = .ok (.iload_n 3, 1) := by decide +kernel
theorem dX5_begin_12 : decode cX5_begin 12 = .ok (.putfield 18, 3) := by decide +kernel
theorem dX5_begin_15 : decode cX5_begin 15 = .ok (.aload_n 0, 1) := by decide +kernel
theorem dX5_begin_16 : decode cX5_begin 16 = .ok (.iconst 0, 1) := by decide +kernel
theorem dX5_begin_17 : decode cX5_begin 17 = .ok (.putfield 21, 3) := by decide +kernel
theorem dX5_begin_20 : decode cX5_begin 20 = .ok (.aload_n 0, 1) := by decide +kernel
theorem dX5_begin_21 : decode cX5_begin 21 = .ok (.iconst 0, 1) := by decide +kernel
theorem dX5_begin_22 : decode cX5_begin 22 = .ok (.putfield 24, 3) := by decide +kernel
theorem dX5_begin_25 : decode cX5_begin 25 = .ok (.aload_n 0, 1) := by decide +kernel
theorem dX5_begin_26 : decode cX5_begin 26 = .ok (.iconst 0, 1) := by decide +kernel
theorem dX5_begin_27 : decode cX5_begin 27 = .ok (.putfield 27, 3) := by decide +kernel
theorem dX5_begin_30 : decode cX5_begin 30 = .ok (.aload_n 0, 1) := by decide +kernel
theorem dX5_begin_31 : decode cX5_begin 31 = .ok (.iconst 0, 1) := by decide +kernel
theorem dX5_begin_32 : decode cX5_begin 32 = .ok (.putfield 30, 3) := by decide +kernel
theorem dX5_begin_35 : decode cX5_begin 35 = .ok (.return_, 1) := by decide +kernel
theorem dX5_copyFrom_0 : decode cX5_copyFrom 0 = .ok (.aload_n 0, 1) := by decide +kernel
theorem dX5_copyFrom_1 : decode cX5_copyFrom 1 = .ok (.aload_n 1, 1) := by decide +kernel
theorem dX5_copyFrom_2 : decode cX5_copyFrom 2 = .ok (.getfield 9, 3) := by decide +kernel
theorem dX5_copyFrom_5 : decode cX5_copyFrom 5 = .ok (.putfield 9, 3) := by decide +kernel
theorem dX5_copyFrom_8 : decode cX5_copyFrom 8 = .ok (.aload_n 0, 1) := by decide +kernel
theorem dX5_copyFrom_9 : decode cX5_copyFrom 9 = .ok (.aload_n 1, 1) := by decide +kernel
theorem dX5_copyFrom_10 : decode cX5_copyFrom 10 = .ok (.getfield 15, 3) := by decide +kernel
theorem dX5_copyFrom_13 : decode cX5_copyFrom 13 = .ok (.putfield 15, 3) := by decide +kernel
theorem dX5_copyFrom_16 : decode cX5_copyFrom 16 = .ok (.aload_n 0, 1) := by decide +kernel
theorem dX5_copyFrom_17 : decode cX5_copyFrom 17 = .ok (.aload_n 1, 1) := by decide +kernel
