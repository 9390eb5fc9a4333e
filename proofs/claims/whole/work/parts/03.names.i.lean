theorem dX9_count_12 : decode cX9_count 12 = .ok (.ifCond .eq 11, 3) := by decide +kernel
theorem dX9_count_15 : decode cX9_count 15 = .ok (.aload_n 0, 1) := by decide +kernel
theorem dX9_count_16 : decode cX9_count 16 = .ok (.iload_n 1, 1) := by decide +kernel
theorem dX9_count_17 : decode cX9_count 17 = .ok (.invokevirtual 153, 3) := by decide +kernel
theorem dX9_count_20 : decode cX9_count 20 = .ok (.goto 8, 3) := by decide +kernel
theorem dX9_count_23 : decode cX9_count 23 = .ok (.aload_n 0, 1) := by decide +kernel
theorem dX9_count_24 : decode cX9_count 24 = .ok (.iconst 1, 1) := by decide +kernel
theorem dX9_count_25 : decode cX9_count 25 = .ok (.invokevirtual 76, 3) := by decide +kernel
theorem dX9_count_28 : decode cX9_count 28 = .ok (.ireturn, 1) := by decide +kernel
set_option maxRecDepth 20000 in
theorem ggX9_setting_X9_within : GoodIn wsX9_setting wsX9_within := goodIn_r _ [6] (by decide +kernel) (by decide +kernel)
set_option maxRecDepth 20000 in
theorem gX9_setting_X9_within : GoodIn wsX9_setting (va_wsS RX9 32 yX9_within wsX9_within) := goodIn_app (goodIn_of _ (by decide +kernel)) ggX9_setting_X9_within
set_option maxRecDepth 20000 in
theorem ggX9_setting_X9_fails : GoodIn wsX9_setting wsX9_fails := goodIn_r _ [10, 1, 11, 12, 13, 14, 15, 16, 17, 18, 19, 20, 21, 22, 23, 24, 25] (by decide +kernel) (by decide +kernel)
set_option maxRecDepth 20000 in
theorem gX9_setting_X9_fails : GoodIn wsX9_setting (wsV RX9 76 RX9 yX9_fails wsX9_fails) := goodIn_app (goodIn_of _ (by decide +kernel)) ggX9_setting_X9_fails
theorem dX9_setting_0 : decode cX9_setting 0 = .ok (.aload_n 0, 1) := by decide +kernel
theorem dX9_setting_1 : decode cX9_setting 1 = .ok (.iconst 0, 1) := by decide +kernel
theorem dX9_setting_2 : decode cX9_setting 2 = .ok (.putfield 28, 3) := by decide +kernel
theorem dX9_setting_5 : decode cX9_setting 5 = .ok (.iload_n 1, 1) := by decide +kernel
theorem dX9_setting_6 : decode cX9_setting 6 = .ok (.iconst 0, 1) := by decide +kernel
theorem dX9_setting_7 : decode cX9_setting 7 = .ok (.bipush 6, 2) := by decide +kernel
theorem dX9_setting_9 : decode cX9_setting 9 = .ok (.invokestatic 32, 3) := by decide +kernel
theorem dX9_setting_12 : decode cX9_setting 12 = .ok (.ifCond .eq 15, 3) := by decide +kernel
theorem dX9_setting_15 : decode cX9_setting 15 = .ok (.aload_n 0, 1) := by decide +kernel
theorem dX9_setting_16 : decode cX9_setting 16 = .ok (.getfield 7, 3) := by decide +kernel
theorem dX9_setting_19 : decode cX9_setting 19 = .ok (.bipush 71, 2) := by decide +kernel
theorem dX9_setting_21 : decode cX9_setting 21 = .ok (.iload_n 1, 1) := by decide +kernel
theorem dX9_setting_22 : decode cX9_setting 22 = .ok (.iadd, 1) := by decide +kernel
theorem dX9_setting_23 : decode cX9_setting 23 = .ok (.iaload, 1) := by decide +kernel
theorem dX9_setting_24 : decode cX9_setting 24 = .ok (.goto 8, 3) := by decide +kernel
theorem dX9_setting_27 : decode cX9_setting 27 = .ok (.aload_n 0, 1) := by decide +kernel
theorem dX9_setting_28 : decode cX9_setting 28 = .ok (.iconst 1, 1) := by decide +kernel
theorem dX9_setting_29 : decode cX9_setting 29 = .ok (.invokevirtual 76, 3) := by decide +kernel
theorem dX9_setting_32 : decode cX9_setting 32 = .ok (.ireturn, 1) := by decide +kernel
set_option maxRecDepth 20000 in
theorem ggX9_way_X9_within : GoodIn wsX9_way wsX9_within := goodIn_r _ [5] (by decide +kernel) (by decide +kernel)
set_option maxRecDepth 20000 in
theorem gX9_way_X9_within : GoodIn wsX9_way (va_wsS RX9 32 yX9_within wsX9_within) := goodIn_app (goodIn_of _ (by decide +kernel)) ggX9_way_X9_within
set_option maxRecDepth 20000 in
theorem ggX9_way_X9_hoursOf : GoodIn wsX9_way wsX9_hoursOf := goodIn_r _ [9, 10, 15, 16, 17, 18, 19, 20, 21, 22, 23, 24, 25, 26, 27, 28, 29] (by decide +kernel) (by decide +kernel)
set_option maxRecDepth 20000 in
theorem gX9_way_X9_hoursOf : GoodIn wsX9_way (wsV RX9 39 RX9 yX9_hoursOf wsX9_hoursOf) := goodIn_app (goodIn_of _ (by decide +kernel)) ggX9_way_X9_hoursOf
set_option maxRecDepth 20000 in
theorem ggX9_way_X9_fails : GoodIn wsX9_way wsX9_fails := goodIn_r _ [14, 1, 15, 16, 17, 18, 19, 20, 21, 22, 23, 24, 25, 26, 27, 28, 29] (by decide +kernel) (by decide +kernel)
set_option maxRecDepth 20000 in
theorem gX9_way_X9_fails : GoodIn wsX9_way (wsV RX9 76 RX9 yX9_fails wsX9_fails) := goodIn_app (goodIn_of _ (by decide +kernel)) ggX9_way_X9_fails
theorem dX9_way_0 : decode cX9_way 0 = .ok (.aload_n 0, 1) := by decide +kernel
theorem dX9_way_1 : decode cX9_way 1 = .ok (.iconst 0, 1) := by decide +kernel
theorem dX9_way_2 : decode cX9_way 2 = .ok (.putfield 28, 3) := by decide +kernel
theorem dX9_way_5 : decode cX9_way 5 = .ok (.iload_n 1, 1) := by decide +kernel
theorem dX9_way_6 : decode cX9_way 6 = .ok (.iconst 0, 1) := by decide +kernel
theorem dX9_way_7 : decode cX9_way 7 = .ok (.bipush 99, 2) := by decide +kernel
theorem dX9_way_9 : decode cX9_way 9 = .ok (.invokestatic 32, 3) := by decide +kernel
theorem dX9_way_12 : decode cX9_way 12 = .ok (.ifCond .eq 22, 3) := by decide +kernel
theorem dX9_way_15 : decode cX9_way 15 = .ok (.iload_n 2, 1) := by decide +kernel
theorem dX9_way_16 : decode cX9_way 16 = .ok (.iconst 0, 1) := by decide +kernel
theorem dX9_way_17 : decode cX9_way 17 = .ok (.bipush 99, 2) := by decide +kernel
theorem dX9_way_19 : decode cX9_way 19 = .ok (.invokestatic 32, 3) := by decide +kernel
theorem dX9_way_22 : decode cX9_way 22 = .ok (.ifCond .eq 12, 3) := by decide +kernel
theorem dX9_way_25 : decode cX9_way 25 = .ok (.aload_n 0, 1) := by decide +kernel
theorem dX9_way_26 : decode cX9_way 26 = .ok (.iload_n 1, 1) := by decide +kernel
theorem dX9_way_27 : decode cX9_way 27 = .ok (.iload_n 2, 1) := by decide +kernel
theorem dX9_way_28 : decode cX9_way 28 = .ok (.invokevirtual 39, 3) := by decide +kernel
theorem dX9_way_31 : decode cX9_way 31 = .ok (.goto 8, 3) := by decide +kernel
theorem dX9_way_34 : decode cX9_way 34 = .ok (.aload_n 0, 1) := by decide +kernel
theorem dX9_way_35 : decode cX9_way 35 = .ok (.iconst 1, 1) := by decide +kernel
theorem dX9_way_36 : decode cX9_way 36 = .ok (.invokevirtual 76, 3) := by decide +kernel
theorem dX9_way_39 : decode cX9_way 39 = .ok (.ireturn, 1) := by decide +kernel
set_option maxRecDepth 20000 in
theorem ggX9_told_X9_sum : GoodIn wsX9_told wsX9_sum := goodIn_r _ [6, 1, 11, 12, 13, 14, 15, 16, 17, 18, 19, 20, 21, 22, 23, 24, 25] (by decide +kernel) (by decide +kernel)
set_option maxRecDepth 20000 in
theorem gX9_told_X9_sum : GoodIn wsX9_told (wsV RX9 150 RX9 yX9_sum wsX9_sum) := goodIn_app (goodIn_of _ (by decide +kernel)) ggX9_told_X9_sum
set_option maxRecDepth 20000 in
theorem ggX9_told_X9_faulty : GoodIn wsX9_told wsX9_faulty := goodIn_r _ [10, 1, 11, 12, 13, 14, 15, 16, 17, 18, 19, 20, 21, 22, 23, 24, 25] (by decide +kernel) (by decide +kernel)
set_option maxRecDepth 20000 in
theorem gX9_told_X9_faulty : GoodIn wsX9_told (wsV RX9 147 RX9 yX9_faulty wsX9_faulty) := goodIn_app (goodIn_of _ (by decide +kernel)) ggX9_told_X9_faulty
theorem dX9_told_0 : decode cX9_told 0 = .ok (.iload_n 1, 1) := by decide +kernel
theorem dX9_told_1 : decode cX9_told 1 = .ok (.iconst 5, 1) := by decide +kernel
theorem dX9_told_2 : decode cX9_told 2 = .ok (.if_icmp .ge 16, 3) := by decide +kernel
theorem dX9_told_5 : decode cX9_told 5 = .ok (.aload_n 0, 1) := by decide +kernel
theorem dX9_told_6 : decode cX9_told 6 = .ok (.getfield 7, 3) := by decide +kernel
theorem dX9_told_9 : decode cX9_told 9 = .ok (.sipush 177, 3) := by decide +kernel
theorem dX9_told_12 : decode cX9_told 12 = .ok (.iload_n 1, 1) := by decide +kernel
theorem dX9_told_13 : decode cX9_told 13 = .ok (.iadd, 1) := by decide +kernel
theorem dX9_told_14 : decode cX9_told 14 = .ok (.iaload, 1) := by decide +kernel
theorem dX9_told_15 : decode cX9_told 15 = .ok (.goto 53, 3) := by decide +kernel
theorem dX9_told_18 : decode cX9_told 18 = .ok (.iload_n 1, 1) := by decide +kernel
theorem dX9_told_19 : decode cX9_told 19 = .ok (.iconst 5, 1) := by decide +kernel
theorem dX9_told_20 : decode cX9_told 20 = .ok (.if_icmp .ne 12, 3) := by decide +kernel
theorem dX9_told_23 : decode cX9_told 23 = .ok (.aload_n 0, 1) := by decide +kernel
theorem dX9_told_24 : decode cX9_told 24 = .ok (.bipush 50, 2) := by decide +kernel
theorem dX9_told_26 : decode cX9_told 26 = .ok (.invokevirtual 150, 3) := by decide +kernel
theorem dX9_told_29 : decode cX9_told 29 = .ok (.goto 39, 3) := by decide +kernel
theorem dX9_told_32 : decode cX9_told 32 = .ok (.iload_n 1, 1) := by decide +kernel
theorem dX9_told_33 : decode cX9_told 33 = .ok (.bipush 6, 2) := by decide +kernel
theorem dX9_told_35 : decode cX9_told 35 = .ok (.if_icmp .ne 12, 3) := by decide +kernel
theorem dX9_told_38 : decode cX9_told 38 = .ok (.aload_n 0, 1) := by decide +kernel
theorem dX9_told_39 : decode cX9_told 39 = .ok (.bipush 60, 2) := by decide +kernel
theorem dX9_told_41 : decode cX9_told 41 = .ok (.invokevirtual 150, 3) := by decide +kernel
theorem dX9_told_44 : decode cX9_told 44 = .ok (.goto 24, 3) := by decide +kernel
theorem dX9_told_47 : decode cX9_told 47 = .ok (.iload_n 1, 1) := by decide +kernel
theorem dX9_told_48 : decode cX9_told 48 = .ok (.bipush 7, 2) := by decide +kernel
theorem dX9_told_50 : decode cX9_told 50 = .ok (.if_icmp .ne 10, 3) := by decide +kernel
theorem dX9_told_53 : decode cX9_told 53 = .ok (.aload_n 0, 1) := by decide +kernel
theorem dX9_told_54 : decode cX9_told 54 = .ok (.invokevirtual 147, 3) := by decide +kernel
theorem dX9_told_57 : decode cX9_told 57 = .ok (.goto 11, 3) := by decide +kernel
theorem dX9_told_60 : decode cX9_told 60 = .ok (.aload_n 0, 1) := by decide +kernel
theorem dX9_told_61 : decode cX9_told 61 = .ok (.getfield 7, 3) := by decide +kernel
theorem dX9_told_64 : decode cX9_told 64 = .ok (.sipush 145, 3) := by decide +kernel
theorem dX9_told_67 : decode cX9_told 67 = .ok (.iaload, 1) := by decide +kernel
theorem dX9_told_68 : decode cX9_told 68 = .ok (.ireturn, 1) := by decide +kernel
set_option maxRecDepth 20000 in
theorem ggX9_after_X9_keep : GoodIn wsX9_after wsX9_keep := goodIn_r _ [5, 6, 7, 75, 76, 77, 78, 79, 80, 81, 82, 83, 84, 85, 86, 87, 88, 89] (by decide +kernel) (by decide +kernel)
set_option maxRecDepth 20000 in
theorem gX9_after_X9_keep : GoodIn wsX9_after (wsV RX9 156 RX9 yX9_keep wsX9_keep) := goodIn_app (goodIn_of _ (by decide +kernel)) ggX9_after_X9_keep
set_option maxRecDepth 20000 in
theorem ggX9_after_X9_goHours : GoodIn wsX9_after wsX9_goHours := goodIn_r _ [11, 12, 13, 14, 4, 15, 7, 16, 17, 18, 19, 20, 21, 22, 23, 24, 25, 26, 27, 28, 29, 30, 31, 32, 33, 34, 35, 36, 37, 38, 39, 40, 41, 42, 43, 44, 45, 46, 47, 48, 49, 50, 51, 52, 53, 54, 55, 56, 57, 58, 75, 76, 77, 78, 79, 80, 81, 82, 83, 84, 85, 86, 87, 88, 89] (by decide +kernel) (by decide +kernel)
set_option maxRecDepth 20000 in
theorem gX9_after_X9_goHours : GoodIn wsX9_after (wsV RX9 95 RX9 yX9_goHours wsX9_goHours) := goodIn_app (goodIn_of _ (by decide +kernel)) ggX9_after_X9_goHours
set_option maxRecDepth 20000 in
theorem ggX9_after_X9_told : GoodIn wsX9_after wsX9_told := goodIn_r _ [62, 7, 63, 64, 65, 4, 66, 67, 68, 69, 70, 75, 76, 77, 78, 79, 80, 81, 82, 83, 84, 85, 86, 87, 88, 89] (by decide +kernel) (by decide +kernel)
set_option maxRecDepth 20000 in
theorem gX9_after_X9_told : GoodIn wsX9_after (wsV RX9 159 RX9 yX9_told wsX9_told) := goodIn_app (goodIn_of _ (by decide +kernel)) ggX9_after_X9_told
set_option maxRecDepth 20000 in
theorem ggX9_after_X9_bring : GoodIn wsX9_after wsX9_bring := goodIn_r _ [74, 7, 6, 75, 76, 77, 78, 79, 80, 81, 82, 83, 84, 85, 86, 87, 88, 89] (by decide +kernel) (by decide +kernel)
set_option maxRecDepth 20000 in
theorem gX9_after_X9_bring : GoodIn wsX9_after (wsV RX9 162 RX9 yX9_bring wsX9_bring) := goodIn_app (goodIn_of _ (by decide +kernel)) ggX9_after_X9_bring
theorem dX9_after_0 : decode cX9_after 0 = .ok (.aload_n 0, 1) := by decide +kernel
theorem dX9_after_1 : decode cX9_after 1 = .ok (.invokevirtual 156, 3) := by decide +kernel
theorem dX9_after_4 : decode cX9_after 4 = .ok (.aload_n 0, 1) := by decide +kernel
theorem dX9_after_5 : decode cX9_after 5 = .ok (.iload_n 1, 1) := by decide +kernel
theorem dX9_after_6 : decode cX9_after 6 = .ok (.invokevirtual 95, 3) := by decide +kernel
theorem dX9_after_9 : decode cX9_after 9 = .ok (.pop, 1) := by decide +kernel
theorem dX9_after_10 : decode cX9_after 10 = .ok (.aload_n 0, 1) := by decide +kernel
theorem dX9_after_11 : decode cX9_after 11 = .ok (.iload_n 2, 1) := by decide +kernel
theorem dX9_after_12 : decode cX9_after 12 = .ok (.invokevirtual 159, 3) := by decide +kernel
theorem dX9_after_15 : decode cX9_after 15 = .ok (.istore_n 3, 1) := by decide +kernel
theorem dX9_after_16 : decode cX9_after 16 = .ok (.aload_n 0, 1) := by decide +kernel
theorem dX9_after_17 : decode cX9_after 17 = .ok (.invokevirtual 162, 3) := by decide +kernel
theorem dX9_after_20 : decode cX9_after 20 = .ok (.iload_n 3, 1) := by decide +kernel
theorem dX9_after_21 : decode cX9_after 21 = .ok (.ireturn, 1) := by decide +kernel
set_option maxRecDepth 20000 in
theorem ggX9_ifPassed_X9_within : GoodIn wsX9_ifPassed wsX9_within := goodIn_r _ [5] (by decide +kernel) (by decide +kernel)
set_option maxRecDepth 20000 in
theorem gX9_ifPassed_X9_within : GoodIn wsX9_ifPassed (va_wsS RX9 32 yX9_within wsX9_within) := goodIn_app (goodIn_of _ (by decide +kernel)) ggX9_ifPassed_X9_within
set_option maxRecDepth 20000 in
theorem ggX9_ifPassed_X9_after : GoodIn wsX9_ifPassed wsX9_after := goodIn_r _ [9, 10, 11, 12, 4, 13, 14, 15, 16, 17, 18, 19, 20, 21, 22, 23, 24, 25, 26, 27, 28, 29, 30, 31, 32, 33, 34, 35, 36, 37, 38, 39, 40, 41, 42, 43, 44, 45, 46, 47, 48, 49, 50, 51, 52, 53, 54, 55, 56, 57, 58, 59, 60, 61, 62, 63, 2, 3, 5, 64, 65, 66, 67, 68, 69, 70, 71, 72, 73, 74, 75, 76, 77, 78, 79, 84, 85, 86, 87, 88, 89, 90, 91, 92, 93, 94, 95, 96, 97, 98] (by decide +kernel) (by decide +kernel)
set_option maxRecDepth 20000 in
theorem gX9_ifPassed_X9_after : GoodIn wsX9_ifPassed (wsV RX9 165 RX9 yX9_after wsX9_after) := goodIn_app (goodIn_of _ (by decide +kernel)) ggX9_ifPassed_X9_after
set_option maxRecDepth 20000 in
theorem ggX9_ifPassed_X9_fails : GoodIn wsX9_ifPassed wsX9_fails := goodIn_r _ [83, 1, 84, 85, 86, 87, 88, 89, 90, 91, 92, 93, 94, 95, 96, 97, 98] (by decide +kernel) (by decide +kernel)
set_option maxRecDepth 20000 in
theorem gX9_ifPassed_X9_fails : GoodIn wsX9_ifPassed (wsV RX9 76 RX9 yX9_fails wsX9_fails) := goodIn_app (goodIn_of _ (by decide +kernel)) ggX9_ifPassed_X9_fails
theorem dX9_ifPassed_0 : decode cX9_ifPassed 0 = .ok (.aload_n 0, 1) := by decide +kernel
theorem dX9_ifPassed_1 : decode cX9_ifPassed 1 = .ok (.iconst 0, 1) := by decide +kernel
theorem dX9_ifPassed_2 : decode cX9_ifPassed 2 = .ok (.putfield 28, 3) := by decide +kernel
theorem dX9_ifPassed_5 : decode cX9_ifPassed 5 = .ok (.iload_n 1, 1) := by decide +kernel
theorem dX9_ifPassed_6 : decode cX9_ifPassed 6 = .ok (.iconst 1, 1) := by decide +kernel
theorem dX9_ifPassed_7 : decode cX9_ifPassed 7 = .ok (.sipush 200, 3) := by decide +kernel
theorem dX9_ifPassed_10 : decode cX9_ifPassed 10 = .ok (.invokestatic 32, 3) := by decide +kernel
theorem dX9_ifPassed_13 : decode cX9_ifPassed 13 = .ok (.ifCond .eq 22, 3) := by decide +kernel
theorem dX9_ifPassed_16 : decode cX9_ifPassed 16 = .ok (.iload_n 2, 1) := by decide +kernel
theorem dX9_ifPassed_17 : decode cX9_ifPassed 17 = .ok (.iconst 0, 1) := by decide +kernel
theorem dX9_ifPassed_18 : decode cX9_ifPassed 18 = .ok (.bipush 8, 2) := by decide +kernel
theorem dX9_ifPassed_20 : decode cX9_ifPassed 20 = .ok (.invokestatic 32, 3) := by decide +kernel
theorem dX9_ifPassed_23 : decode cX9_ifPassed 23 = .ok (.ifCond .eq 12, 3) := by decide +kernel
theorem dX9_ifPassed_26 : decode cX9_ifPassed 26 = .ok (.aload_n 0, 1) := by decide +kernel
theorem dX9_ifPassed_27 : decode cX9_ifPassed 27 = .ok (.iload_n 1, 1) := by decide +kernel
theorem dX9_ifPassed_28 : decode cX9_ifPassed 28 = .ok (.iload_n 2, 1) := by decide +kernel
theorem dX9_ifPassed_29 : decode cX9_ifPassed 29 = .ok (.invokevirtual 165, 3) := by decide +kernel
theorem dX9_ifPassed_32 : decode cX9_ifPassed 32 = .ok (.goto 8, 3) := by decide +kernel
theorem dX9_ifPassed_35 : decode cX9_ifPassed 35 = .ok (.aload_n 0, 1) := by decide +kernel
theorem dX9_ifPassed_36 : decode cX9_ifPassed 36 = .ok (.iconst 1, 1) := by decide +kernel
theorem dX9_ifPassed_37 : decode cX9_ifPassed 37 = .ok (.invokevirtual 76, 3) := by decide +kernel
theorem dX9_ifPassed_40 : decode cX9_ifPassed 40 = .ok (.ireturn, 1) := by decide +kernel
set_option maxRecDepth 20000 in
theorem ggX9_bestNow_X9_keep : GoodIn wsX9_bestNow wsX9_keep := goodIn_r _ [7, 2, 1, 63, 64, 65, 66, 67, 68, 69, 70, 71, 72, 73, 74, 75, 76, 77] (by decide +kernel) (by decide +kernel)
set_option maxRecDepth 20000 in
theorem gX9_bestNow_X9_keep : GoodIn wsX9_bestNow (wsV RX9 156 RX9 yX9_keep wsX9_keep) := goodIn_app (goodIn_of _ (by decide +kernel)) ggX9_bestNow_X9_keep
set_option maxRecDepth 20000 in
theorem ggX9_bestNow_X9_goHours : GoodIn wsX9_bestNow wsX9_goHours := goodIn_r _ [11, 12, 13, 14, 6, 15, 1, 16, 17, 18, 19, 20, 21, 22, 23, 24, 25, 26, 27, 28, 29, 30, 31, 32, 33, 34, 35, 36, 37, 38, 39, 40, 41, 42, 43, 44, 45, 46, 47, 48, 49, 50, 51, 52, 53, 54, 55, 56, 57, 58, 63, 64, 65, 66, 67, 68, 69, 70, 71, 72, 73, 74, 75, 76, 77] (by decide +kernel) (by decide +kernel)
set_option maxRecDepth 20000 in
theorem gX9_bestNow_X9_goHours : GoodIn wsX9_bestNow (wsV RX9 95 RX9 yX9_goHours wsX9_goHours) := goodIn_app (goodIn_of _ (by decide +kernel)) ggX9_bestNow_X9_goHours
set_option maxRecDepth 20000 in
theorem ggX9_bestNow_X9_bring : GoodIn wsX9_bestNow wsX9_bring := goodIn_r _ [62, 1, 2, 63, 64, 65, 66, 67, 68, 69, 70, 71, 72, 73, 74, 75, 76, 77] (by decide +kernel) (by decide +kernel)
set_option maxRecDepth 20000 in
theorem gX9_bestNow_X9_bring : GoodIn wsX9_bestNow (wsV RX9 162 RX9 yX9_bring wsX9_bring) := goodIn_app (goodIn_of _ (by decide +kernel)) ggX9_bestNow_X9_bring
theorem dX9_bestNow_0 : decode cX9_bestNow 0 = .ok (.iconst (-1), 1) := by decide +kernel
theorem dX9_bestNow_1 : decode cX9_bestNow 1 = .ok (.istore_n 1, 1) := by decide +kernel
theorem dX9_bestNow_2 : decode cX9_bestNow 2 = .ok (.iconst 0, 1) := by decide +kernel
theorem dX9_bestNow_3 : decode cX9_bestNow 3 = .ok (.istore_n 2, 1) := by decide +kernel
theorem dX9_bestNow_4 : decode cX9_bestNow 4 = .ok (.aload_n 0, 1) := by decide +kernel
theorem dX9_bestNow_5 : decode cX9_bestNow 5 = .ok (.invokevirtual 156, 3) := by decide +kernel
theorem dX9_bestNow_8 : decode cX9_bestNow 8 = .ok (.aload_n 0, 1) := by decide +kernel
theorem dX9_bestNow_9 : decode cX9_bestNow 9 = .ok (.getfield 7, 3) := by decide +kernel
theorem dX9_bestNow_12 : decode cX9_bestNow 12 = .ok (.sipush 145, 3) := by decide +kernel
theorem dX9_bestNow_15 : decode cX9_bestNow 15 = .ok (.iaload, 1) := by decide +kernel
theorem dX9_bestNow_16 : decode cX9_bestNow 16 = .ok (.istore_n 3, 1) := by decide +kernel
theorem dX9_bestNow_17 : decode cX9_bestNow 17 = .ok (.iconst 0, 1) := by decide +kernel
theorem dX9_bestNow_18 : decode cX9_bestNow 18 = .ok (.istore 4, 2) := by decide +kernel
theorem dX9_bestNow_20 : decode cX9_bestNow 20 = .ok (.iload 4, 2) := by decide +kernel
theorem dX9_bestNow_22 : decode cX9_bestNow 22 = .ok (.iload_n 3, 1) := by decide +kernel
theorem dX9_bestNow_23 : decode cX9_bestNow 23 = .ok (.if_icmp .ge 128, 3) := by decide +kernel
theorem dX9_bestNow_26 : decode cX9_bestNow 26 = .ok (.iload 4, 2) := by decide +kernel
theorem dX9_bestNow_28 : decode cX9_bestNow 28 = .ok (.istore 5, 2) := by decide +kernel
theorem dX9_bestNow_30 : decode cX9_bestNow 30 = .ok (.iload 5, 2) := by decide +kernel
theorem dX9_bestNow_32 : decode cX9_bestNow 32 = .ok (.ifCond .le 33, 3) := by decide +kernel
theorem dX9_bestNow_35 : decode cX9_bestNow 35 = .ok (.aload_n 0, 1) := by decide +kernel
theorem dX9_bestNow_36 : decode cX9_bestNow 36 = .ok (.getfield 7, 3) := by decide +kernel
theorem dX9_bestNow_39 : decode cX9_bestNow 39 = .ok (.sipush 146, 3) := by decide +kernel
theorem dX9_bestNow_42 : decode cX9_bestNow 42 = .ok (.iload 5, 2) := by decide +kernel
theorem dX9_bestNow_44 : decode cX9_bestNow 44 = .ok (.iadd, 1) := by decide +kernel
theorem dX9_bestNow_45 : decode cX9_bestNow 45 = .ok (.aload_n 0, 1) := by decide +kernel
theorem dX9_bestNow_46 : decode cX9_bestNow 46 = .ok (.getfield 7, 3) := by decide +kernel
theorem dX9_bestNow_49 : decode cX9_bestNow 49 = .ok (.sipush 146, 3) := by decide +kernel
theorem dX9_bestNow_52 : decode cX9_bestNow 52 = .ok (.iload 5, 2) := by decide +kernel
theorem dX9_bestNow_54 : decode cX9_bestNow 54 = .ok (.iadd, 1) := by decide +kernel
theorem dX9_bestNow_55 : decode cX9_bestNow 55 = .ok (.iconst 1, 1) := by decide +kernel
theorem dX9_bestNow_56 : decode cX9_bestNow 56 = .ok (.isub, 1) := by decide +kernel
theorem dX9_bestNow_57 : decode cX9_bestNow 57 = .ok (.iaload, 1) := by decide +kernel
theorem dX9_bestNow_58 : decode cX9_bestNow 58 = .ok (.iastore, 1) := by decide +kernel
theorem dX9_bestNow_59 : decode cX9_bestNow 59 = .ok (.iinc 5 (-1), 3) := by decide +kernel
theorem dX9_bestNow_62 : decode cX9_bestNow 62 = .ok (.goto (-32), 3) := by decide +kernel
theorem dX9_bestNow_65 : decode cX9_bestNow 65 = .ok (.aload_n 0, 1) := by decide +kernel
theorem dX9_bestNow_66 : decode cX9_bestNow 66 = .ok (.getfield 7, 3) := by decide +kernel
theorem dX9_bestNow_69 : decode cX9_bestNow 69 = .ok (.sipush 146, 3) := by decide +kernel
theorem dX9_bestNow_72 : decode cX9_bestNow 72 = .ok (.aload_n 0, 1) := by decide +kernel
theorem dX9_bestNow_73 : decode cX9_bestNow 73 = .ok (.getfield 13, 3) := by decide +kernel
theorem dX9_bestNow_76 : decode cX9_bestNow 76 = .ok (.sipush 146, 3) := by decide +kernel
theorem dX9_bestNow_79 : decode cX9_bestNow 79 = .ok (.iload 4, 2) := by decide +kernel
theorem dX9_bestNow_81 : decode cX9_bestNow 81 = .ok (.iadd, 1) := by decide +kernel
theorem dX9_bestNow_82 : decode cX9_bestNow 82 = .ok (.iaload, 1) := by decide +kernel
theorem dX9_bestNow_83 : decode cX9_bestNow 83 = .ok (.iastore, 1) := by decide +kernel
theorem dX9_bestNow_84 : decode cX9_bestNow 84 = .ok (.aload_n 0, 1) := by decide +kernel
theorem dX9_bestNow_85 : decode cX9_bestNow 85 = .ok (.bipush 48, 2) := by decide +kernel
theorem dX9_bestNow_87 : decode cX9_bestNow 87 = .ok (.invokevirtual 95, 3) := by decide +kernel
theorem dX9_bestNow_90 : decode cX9_bestNow 90 = .ok (.istore 5, 2) := by decide +kernel
theorem dX9_bestNow_92 : decode cX9_bestNow 92 = .ok (.iload_n 1, 1) := by decide +kernel
theorem dX9_bestNow_93 : decode cX9_bestNow 93 = .ok (.iconst (-1), 1) := by decide +kernel
theorem dX9_bestNow_94 : decode cX9_bestNow 94 = .ok (.if_icmp .eq 9, 3) := by decide +kernel
theorem dX9_bestNow_97 : decode cX9_bestNow 97 = .ok (.iload 5, 2) := by decide +kernel
theorem dX9_bestNow_99 : decode cX9_bestNow 99 = .ok (.iload_n 2, 1) := by decide +kernel
theorem dX9_bestNow_100 : decode cX9_bestNow 100 = .ok (.if_icmp .ge 17, 3) := by decide +kernel
theorem dX9_bestNow_103 : decode cX9_bestNow 103 = .ok (.aload_n 0, 1) := by decide +kernel
theorem dX9_bestNow_104 : decode cX9_bestNow 104 = .ok (.getfield 13, 3) := by decide +kernel
theorem dX9_bestNow_107 : decode cX9_bestNow 107 = .ok (.sipush 146, 3) := by decide +kernel
theorem dX9_bestNow_110 : decode cX9_bestNow 110 = .ok (.iload 4, 2) := by decide +kernel
theorem dX9_bestNow_112 : decode cX9_bestNow 112 = .ok (.iadd, 1) := by decide +kernel
theorem dX9_bestNow_113 : decode cX9_bestNow 113 = .ok (.iaload, 1) := by decide +kernel
theorem dX9_bestNow_114 : decode cX9_bestNow 114 = .ok (.goto 4, 3) := by decide +kernel
theorem dX9_bestNow_117 : decode cX9_bestNow 117 = .ok (.iload_n 1, 1) := by decide +kernel
theorem dX9_bestNow_118 : decode cX9_bestNow 118 = .ok (.istore_n 1, 1) := by decide +kernel
theorem dX9_bestNow_119 : decode cX9_bestNow 119 = .ok (.iload_n 1, 1) := by decide +kernel
theorem dX9_bestNow_120 : decode cX9_bestNow 120 = .ok (.aload_n 0, 1) := by decide +kernel
theorem dX9_bestNow_121 : decode cX9_bestNow 121 = .ok (.getfield 13, 3) := by decide +kernel
theorem dX9_bestNow_124 : decode cX9_bestNow 124 = .ok (.sipush 146, 3) := by decide +kernel
theorem dX9_bestNow_127 : decode cX9_bestNow 127 = .ok (.iload 4, 2) := by decide +kernel
theorem dX9_bestNow_129 : decode cX9_bestNow 129 = .ok (.iadd, 1) := by decide +kernel
theorem dX9_bestNow_130 : decode cX9_bestNow 130 = .ok (.iaload, 1) := by decide +kernel
theorem dX9_bestNow_131 : decode cX9_bestNow 131 = .ok (.if_icmp .ne 8, 3) := by decide +kernel
theorem dX9_bestNow_134 : decode cX9_bestNow 134 = .ok (.iload 5, 2) := by decide +kernel
theorem dX9_bestNow_136 : decode cX9_bestNow 136 = .ok (.goto 4, 3) := by decide +kernel
theorem dX9_bestNow_139 : decode cX9_bestNow 139 = .ok (.iload_n 2, 1) := by decide +kernel
theorem dX9_bestNow_140 : decode cX9_bestNow 140 = .ok (.istore_n 2, 1) := by decide +kernel
theorem dX9_bestNow_141 : decode cX9_bestNow 141 = .ok (.aload_n 0, 1) := by decide +kernel
theorem dX9_bestNow_142 : decode cX9_bestNow 142 = .ok (.invokevirtual 162, 3) := by decide +kernel
theorem dX9_bestNow_145 : decode cX9_bestNow 145 = .ok (.iinc 4 1, 3) := by decide +kernel
theorem dX9_bestNow_148 : decode cX9_bestNow 148 = .ok (.goto (-128), 3) := by decide +kernel
theorem dX9_bestNow_151 : decode cX9_bestNow 151 = .ok (.iload_n 1, 1) := by decide +kernel
theorem dX9_bestNow_152 : decode cX9_bestNow 152 = .ok (.ireturn, 1) := by decide +kernel
set_option maxRecDepth 20000 in
theorem ggX9_bestFirst_X9_bestNow : GoodIn wsX9_bestFirst wsX9_bestNow := goodIn_r _ [6, 7, 8, 9, 10, 11, 5, 12, 13, 14, 15, 16, 17, 18, 19, 20, 21, 22, 23, 24, 25, 26, 27, 28, 29, 30, 31, 32, 33, 34, 35, 36, 37, 38, 39, 40, 41, 42, 43, 44, 45, 46, 47, 48, 49, 50, 51, 52, 53, 54, 55, 56, 57, 58, 59, 60, 61, 62, 63, 64, 65, 66, 67, 68, 69, 70, 71, 72, 73, 74, 75, 76, 77, 78, 79, 80, 81, 82] (by decide +kernel) (by decide +kernel)
set_option maxRecDepth 20000 in
theorem gX9_bestFirst_X9_bestNow : GoodIn wsX9_bestFirst (wsV RX9 168 RX9 yX9_bestNow wsX9_bestNow) := goodIn_app (goodIn_of _ (by decide +kernel)) ggX9_bestFirst_X9_bestNow
theorem dX9_bestFirst_0 : decode cX9_bestFirst 0 = .ok (.aload_n 0, 1) := by decide +kernel
theorem dX9_bestFirst_1 : decode cX9_bestFirst 1 = .ok (.iconst 0, 1) := by decide +kernel
theorem dX9_bestFirst_2 : decode cX9_bestFirst 2 = .ok (.putfield 28, 3) := by decide +kernel
theorem dX9_bestFirst_5 : decode cX9_bestFirst 5 = .ok (.aload_n 0, 1) := by decide +kernel
theorem dX9_bestFirst_6 : decode cX9_bestFirst 6 = .ok (.invokevirtual 168, 3) := by decide +kernel
theorem dX9_bestFirst_9 : decode cX9_bestFirst 9 = .ok (.ireturn, 1) := by decide +kernel
set_option maxRecDepth 20000 in
theorem ggX9_windowOf_X9_windAt : GoodIn wsX9_windowOf wsX9_windAt := goodIn_r _ [6, 1, 11, 12, 13, 14, 15, 16, 17, 18, 19, 20, 21, 22, 23, 24, 25] (by decide +kernel) (by decide +kernel)
set_option maxRecDepth 20000 in
theorem gX9_windowOf_X9_windAt : GoodIn wsX9_windowOf (wsV RX9 60 RX9 yX9_windAt wsX9_windAt) := goodIn_app (goodIn_of _ (by decide +kernel)) ggX9_windowOf_X9_windAt
set_option maxRecDepth 20000 in
theorem ggX9_windowOf_X9_limitOf : GoodIn wsX9_windowOf wsX9_limitOf := goodIn_r _ [10, 1, 11, 12, 13, 14, 15, 16, 17, 18, 19, 20, 21, 22, 23, 24, 25] (by decide +kernel) (by decide +kernel)
set_option maxRecDepth 20000 in
theorem gX9_windowOf_X9_limitOf : GoodIn wsX9_windowOf (wsV RX9 47 RX9 yX9_limitOf wsX9_limitOf) := goodIn_app (goodIn_of _ (by decide +kernel)) ggX9_windowOf_X9_limitOf
theorem dX9_windowOf_0 : decode cX9_windowOf 0 = .ok (.iconst 0, 1) := by decide +kernel
theorem dX9_windowOf_1 : decode cX9_windowOf 1 = .ok (.istore_n 3, 1) := by decide +kernel
theorem dX9_windowOf_2 : decode cX9_windowOf 2 = .ok (.iconst 0, 1) := by decide +kernel
theorem dX9_windowOf_3 : decode cX9_windowOf 3 = .ok (.istore 4, 2) := by decide +kernel
theorem dX9_windowOf_5 : decode cX9_windowOf 5 = .ok (.iload 4, 2) := by decide +kernel
theorem dX9_windowOf_7 : decode cX9_windowOf 7 = .ok (.bipush 96, 2) := by decide +kernel
theorem dX9_windowOf_9 : decode cX9_windowOf 9 = .ok (.iload_n 2, 1) := by decide +kernel
theorem dX9_windowOf_10 : decode cX9_windowOf 10 = .ok (.iadd, 1) := by decide +kernel
theorem dX9_windowOf_11 : decode cX9_windowOf 11 = .ok (.if_icmp .ge 52, 3) := by decide +kernel
theorem dX9_windowOf_14 : decode cX9_windowOf 14 = .ok (.aload_n 0, 1) := by decide +kernel
theorem dX9_windowOf_15 : decode cX9_windowOf 15 = .ok (.aload_n 0, 1) := by decide +kernel
theorem dX9_windowOf_16 : decode cX9_windowOf 16 = .ok (.getfield 7, 3) := by decide +kernel
theorem dX9_windowOf_19 : decode cX9_windowOf 19 = .ok (.sipush 182, 3) := by decide +kernel
theorem dX9_windowOf_22 : decode cX9_windowOf 22 = .ok (.iaload, 1) := by decide +kernel
theorem dX9_windowOf_23 : decode cX9_windowOf 23 = .ok (.iload 4, 2) := by decide +kernel
theorem dX9_windowOf_25 : decode cX9_windowOf 25 = .ok (.iadd, 1) := by decide +kernel
theorem dX9_windowOf_26 : decode cX9_windowOf 26 = .ok (.invokevirtual 60, 3) := by decide +kernel
theorem dX9_windowOf_29 : decode cX9_windowOf 29 = .ok (.aload_n 0, 1) := by decide +kernel
theorem dX9_windowOf_30 : decode cX9_windowOf 30 = .ok (.iload_n 1, 1) := by decide +kernel
theorem dX9_windowOf_31 : decode cX9_windowOf 31 = .ok (.invokevirtual 47, 3) := by decide +kernel
theorem dX9_windowOf_34 : decode cX9_windowOf 34 = .ok (.if_icmp .gt 9, 3) := by decide +kernel
theorem dX9_windowOf_37 : decode cX9_windowOf 37 = .ok (.iload_n 3, 1) := by decide +kernel
theorem dX9_windowOf_38 : decode cX9_windowOf 38 = .ok (.iconst 1, 1) := by decide +kernel
theorem dX9_windowOf_39 : decode cX9_windowOf 39 = .ok (.iadd, 1) := by decide +kernel
theorem dX9_windowOf_40 : decode cX9_windowOf 40 = .ok (.goto 4, 3) := by decide +kernel
theorem dX9_windowOf_43 : decode cX9_windowOf 43 = .ok (.iconst 0, 1) := by decide +kernel
theorem dX9_windowOf_44 : decode cX9_windowOf 44 = .ok (.istore_n 3, 1) := by decide +kernel
theorem dX9_windowOf_45 : decode cX9_windowOf 45 = .ok (.iload_n 3, 1) := by decide +kernel
theorem dX9_windowOf_46 : decode cX9_windowOf 46 = .ok (.iload_n 2, 1) := by decide +kernel
theorem dX9_windowOf_47 : decode cX9_windowOf 47 = .ok (.if_icmp .lt 10, 3) := by decide +kernel
theorem dX9_windowOf_50 : decode cX9_windowOf 50 = .ok (.iload 4, 2) := by decide +kernel
theorem dX9_windowOf_52 : decode cX9_windowOf 52 = .ok (.iload_n 2, 1) := by decide +kernel
theorem dX9_windowOf_53 : decode cX9_windowOf 53 = .ok (.isub, 1) := by decide +kernel
theorem dX9_windowOf_54 : decode cX9_windowOf 54 = .ok (.iconst 1, 1) := by decide +kernel
theorem dX9_windowOf_55 : decode cX9_windowOf 55 = .ok (.iadd, 1) := by decide +kernel
theorem dX9_windowOf_56 : decode cX9_windowOf 56 = .ok (.ireturn, 1) := by decide +kernel
theorem dX9_windowOf_57 : decode cX9_windowOf 57 = .ok (.iinc 4 1, 3) := by decide +kernel
theorem dX9_windowOf_60 : decode cX9_windowOf 60 = .ok (.goto (-55), 3) := by decide +kernel
theorem dX9_windowOf_63 : decode cX9_windowOf 63 = .ok (.iconst (-1), 1) := by decide +kernel
theorem dX9_windowOf_64 : decode cX9_windowOf 64 = .ok (.ireturn, 1) := by decide +kernel
set_option maxRecDepth 20000 in
theorem ggX9_window_X9_isTurbine : GoodIn wsX9_window wsX9_isTurbine := goodIn_r _ [6, 7, 8, 9, 5, 10, 27, 28, 29, 30, 31, 32, 33, 34, 35, 36, 37, 38, 39, 40, 41] (by decide +kernel) (by decide +kernel)
set_option maxRecDepth 20000 in
theorem gX9_window_X9_isTurbine : GoodIn wsX9_window (wsV RX9 82 RX9 yX9_isTurbine wsX9_isTurbine) := goodIn_app (goodIn_of _ (by decide +kernel)) ggX9_window_X9_isTurbine
set_option maxRecDepth 20000 in
theorem ggX9_window_X9_fails : GoodIn wsX9_window wsX9_fails := goodIn_r _ [14, 1, 27, 28, 29, 30, 31, 32, 33, 34, 35, 36, 37, 38, 39, 40, 41] (by decide +kernel) (by decide +kernel)
set_option maxRecDepth 20000 in
theorem gX9_window_X9_fails : GoodIn wsX9_window (wsV RX9 76 RX9 yX9_fails wsX9_fails) := goodIn_app (goodIn_of _ (by decide +kernel)) ggX9_window_X9_fails
set_option maxRecDepth 20000 in
theorem ggX9_window_X9_within : GoodIn wsX9_window wsX9_within := goodIn_r _ [10] (by decide +kernel) (by decide +kernel)
set_option maxRecDepth 20000 in
theorem gX9_window_X9_within : GoodIn wsX9_window (va_wsS RX9 32 yX9_within wsX9_within) := goodIn_app (goodIn_of _ (by decide +kernel)) ggX9_window_X9_within
set_option maxRecDepth 20000 in
theorem ggX9_window_X9_windowOf : GoodIn wsX9_window wsX9_windowOf := goodIn_r _ [18, 7, 19, 20, 21, 5, 22, 23, 24, 25, 26, 27, 28, 29, 30, 31, 32, 33, 34, 35, 36, 37, 38, 39, 40, 41] (by decide +kernel) (by decide +kernel)
set_option maxRecDepth 20000 in
theorem gX9_window_X9_windowOf : GoodIn wsX9_window (wsV RX9 171 RX9 yX9_windowOf wsX9_windowOf) := goodIn_app (goodIn_of _ (by decide +kernel)) ggX9_window_X9_windowOf
theorem dX9_window_0 : decode cX9_window 0 = .ok (.aload_n 0, 1) := by decide +kernel
theorem dX9_window_1 : decode cX9_window 1 = .ok (.iconst 0, 1) := by decide +kernel
theorem dX9_window_2 : decode cX9_window 2 = .ok (.putfield 28, 3) := by decide +kernel
theorem dX9_window_5 : decode cX9_window 5 = .ok (.aload_n 0, 1) := by decide +kernel
theorem dX9_window_6 : decode cX9_window 6 = .ok (.iload_n 1, 1) := by decide +kernel
theorem dX9_window_7 : decode cX9_window 7 = .ok (.invokevirtual 82, 3) := by decide +kernel
theorem dX9_window_10 : decode cX9_window 10 = .ok (.ifCond .ne 9, 3) := by decide +kernel
theorem dX9_window_13 : decode cX9_window 13 = .ok (.aload_n 0, 1) := by decide +kernel
theorem dX9_window_14 : decode cX9_window 14 = .ok (.iconst 1, 1) := by decide +kernel
theorem dX9_window_15 : decode cX9_window 15 = .ok (.invokevirtual 76, 3) := by decide +kernel
theorem dX9_window_18 : decode cX9_window 18 = .ok (.ireturn, 1) := by decide +kernel
theorem dX9_window_19 : decode cX9_window 19 = .ok (.iload_n 2, 1) := by decide +kernel
theorem dX9_window_20 : decode cX9_window 20 = .ok (.iconst 1, 1) := by decide +kernel
theorem dX9_window_21 : decode cX9_window 21 = .ok (.bipush 24, 2) := by decide +kernel
theorem dX9_window_23 : decode cX9_window 23 = .ok (.invokestatic 32, 3) := by decide +kernel
theorem dX9_window_26 : decode cX9_window 26 = .ok (.ifCond .eq 12, 3) := by decide +kernel
theorem dX9_window_29 : decode cX9_window 29 = .ok (.aload_n 0, 1) := by decide +kernel
theorem dX9_window_30 : decode cX9_window 30 = .ok (.iload_n 1, 1) := by decide +kernel
theorem dX9_window_31 : decode cX9_window 31 = .ok (.iload_n 2, 1) := by decide +kernel
theorem dX9_window_32 : decode cX9_window 32 = .ok (.invokevirtual 171, 3) := by decide +kernel
theorem dX9_window_35 : decode cX9_window 35 = .ok (.goto 8, 3) := by decide +kernel
theorem dX9_window_38 : decode cX9_window 38 = .ok (.aload_n 0, 1) := by decide +kernel
theorem dX9_window_39 : decode cX9_window 39 = .ok (.iconst 2, 1) := by decide +kernel
theorem dX9_window_40 : decode cX9_window 40 = .ok (.invokevirtual 76, 3) := by decide +kernel
theorem dX9_window_43 : decode cX9_window 43 = .ok (.ireturn, 1) := by decide +kernel
set_option maxRecDepth 20000 in
theorem ggX9_doneNow_X9_keep : GoodIn wsX9_doneNow wsX9_keep := goodIn_r _ [6, 7, 1, 59, 60, 61, 62, 63, 64, 65, 66, 67, 68, 69, 70, 71, 72, 73] (by decide +kernel) (by decide +kernel)
set_option maxRecDepth 20000 in
theorem gX9_doneNow_X9_keep : GoodIn wsX9_doneNow (wsV RX9 156 RX9 yX9_keep wsX9_keep) := goodIn_app (goodIn_of _ (by decide +kernel)) ggX9_doneNow_X9_keep
set_option maxRecDepth 20000 in
theorem ggX9_doneNow_X9_goHour : GoodIn wsX9_doneNow wsX9_goHour := goodIn_r _ [11, 1, 12, 13, 14, 5, 15, 16, 17, 18, 19, 20, 21, 22, 23, 24, 25, 26, 27, 28, 29, 30, 31, 32, 33, 34, 35, 36, 37, 38, 39, 40, 41, 42, 43, 44, 45, 46, 47, 48, 49, 50, 51, 52, 53, 54, 59, 60, 61, 62, 63, 64, 65, 66, 67, 68, 69, 70, 71, 72, 73] (by decide +kernel) (by decide +kernel)
set_option maxRecDepth 20000 in
theorem gX9_doneNow_X9_goHour : GoodIn wsX9_doneNow (wsV RX9 72 RX9 yX9_goHour wsX9_goHour) := goodIn_app (goodIn_of _ (by decide +kernel)) ggX9_doneNow_X9_goHour
set_option maxRecDepth 20000 in
theorem ggX9_doneNow_X9_bring : GoodIn wsX9_doneNow wsX9_bring := goodIn_r _ [58, 1, 7, 59, 60, 61, 62, 63, 64, 65, 66, 67, 68, 69, 70, 71, 72, 73] (by decide +kernel) (by decide +kernel)
set_option maxRecDepth 20000 in
theorem gX9_doneNow_X9_bring : GoodIn wsX9_doneNow (wsV RX9 162 RX9 yX9_bring wsX9_bring) := goodIn_app (goodIn_of _ (by decide +kernel)) ggX9_doneNow_X9_bring
theorem dX9_doneNow_0 : decode cX9_doneNow 0 = .ok (.aload_n 0, 1) := by decide +kernel
theorem dX9_doneNow_1 : decode cX9_doneNow 1 = .ok (.invokevirtual 156, 3) := by decide +kernel
theorem dX9_doneNow_4 : decode cX9_doneNow 4 = .ok (.iconst 0, 1) := by decide +kernel
theorem dX9_doneNow_5 : decode cX9_doneNow 5 = .ok (.istore_n 1, 1) := by decide +kernel
theorem dX9_doneNow_6 : decode cX9_doneNow 6 = .ok (.iload_n 1, 1) := by decide +kernel
theorem dX9_doneNow_7 : decode cX9_doneNow 7 = .ok (.sipush 501, 3) := by decide +kernel
theorem dX9_doneNow_10 : decode cX9_doneNow 10 = .ok (.if_icmp .ge 25, 3) := by decide +kernel
theorem dX9_doneNow_13 : decode cX9_doneNow 13 = .ok (.aload_n 0, 1) := by decide +kernel
theorem dX9_doneNow_14 : decode cX9_doneNow 14 = .ok (.getfield 7, 3) := by decide +kernel
theorem dX9_doneNow_17 : decode cX9_doneNow 17 = .ok (.sipush 145, 3) := by decide +kernel
theorem dX9_doneNow_20 : decode cX9_doneNow 20 = .ok (.iaload, 1) := by decide +kernel
theorem dX9_doneNow_21 : decode cX9_doneNow 21 = .ok (.ifCond .le 14, 3) := by decide +kernel
theorem dX9_doneNow_24 : decode cX9_doneNow 24 = .ok (.aload_n 0, 1) := by decide +kernel
theorem dX9_doneNow_25 : decode cX9_doneNow 25 = .ok (.invokevirtual 72, 3) := by decide +kernel
theorem dX9_doneNow_28 : decode cX9_doneNow 28 = .ok (.pop, 1) := by decide +kernel
theorem dX9_doneNow_29 : decode cX9_doneNow 29 = .ok (.iinc 1 1, 3) := by decide +kernel
theorem dX9_doneNow_32 : decode cX9_doneNow 32 = .ok (.goto (-26), 3) := by decide +kernel
theorem dX9_doneNow_35 : decode cX9_doneNow 35 = .ok (.aload_n 0, 1) := by decide +kernel
theorem dX9_doneNow_36 : decode cX9_doneNow 36 = .ok (.invokevirtual 162, 3) := by decide +kernel
theorem dX9_doneNow_39 : decode cX9_doneNow 39 = .ok (.iload_n 1, 1) := by decide +kernel
theorem dX9_doneNow_40 : decode cX9_doneNow 40 = .ok (.sipush 500, 3) := by decide +kernel
theorem dX9_doneNow_43 : decode cX9_doneNow 43 = .ok (.if_icmp .le 7, 3) := by decide +kernel
theorem dX9_doneNow_46 : decode cX9_doneNow 46 = .ok (.iconst (-1), 1) := by decide +kernel
theorem dX9_doneNow_47 : decode cX9_doneNow 47 = .ok (.goto 4, 3) := by decide +kernel
theorem dX9_doneNow_50 : decode cX9_doneNow 50 = .ok (.iload_n 1, 1) := by decide +kernel
theorem dX9_doneNow_51 : decode cX9_doneNow 51 = .ok (.ireturn, 1) := by decide +kernel
set_option maxRecDepth 20000 in
theorem ggX9_doneIn_X9_doneNow : GoodIn wsX9_doneIn wsX9_doneNow := goodIn_r _ [6, 7, 8, 9, 10, 5, 11, 12, 13, 14, 15, 16, 17, 18, 19, 20, 21, 22, 23, 24, 25, 26, 27, 28, 29, 30, 31, 32, 33, 34, 35, 36, 37, 38, 39, 40, 41, 42, 43, 44, 45, 46, 47, 48, 49, 50, 51, 52, 53, 54, 55, 56, 57, 58, 59, 60, 61, 62, 63, 64, 65, 66, 67, 68, 69, 70, 71, 72, 73, 74, 75, 76, 77, 78] (by decide +kernel) (by decide +kernel)
set_option maxRecDepth 20000 in
theorem gX9_doneIn_X9_doneNow : GoodIn wsX9_doneIn (wsV RX9 174 RX9 yX9_doneNow wsX9_doneNow) := goodIn_app (goodIn_of _ (by decide +kernel)) ggX9_doneIn_X9_doneNow
theorem dX9_doneIn_0 : decode cX9_doneIn 0 = .ok (.aload_n 0, 1) := by decide +kernel
theorem dX9_doneIn_1 : decode cX9_doneIn 1 = .ok (.iconst 0, 1) := by decide +kernel
theorem dX9_doneIn_2 : decode cX9_doneIn 2 = .ok (.putfield 28, 3) := by decide +kernel
theorem dX9_doneIn_5 : decode cX9_doneIn 5 = .ok (.aload_n 0, 1) := by decide +kernel
theorem dX9_doneIn_6 : decode cX9_doneIn 6 = .ok (.invokevirtual 174, 3) := by decide +kernel
theorem dX9_doneIn_9 : decode cX9_doneIn 9 = .ok (.ireturn, 1) := by decide +kernel
theorem dX9_meanNow_0 : decode cX9_meanNow 0 = .ok (.iconst 0, 1) := by decide +kernel
theorem dX9_meanNow_1 : decode cX9_meanNow 1 = .ok (.istore_n 1, 1) := by decide +kernel
theorem dX9_meanNow_2 : decode cX9_meanNow 2 = .ok (.iconst 0, 1) := by decide +kernel
theorem dX9_meanNow_3 : decode cX9_meanNow 3 = .ok (.istore_n 2, 1) := by decide +kernel
theorem dX9_meanNow_4 : decode cX9_meanNow 4 = .ok (.iload_n 2, 1) := by decide +kernel
theorem dX9_meanNow_5 : decode cX9_meanNow 5 = .ok (.aload_n 0, 1) := by decide +kernel
theorem dX9_meanNow_6 : decode cX9_meanNow 6 = .ok (.getfield 7, 3) := by decide +kernel
theorem dX9_meanNow_9 : decode cX9_meanNow 9 = .ok (.bipush 78, 2) := by decide +kernel
theorem dX9_meanNow_11 : decode cX9_meanNow 11 = .ok (.iaload, 1) := by decide +kernel
theorem dX9_meanNow_12 : decode cX9_meanNow 12 = .ok (.if_icmp .ge 21, 3) := by decide +kernel
theorem dX9_meanNow_15 : decode cX9_meanNow 15 = .ok (.iload_n 1, 1) := by decide +kernel
theorem dX9_meanNow_16 : decode cX9_meanNow 16 = .ok (.aload_n 0, 1) := by decide +kernel
theorem dX9_meanNow_17 : decode cX9_meanNow 17 = .ok (.getfield 7, 3) := by decide +kernel
theorem dX9_meanNow_20 : decode cX9_meanNow 20 = .ok (.bipush 79, 2) := by decide +kernel
theorem dX9_meanNow_22 : decode cX9_meanNow 22 = .ok (.iload_n 2, 1) := by decide +kernel
theorem dX9_meanNow_23 : decode cX9_meanNow 23 = .ok (.iadd, 1) := by decide +kernel
theorem dX9_meanNow_24 : decode cX9_meanNow 24 = .ok (.iaload, 1) := by decide +kernel
theorem dX9_meanNow_25 : decode cX9_meanNow 25 = .ok (.iadd, 1) := by decide +kernel
theorem dX9_meanNow_26 : decode cX9_meanNow 26 = .ok (.istore_n 1, 1) := by decide +kernel
theorem dX9_meanNow_27 : decode cX9_meanNow 27 = .ok (.iinc 2 1, 3) := by decide +kernel
theorem dX9_meanNow_30 : decode cX9_meanNow 30 = .ok (.goto (-26), 3) := by decide +kernel
theorem dX9_meanNow_33 : decode cX9_meanNow 33 = .ok (.aload_n 0, 1) := by decide +kernel
theorem dX9_meanNow_34 : decode cX9_meanNow 34 = .ok (.getfield 7, 3) := by decide +kernel
theorem dX9_meanNow_37 : decode cX9_meanNow 37 = .ok (.bipush 78, 2) := by decide +kernel
theorem dX9_meanNow_39 : decode cX9_meanNow 39 = .ok (.iaload, 1) := by decide +kernel
theorem dX9_meanNow_40 : decode cX9_meanNow 40 = .ok (.ifCond .ne 8, 3) := by decide +kernel
theorem dX9_meanNow_43 : decode cX9_meanNow 43 = .ok (.ldc 177, 2) := by decide +kernel
theorem dX9_meanNow_45 : decode cX9_meanNow 45 = .ok (.goto 14, 3) := by decide +kernel
theorem dX9_meanNow_48 : decode cX9_meanNow 48 = .ok (.iload_n 1, 1) := by decide +kernel
theorem dX9_meanNow_49 : decode cX9_meanNow 49 = .ok (.i2f, 1) := by decide +kernel
theorem dX9_meanNow_50 : decode cX9_meanNow 50 = .ok (.aload_n 0, 1) := by decide +kernel
theorem dX9_meanNow_51 : decode cX9_meanNow 51 = .ok (.getfield 7, 3) := by decide +kernel
theorem dX9_meanNow_54 : decode cX9_meanNow 54 = .ok (.bipush 78, 2) := by decide +kernel
theorem dX9_meanNow_56 : decode cX9_meanNow 56 = .ok (.iaload, 1) := by decide +kernel
theorem dX9_meanNow_57 : decode cX9_meanNow 57 = .ok (.i2f, 1) := by decide +kernel
theorem dX9_meanNow_58 : decode cX9_meanNow 58 = .ok (.fdiv, 1) := by decide +kernel
theorem dX9_meanNow_59 : decode cX9_meanNow 59 = .ok (.freturn, 1) := by decide +kernel
set_option maxRecDepth 20000 in
theorem ggX9_meanWind_X9_meanNow : GoodIn wsX9_meanWind wsX9_meanNow := goodIn_r _ [6, 7, 8, 9, 10, 11, 12, 13, 14, 15, 16, 17, 18, 19, 20, 21, 22, 23] (by decide +kernel) (by decide +kernel)
set_option maxRecDepth 20000 in
theorem gX9_meanWind_X9_meanNow : GoodIn wsX9_meanWind (wsV RX9 178 RX9 yX9_meanNow wsX9_meanNow) := goodIn_app (goodIn_of _ (by decide +kernel)) ggX9_meanWind_X9_meanNow
theorem dX9_meanWind_0 : decode cX9_meanWind 0 = .ok (.aload_n 0, 1) := by decide +kernel
theorem dX9_meanWind_1 : decode cX9_meanWind 1 = .ok (.iconst 0, 1) := by decide +kernel
theorem dX9_meanWind_2 : decode cX9_meanWind 2 = .ok (.putfield 28, 3) := by decide +kernel
theorem dX9_meanWind_5 : decode cX9_meanWind 5 = .ok (.aload_n 0, 1) := by decide +kernel
theorem dX9_meanWind_6 : decode cX9_meanWind 6 = .ok (.invokevirtual 178, 3) := by decide +kernel
theorem dX9_meanWind_9 : decode cX9_meanWind 9 = .ok (.freturn, 1) := by decide +kernel
set_option maxRecDepth 20000 in
theorem ggX9_shareNow_X9_sum : GoodIn wsX9_shareNow wsX9_sum := goodIn_r _ [5, 6, 7, 8, 9, 10, 11, 12, 13, 14, 15, 16, 17, 18, 19, 20, 21] (by decide +kernel) (by decide +kernel)
set_option maxRecDepth 20000 in
theorem gX9_shareNow_X9_sum : GoodIn wsX9_shareNow (wsV RX9 150 RX9 yX9_sum wsX9_sum) := goodIn_app (goodIn_of _ (by decide +kernel)) ggX9_shareNow_X9_sum
theorem dX9_shareNow_0 : decode cX9_shareNow 0 = .ok (.aload_n 0, 1) := by decide +kernel
theorem dX9_shareNow_1 : decode cX9_shareNow 1 = .ok (.bipush 50, 2) := by decide +kernel
theorem dX9_shareNow_3 : decode cX9_shareNow 3 = .ok (.invokevirtual 150, 3) := by decide +kernel
theorem dX9_shareNow_6 : decode cX9_shareNow 6 = .ok (.istore_n 1, 1) := by decide +kernel
theorem dX9_shareNow_7 : decode cX9_shareNow 7 = .ok (.aload_n 0, 1) := by decide +kernel
theorem dX9_shareNow_8 : decode cX9_shareNow 8 = .ok (.bipush 60, 2) := by decide +kernel
theorem dX9_shareNow_10 : decode cX9_shareNow 10 = .ok (.invokevirtual 150, 3) := by decide +kernel
theorem dX9_shareNow_13 : decode cX9_shareNow 13 = .ok (.istore_n 2, 1) := by decide +kernel
theorem dX9_shareNow_14 : decode cX9_shareNow 14 = .ok (.iload_n 1, 1) := by decide +kernel
theorem dX9_shareNow_15 : decode cX9_shareNow 15 = .ok (.iload_n 2, 1) := by decide +kernel
theorem dX9_shareNow_16 : decode cX9_shareNow 16 = .ok (.iadd, 1) := by decide +kernel
theorem dX9_shareNow_17 : decode cX9_shareNow 17 = .ok (.ifCond .ne 7, 3) := by decide +kernel
theorem dX9_shareNow_20 : decode cX9_shareNow 20 = .ok (.dconst 0, 1) := by decide +kernel
theorem dX9_shareNow_21 : decode cX9_shareNow 21 = .ok (.goto 10, 3) := by decide +kernel
theorem dX9_shareNow_24 : decode cX9_shareNow 24 = .ok (.iload_n 1, 1) := by decide +kernel
theorem dX9_shareNow_25 : decode cX9_shareNow 25 = .ok (.i2d, 1) := by decide +kernel
theorem dX9_shareNow_26 : decode cX9_shareNow 26 = .ok (.iload_n 1, 1) := by decide +kernel
theorem dX9_shareNow_27 : decode cX9_shareNow 27 = .ok (.iload_n 2, 1) := by decide +kernel
theorem dX9_shareNow_28 : decode cX9_shareNow 28 = .ok (.iadd, 1) := by decide +kernel
theorem dX9_shareNow_29 : decode cX9_shareNow 29 = .ok (.i2d, 1) := by decide +kernel
theorem dX9_shareNow_30 : decode cX9_shareNow 30 = .ok (.ddiv, 1) := by decide +kernel
theorem dX9_shareNow_31 : decode cX9_shareNow 31 = .ok (.dreturn, 1) := by decide +kernel
set_option maxRecDepth 20000 in
theorem ggX9_lostShare_X9_shareNow : GoodIn wsX9_lostShare wsX9_shareNow := goodIn_r _ [6, 7, 8, 9, 5, 10, 11, 12, 13, 14, 15, 16, 17, 18, 19, 20, 21, 22, 23, 24, 25, 26] (by decide +kernel) (by decide +kernel)
set_option maxRecDepth 20000 in
theorem gX9_lostShare_X9_shareNow : GoodIn wsX9_lostShare (wsV RX9 182 RX9 yX9_shareNow wsX9_shareNow) := goodIn_app (goodIn_of _ (by decide +kernel)) ggX9_lostShare_X9_shareNow
theorem dX9_lostShare_0 : decode cX9_lostShare 0 = .ok (.aload_n 0, 1) := by decide +kernel
theorem dX9_lostShare_1 : decode cX9_lostShare 1 = .ok (.iconst 0, 1) := by decide +kernel
theorem dX9_lostShare_2 : decode cX9_lostShare 2 = .ok (.putfield 28, 3) := by decide +kernel
theorem dX9_lostShare_5 : decode cX9_lostShare 5 = .ok (.aload_n 0, 1) := by decide +kernel
theorem dX9_lostShare_6 : decode cX9_lostShare 6 = .ok (.invokevirtual 182, 3) := by decide +kernel
theorem dX9_lostShare_9 : decode cX9_lostShare 9 = .ok (.dreturn, 1) := by decide +kernel
theorem dX9_mix_0 : decode cX9_mix 0 = .ok (.aload_n 0, 1) := by decide +kernel
theorem dX9_mix_1 : decode cX9_mix 1 = .ok (.ldc2_w 186, 3) := by decide +kernel
theorem dX9_mix_4 : decode cX9_mix 4 = .ok (.aload_n 0, 1) := by decide +kernel
theorem dX9_mix_5 : decode cX9_mix 5 = .ok (.getfield 188, 3) := by decide +kernel
theorem dX9_mix_8 : decode cX9_mix 8 = .ok (.lmul, 1) := by decide +kernel
theorem dX9_mix_9 : decode cX9_mix 9 = .ok (.lload_n 1, 1) := by decide +kernel
theorem dX9_mix_10 : decode cX9_mix 10 = .ok (.ladd, 1) := by decide +kernel
theorem dX9_mix_11 : decode cX9_mix 11 = .ok (.putfield 188, 3) := by decide +kernel
theorem dX9_mix_14 : decode cX9_mix 14 = .ok (.return_, 1) := by decide +kernel
set_option maxRecDepth 20000 in
theorem ggX9_digest_X9_counted : GoodIn wsX9_digest wsX9_counted := goodIn_r _ [11, 4, 12, 13, 14, 15, 10, 16, 17, 18, 19, 20, 21, 22, 23, 24, 151, 152, 153, 154, 155, 156, 157, 158, 159, 160, 161, 162, 163, 164, 165] (by decide +kernel) (by decide +kernel)
set_option maxRecDepth 20000 in
theorem gX9_digest_X9_counted : GoodIn wsX9_digest (wsV RX9 153 RX9 yX9_counted wsX9_counted) := goodIn_app (goodIn_of _ (by decide +kernel)) ggX9_digest_X9_counted
set_option maxRecDepth 20000 in
theorem ggX9_digest_X9_mix : GoodIn wsX9_digest wsX9_mix := goodIn_r _ [28, 29, 3, 151, 152, 153, 154, 155, 156, 157, 158, 159, 160, 161, 162, 163, 164, 165] (by decide +kernel) (by decide +kernel)
set_option maxRecDepth 20000 in
theorem gX9_digest_X9_mix : GoodIn wsX9_digest (wsV RX9 194 RX9 yX9_mix wsX9_mix) := goodIn_app (goodIn_of _ (by decide +kernel)) ggX9_digest_X9_mix
set_option maxRecDepth 20000 in
theorem ggX9_digest_X9_turbineNow : GoodIn wsX9_digest wsX9_turbineNow := goodIn_r _ [33, 4, 34, 35, 36, 10, 37, 38, 39, 40, 41, 42, 43, 44, 45, 17, 18, 19, 20, 46, 47, 48, 49, 151, 152, 153, 154, 155, 156, 157, 158, 159, 160, 161, 162, 163, 164, 165] (by decide +kernel) (by decide +kernel)
set_option maxRecDepth 20000 in
theorem gX9_digest_X9_turbineNow : GoodIn wsX9_digest (wsV RX9 144 RX9 yX9_turbineNow wsX9_turbineNow) := goodIn_app (goodIn_of _ (by decide +kernel)) ggX9_digest_X9_turbineNow
set_option maxRecDepth 20000 in
theorem ggX9_digest_X9_windowOf : GoodIn wsX9_digest wsX9_windowOf := goodIn_r _ [53, 4, 17, 18, 19, 10, 20, 34, 35, 36, 37, 151, 152, 153, 154, 155, 156, 157, 158, 159, 160, 161, 162, 163, 164, 165] (by decide +kernel) (by decide +kernel)
set_option maxRecDepth 20000 in
theorem gX9_digest_X9_windowOf : GoodIn wsX9_digest (wsV RX9 171 RX9 yX9_windowOf wsX9_windowOf) := goodIn_app (goodIn_of _ (by decide +kernel)) ggX9_digest_X9_windowOf
set_option maxRecDepth 20000 in
theorem ggX9_digest_X9_after : GoodIn wsX9_digest wsX9_after := goodIn_r _ [57, 58, 59, 60, 10, 61, 62, 4, 63, 64, 65, 66, 67, 68, 69, 70, 71, 72, 73, 74, 75, 76, 77, 78, 79, 80, 81, 82, 17, 18, 19, 20, 83, 84, 85, 86, 87, 88, 89, 90, 91, 92, 93, 94, 34, 35, 36, 37, 46, 47, 48, 49, 95, 96, 97, 98, 99, 100, 101, 102, 103, 104, 105, 21, 22, 23, 24, 13, 14, 15, 16, 106, 107, 108, 109, 151, 152, 153, 154, 155, 156, 157, 158, 159, 160, 161, 162, 163, 164, 165] (by decide +kernel) (by decide +kernel)
set_option maxRecDepth 20000 in
theorem gX9_digest_X9_after : GoodIn wsX9_digest (wsV RX9 165 RX9 yX9_after wsX9_after) := goodIn_app (goodIn_of _ (by decide +kernel)) ggX9_digest_X9_after
set_option maxRecDepth 20000 in
theorem ggX9_digest_X9_bestNow : GoodIn wsX9_digest wsX9_bestNow := goodIn_r _ [113, 4, 62, 58, 59, 60, 10, 61, 63, 64, 65, 66, 67, 68, 69, 70, 71, 72, 73, 74, 75, 76, 77, 78, 79, 80, 81, 82, 17, 18, 19, 20, 83, 84, 85, 86, 87, 88, 89, 90, 91, 92, 93, 94, 34, 35, 36, 37, 46, 47, 48, 49, 95, 96, 97, 98, 99, 100, 101, 106, 107, 108, 109, 151, 152, 153, 154, 155, 156, 157, 158, 159, 160, 161, 162, 163, 164, 165] (by decide +kernel) (by decide +kernel)
set_option maxRecDepth 20000 in
theorem gX9_digest_X9_bestNow : GoodIn wsX9_digest (wsV RX9 168 RX9 yX9_bestNow wsX9_bestNow) := goodIn_app (goodIn_of _ (by decide +kernel)) ggX9_digest_X9_bestNow
set_option maxRecDepth 20000 in
theorem ggX9_digest_X9_doneNow : GoodIn wsX9_digest wsX9_doneNow := goodIn_r _ [117, 4, 58, 59, 60, 10, 61, 62, 67, 68, 69, 70, 71, 72, 73, 74, 75, 76, 77, 78, 79, 80, 81, 82, 17, 18, 19, 20, 83, 84, 85, 86, 87, 88, 89, 90, 91, 92, 93, 94, 34, 35, 36, 37, 46, 47, 48, 49, 95, 96, 97, 98, 99, 100, 101, 106, 107, 108, 109, 151, 152, 153, 154, 155, 156, 157, 158, 159, 160, 161, 162, 163, 164, 165] (by decide +kernel) (by decide +kernel)
set_option maxRecDepth 20000 in
theorem gX9_digest_X9_doneNow : GoodIn wsX9_digest (wsV RX9 174 RX9 yX9_doneNow wsX9_doneNow) := goodIn_app (goodIn_of _ (by decide +kernel)) ggX9_digest_X9_doneNow
set_option maxRecDepth 20000 in
theorem ggX9_digest_X9_meanNow : GoodIn wsX9_digest wsX9_meanNow := goodIn_r _ [121, 4, 122, 151, 152, 153, 154, 155, 156, 157, 158, 159, 160, 161, 162, 163, 164, 165] (by decide +kernel) (by decide +kernel)
set_option maxRecDepth 20000 in
theorem gX9_digest_X9_meanNow : GoodIn wsX9_digest (wsV RX9 178 RX9 yX9_meanNow wsX9_meanNow) := goodIn_app (goodIn_of _ (by decide +kernel)) ggX9_digest_X9_meanNow
set_option maxRecDepth 20000 in
theorem ggX9_digest_Jxf58ca_floatToIntBits_5c35a : GoodIn wsX9_digest wsJxf58ca_floatToIntBits_5c35a := goodIn_r _ [126, 127, 128, 129, 130, 131, 132, 133, 125, 134] (by decide +kernel) (by decide +kernel)
set_option maxRecDepth 20000 in
theorem gX9_digest_Jxf58ca_floatToIntBits_5c35a : GoodIn wsX9_digest (va_wsS RX9 198 yJxf58ca_floatToIntBits_5c35a wsJxf58ca_floatToIntBits_5c35a) := goodIn_app (goodIn_of _ (by decide +kernel)) ggX9_digest_Jxf58ca_floatToIntBits_5c35a
set_option maxRecDepth 20000 in
theorem ggX9_digest_X9_shareNow : GoodIn wsX9_digest wsX9_shareNow := goodIn_r _ [138, 21, 22, 23, 10, 24, 4, 151, 152, 153, 154, 155, 156, 157, 158, 159, 160, 161, 162, 163, 164, 165] (by decide +kernel) (by decide +kernel)
set_option maxRecDepth 20000 in
theorem gX9_digest_X9_shareNow : GoodIn wsX9_digest (wsV RX9 182 RX9 yX9_shareNow wsX9_shareNow) := goodIn_app (goodIn_of _ (by decide +kernel)) ggX9_digest_X9_shareNow
set_option maxRecDepth 20000 in
theorem ggX9_digest_Jxe99ae_doubleToLongBits_ccdee : GoodIn wsX9_digest wsJxe99ae_doubleToLongBits_ccdee := goodIn_r _ [142, 143, 144, 145, 146, 147, 148, 149, 141, 150] (by decide +kernel) (by decide +kernel)
set_option maxRecDepth 20000 in
theorem gX9_digest_Jxe99ae_doubleToLongBits_ccdee : GoodIn wsX9_digest (va_wsS RX9 204 yJxe99ae_doubleToLongBits_ccdee wsJxe99ae_doubleToLongBits_ccdee) := goodIn_app (goodIn_of _ (by decide +kernel)) ggX9_digest_Jxe99ae_doubleToLongBits_ccdee
theorem dX9_digest_0 : decode cX9_digest 0 = .ok (.aload_n 0, 1) := by decide +kernel
theorem dX9_digest_1 : decode cX9_digest 1 = .ok (.iconst 0, 1) := by decide +kernel
theorem dX9_digest_2 : decode cX9_digest 2 = .ok (.putfield 28, 3) := by decide +kernel
theorem dX9_digest_5 : decode cX9_digest 5 = .ok (.aload_n 0, 1) := by decide +kernel
theorem dX9_digest_6 : decode cX9_digest 6 = .ok (.ldc2_w 192, 3) := by decide +kernel
theorem dX9_digest_9 : decode cX9_digest 9 = .ok (.putfield 188, 3) := by decide +kernel
theorem dX9_digest_12 : decode cX9_digest 12 = .ok (.iconst 0, 1) := by decide +kernel
theorem dX9_digest_13 : decode cX9_digest 13 = .ok (.istore_n 1, 1) := by decide +kernel
theorem dX9_digest_14 : decode cX9_digest 14 = .ok (.iload_n 1, 1) := by decide +kernel
theorem dX9_digest_15 : decode cX9_digest 15 = .ok (.bipush 15, 2) := by decide +kernel
theorem dX9_digest_17 : decode cX9_digest 17 = .ok (.if_icmp .ge 19, 3) := by decide +kernel
theorem dX9_digest_20 : decode cX9_digest 20 = .ok (.aload_n 0, 1) := by decide +kernel
theorem dX9_digest_21 : decode cX9_digest 21 = .ok (.aload_n 0, 1) := by decide +kernel
theorem dX9_digest_22 : decode cX9_digest 22 = .ok (.iload_n 1, 1) := by decide +kernel
theorem dX9_digest_23 : decode cX9_digest 23 = .ok (.invokevirtual 153, 3) := by decide +kernel
theorem dX9_digest_26 : decode cX9_digest 26 = .ok (.i2l, 1) := by decide +kernel
theorem dX9_digest_27 : decode cX9_digest 27 = .ok (.invokevirtual 194, 3) := by decide +kernel
theorem dX9_digest_30 : decode cX9_digest 30 = .ok (.iinc 1 1, 3) := by decide +kernel
theorem dX9_digest_33 : decode cX9_digest 33 = .ok (.goto (-19), 3) := by decide +kernel
theorem dX9_digest_36 : decode cX9_digest 36 = .ok (.iconst 0, 1) := by decide +kernel
theorem dX9_digest_37 : decode cX9_digest 37 = .ok (.istore_n 1, 1) := by decide +kernel
theorem dX9_digest_38 : decode cX9_digest 38 = .ok (.iload_n 1, 1) := by decide +kernel
theorem dX9_digest_39 : decode cX9_digest 39 = .ok (.bipush 7, 2) := by decide +kernel
theorem dX9_digest_41 : decode cX9_digest 41 = .ok (.if_icmp .ge 23, 3) := by decide +kernel
theorem dX9_digest_44 : decode cX9_digest 44 = .ok (.aload_n 0, 1) := by decide +kernel
theorem dX9_digest_45 : decode cX9_digest 45 = .ok (.aload_n 0, 1) := by decide +kernel
theorem dX9_digest_46 : decode cX9_digest 46 = .ok (.getfield 7, 3) := by decide +kernel
theorem dX9_digest_49 : decode cX9_digest 49 = .ok (.bipush 71, 2) := by decide +kernel
theorem dX9_digest_51 : decode cX9_digest 51 = .ok (.iload_n 1, 1) := by decide +kernel
theorem dX9_digest_52 : decode cX9_digest 52 = .ok (.iadd, 1) := by decide +kernel
theorem dX9_digest_53 : decode cX9_digest 53 = .ok (.iaload, 1) := by decide +kernel
theorem dX9_digest_54 : decode cX9_digest 54 = .ok (.i2l, 1) := by decide +kernel
theorem dX9_digest_55 : decode cX9_digest 55 = .ok (.invokevirtual 194, 3) := by decide +kernel
theorem dX9_digest_58 : decode cX9_digest 58 = .ok (.iinc 1 1, 3) := by decide +kernel
theorem dX9_digest_61 : decode cX9_digest 61 = .ok (.goto (-23), 3) := by decide +kernel
theorem dX9_digest_64 : decode cX9_digest 64 = .ok (.iconst 0, 1) := by decide +kernel
theorem dX9_digest_65 : decode cX9_digest 65 = .ok (.istore_n 1, 1) := by decide +kernel
theorem dX9_digest_66 : decode cX9_digest 66 = .ok (.iload_n 1, 1) := by decide +kernel
theorem dX9_digest_67 : decode cX9_digest 67 = .ok (.aload_n 0, 1) := by decide +kernel
theorem dX9_digest_68 : decode cX9_digest 68 = .ok (.getfield 7, 3) := by decide +kernel
theorem dX9_digest_71 : decode cX9_digest 71 = .ok (.bipush 70, 2) := by decide +kernel
theorem dX9_digest_73 : decode cX9_digest 73 = .ok (.iaload, 1) := by decide +kernel
theorem dX9_digest_74 : decode cX9_digest 74 = .ok (.if_icmp .ge 45, 3) := by decide +kernel
theorem dX9_digest_77 : decode cX9_digest 77 = .ok (.iconst 0, 1) := by decide +kernel
theorem dX9_digest_78 : decode cX9_digest 78 = .ok (.istore_n 2, 1) := by decide +kernel
theorem dX9_digest_79 : decode cX9_digest 79 = .ok (.iload_n 2, 1) := by decide +kernel
theorem dX9_digest_80 : decode cX9_digest 80 = .ok (.bipush 11, 2) := by decide +kernel
theorem dX9_digest_82 : decode cX9_digest 82 = .ok (.if_icmp .ge 20, 3) := by decide +kernel
theorem dX9_digest_85 : decode cX9_digest 85 = .ok (.aload_n 0, 1) := by decide +kernel
theorem dX9_digest_86 : decode cX9_digest 86 = .ok (.aload_n 0, 1) := by decide +kernel
theorem dX9_digest_87 : decode cX9_digest 87 = .ok (.iload_n 1, 1) := by decide +kernel
theorem dX9_digest_88 : decode cX9_digest 88 = .ok (.iload_n 2, 1) := by decide +kernel
theorem dX9_digest_89 : decode cX9_digest 89 = .ok (.invokevirtual 144, 3) := by decide +kernel
theorem dX9_digest_92 : decode cX9_digest 92 = .ok (.i2l, 1) := by decide +kernel
theorem dX9_digest_93 : decode cX9_digest 93 = .ok (.invokevirtual 194, 3) := by decide +kernel
theorem dX9_digest_96 : decode cX9_digest 96 = .ok (.iinc 2 1, 3) := by decide +kernel
theorem dX9_digest_99 : decode cX9_digest 99 = .ok (.goto (-20), 3) := by decide +kernel
theorem dX9_digest_102 : decode cX9_digest 102 = .ok (.aload_n 0, 1) := by decide +kernel
theorem dX9_digest_103 : decode cX9_digest 103 = .ok (.aload_n 0, 1) := by decide +kernel
theorem dX9_digest_104 : decode cX9_digest 104 = .ok (.iload_n 1, 1) := by decide +kernel
theorem dX9_digest_105 : decode cX9_digest 105 = .ok (.iconst 3, 1) := by decide +kernel
theorem dX9_digest_106 : decode cX9_digest 106 = .ok (.invokevirtual 171, 3) := by decide +kernel
theorem dX9_digest_109 : decode cX9_digest 109 = .ok (.i2l, 1) := by decide +kernel
theorem dX9_digest_110 : decode cX9_digest 110 = .ok (.invokevirtual 194, 3) := by decide +kernel
theorem dX9_digest_113 : decode cX9_digest 113 = .ok (.iinc 1 1, 3) := by decide +kernel
theorem dX9_digest_116 : decode cX9_digest 116 = .ok (.goto (-50), 3) := by decide +kernel
theorem dX9_digest_119 : decode cX9_digest 119 = .ok (.iconst 0, 1) := by decide +kernel
theorem dX9_digest_120 : decode cX9_digest 120 = .ok (.istore_n 1, 1) := by decide +kernel
theorem dX9_digest_121 : decode cX9_digest 121 = .ok (.iload_n 1, 1) := by decide +kernel
theorem dX9_digest_122 : decode cX9_digest 122 = .ok (.aload_n 0, 1) := by decide +kernel
theorem dX9_digest_123 : decode cX9_digest 123 = .ok (.getfield 7, 3) := by decide +kernel
theorem dX9_digest_126 : decode cX9_digest 126 = .ok (.sipush 156, 3) := by decide +kernel
theorem dX9_digest_129 : decode cX9_digest 129 = .ok (.iaload, 1) := by decide +kernel
theorem dX9_digest_130 : decode cX9_digest 130 = .ok (.if_icmp .ge 39, 3) := by decide +kernel
theorem dX9_digest_133 : decode cX9_digest 133 = .ok (.aload_n 0, 1) := by decide +kernel
theorem dX9_digest_134 : decode cX9_digest 134 = .ok (.aload_n 0, 1) := by decide +kernel
theorem dX9_digest_135 : decode cX9_digest 135 = .ok (.getfield 7, 3) := by decide +kernel
theorem dX9_digest_138 : decode cX9_digest 138 = .ok (.sipush 157, 3) := by decide +kernel
theorem dX9_digest_141 : decode cX9_digest 141 = .ok (.iload_n 1, 1) := by decide +kernel
theorem dX9_digest_142 : decode cX9_digest 142 = .ok (.iadd, 1) := by decide +kernel
theorem dX9_digest_143 : decode cX9_digest 143 = .ok (.iaload, 1) := by decide +kernel
theorem dX9_digest_144 : decode cX9_digest 144 = .ok (.i2l, 1) := by decide +kernel
theorem dX9_digest_145 : decode cX9_digest 145 = .ok (.invokevirtual 194, 3) := by decide +kernel
theorem dX9_digest_148 : decode cX9_digest 148 = .ok (.aload_n 0, 1) := by decide +kernel
theorem dX9_digest_149 : decode cX9_digest 149 = .ok (.aload_n 0, 1) := by decide +kernel
theorem dX9_digest_150 : decode cX9_digest 150 = .ok (.getfield 7, 3) := by decide +kernel
theorem dX9_digest_153 : decode cX9_digest 153 = .ok (.sipush 167, 3) := by decide +kernel
theorem dX9_digest_156 : decode cX9_digest 156 = .ok (.iload_n 1, 1) := by decide +kernel
theorem dX9_digest_157 : decode cX9_digest 157 = .ok (.iadd, 1) := by decide +kernel
theorem dX9_digest_158 : decode cX9_digest 158 = .ok (.iaload, 1) := by decide +kernel
theorem dX9_digest_159 : decode cX9_digest 159 = .ok (.i2l, 1) := by decide +kernel
theorem dX9_digest_160 : decode cX9_digest 160 = .ok (.invokevirtual 194, 3) := by decide +kernel
theorem dX9_digest_163 : decode cX9_digest 163 = .ok (.iinc 1 1, 3) := by decide +kernel
theorem dX9_digest_166 : decode cX9_digest 166 = .ok (.goto (-45), 3) := by decide +kernel
theorem dX9_digest_169 : decode cX9_digest 169 = .ok (.iconst 0, 1) := by decide +kernel
theorem dX9_digest_170 : decode cX9_digest 170 = .ok (.istore_n 1, 1) := by decide +kernel
theorem dX9_digest_171 : decode cX9_digest 171 = .ok (.iload_n 1, 1) := by decide +kernel
theorem dX9_digest_172 : decode cX9_digest 172 = .ok (.aload_n 0, 1) := by decide +kernel
theorem dX9_digest_173 : decode cX9_digest 173 = .ok (.getfield 7, 3) := by decide +kernel
theorem dX9_digest_176 : decode cX9_digest 176 = .ok (.bipush 127, 2) := by decide +kernel
theorem dX9_digest_178 : decode cX9_digest 178 = .ok (.iaload, 1) := by decide +kernel
theorem dX9_digest_179 : decode cX9_digest 179 = .ok (.if_icmp .ge 39, 3) := by decide +kernel
theorem dX9_digest_182 : decode cX9_digest 182 = .ok (.aload_n 0, 1) := by decide +kernel
theorem dX9_digest_183 : decode cX9_digest 183 = .ok (.aload_n 0, 1) := by decide +kernel
theorem dX9_digest_184 : decode cX9_digest 184 = .ok (.getfield 7, 3) := by decide +kernel
theorem dX9_digest_187 : decode cX9_digest 187 = .ok (.sipush 128, 3) := by decide +kernel
theorem dX9_digest_190 : decode cX9_digest 190 = .ok (.iload_n 1, 1) := by decide +kernel
theorem dX9_digest_191 : decode cX9_digest 191 = .ok (.iadd, 1) := by decide +kernel
theorem dX9_digest_192 : decode cX9_digest 192 = .ok (.iaload, 1) := by decide +kernel
theorem dX9_digest_193 : decode cX9_digest 193 = .ok (.i2l, 1) := by decide +kernel
theorem dX9_digest_194 : decode cX9_digest 194 = .ok (.invokevirtual 194, 3) := by decide +kernel
theorem dX9_digest_197 : decode cX9_digest 197 = .ok (.aload_n 0, 1) := by decide +kernel
theorem dX9_digest_198 : decode cX9_digest 198 = .ok (.aload_n 0, 1) := by decide +kernel
theorem dX9_digest_199 : decode cX9_digest 199 = .ok (.getfield 7, 3) := by decide +kernel
theorem dX9_digest_202 : decode cX9_digest 202 = .ok (.sipush 134, 3) := by decide +kernel
theorem dX9_digest_205 : decode cX9_digest 205 = .ok (.iload_n 1, 1) := by decide +kernel
theorem dX9_digest_206 : decode cX9_digest 206 = .ok (.iadd, 1) := by decide +kernel
theorem dX9_digest_207 : decode cX9_digest 207 = .ok (.iaload, 1) := by decide +kernel
theorem dX9_digest_208 : decode cX9_digest 208 = .ok (.i2l, 1) := by decide +kernel
theorem dX9_digest_209 : decode cX9_digest 209 = .ok (.invokevirtual 194, 3) := by decide +kernel
theorem dX9_digest_212 : decode cX9_digest 212 = .ok (.iinc 1 1, 3) := by decide +kernel
theorem dX9_digest_215 : decode cX9_digest 215 = .ok (.goto (-44), 3) := by decide +kernel
theorem dX9_digest_218 : decode cX9_digest 218 = .ok (.iconst 0, 1) := by decide +kernel
theorem dX9_digest_219 : decode cX9_digest 219 = .ok (.istore_n 1, 1) := by decide +kernel
theorem dX9_digest_220 : decode cX9_digest 220 = .ok (.iload_n 1, 1) := by decide +kernel
theorem dX9_digest_221 : decode cX9_digest 221 = .ok (.iconst 5, 1) := by decide +kernel
theorem dX9_digest_222 : decode cX9_digest 222 = .ok (.if_icmp .ge 24, 3) := by decide +kernel
theorem dX9_digest_225 : decode cX9_digest 225 = .ok (.aload_n 0, 1) := by decide +kernel
theorem dX9_digest_226 : decode cX9_digest 226 = .ok (.aload_n 0, 1) := by decide +kernel
theorem dX9_digest_227 : decode cX9_digest 227 = .ok (.getfield 7, 3) := by decide +kernel
theorem dX9_digest_230 : decode cX9_digest 230 = .ok (.sipush 177, 3) := by decide +kernel
theorem dX9_digest_233 : decode cX9_digest 233 = .ok (.iload_n 1, 1) := by decide +kernel
theorem dX9_digest_234 : decode cX9_digest 234 = .ok (.iadd, 1) := by decide +kernel
theorem dX9_digest_235 : decode cX9_digest 235 = .ok (.iaload, 1) := by decide +kernel
theorem dX9_digest_236 : decode cX9_digest 236 = .ok (.i2l, 1) := by decide +kernel
theorem dX9_digest_237 : decode cX9_digest 237 = .ok (.invokevirtual 194, 3) := by decide +kernel
theorem dX9_digest_240 : decode cX9_digest 240 = .ok (.iinc 1 1, 3) := by decide +kernel
theorem dX9_digest_243 : decode cX9_digest 243 = .ok (.goto (-23), 3) := by decide +kernel
theorem dX9_digest_246 : decode cX9_digest 246 = .ok (.iconst 0, 1) := by decide +kernel
theorem dX9_digest_247 : decode cX9_digest 247 = .ok (.istore_n 1, 1) := by decide +kernel
theorem dX9_digest_248 : decode cX9_digest 248 = .ok (.iload_n 1, 1) := by decide +kernel
theorem dX9_digest_249 : decode cX9_digest 249 = .ok (.bipush 9, 2) := by decide +kernel
theorem dX9_digest_251 : decode cX9_digest 251 = .ok (.if_icmp .ge 21, 3) := by decide +kernel
theorem dX9_digest_254 : decode cX9_digest 254 = .ok (.aload_n 0, 1) := by decide +kernel
theorem dX9_digest_255 : decode cX9_digest 255 = .ok (.aload_n 0, 1) := by decide +kernel
theorem dX9_digest_256 : decode cX9_digest 256 = .ok (.bipush 24, 2) := by decide +kernel
theorem dX9_digest_258 : decode cX9_digest 258 = .ok (.iload_n 1, 1) := by decide +kernel
theorem dX9_digest_259 : decode cX9_digest 259 = .ok (.invokevirtual 165, 3) := by decide +kernel
theorem dX9_digest_262 : decode cX9_digest 262 = .ok (.i2l, 1) := by decide +kernel
theorem dX9_digest_263 : decode cX9_digest 263 = .ok (.invokevirtual 194, 3) := by decide +kernel
theorem dX9_digest_266 : decode cX9_digest 266 = .ok (.iinc 1 1, 3) := by decide +kernel
theorem dX9_digest_269 : decode cX9_digest 269 = .ok (.goto (-21), 3) := by decide +kernel
theorem dX9_digest_272 : decode cX9_digest 272 = .ok (.aload_n 0, 1) := by decide +kernel
theorem dX9_digest_273 : decode cX9_digest 273 = .ok (.aload_n 0, 1) := by decide +kernel
theorem dX9_digest_274 : decode cX9_digest 274 = .ok (.invokevirtual 168, 3) := by decide +kernel
theorem dX9_digest_277 : decode cX9_digest 277 = .ok (.i2l, 1) := by decide +kernel
theorem dX9_digest_278 : decode cX9_digest 278 = .ok (.invokevirtual 194, 3) := by decide +kernel
theorem dX9_digest_281 : decode cX9_digest 281 = .ok (.aload_n 0, 1) := by decide +kernel
theorem dX9_digest_282 : decode cX9_digest 282 = .ok (.aload_n 0, 1) := by decide +kernel
theorem dX9_digest_283 : decode cX9_digest 283 = .ok (.invokevirtual 174, 3) := by decide +kernel
theorem dX9_digest_286 : decode cX9_digest 286 = .ok (.i2l, 1) := by decide +kernel
theorem dX9_digest_287 : decode cX9_digest 287 = .ok (.invokevirtual 194, 3) := by decide +kernel
theorem dX9_digest_290 : decode cX9_digest 290 = .ok (.aload_n 0, 1) := by decide +kernel
theorem dX9_digest_291 : decode cX9_digest 291 = .ok (.aload_n 0, 1) := by decide +kernel
theorem dX9_digest_292 : decode cX9_digest 292 = .ok (.invokevirtual 178, 3) := by decide +kernel
theorem dX9_digest_295 : decode cX9_digest 295 = .ok (.invokestatic 198, 3) := by decide +kernel
theorem dX9_digest_298 : decode cX9_digest 298 = .ok (.i2l, 1) := by decide +kernel
theorem dX9_digest_299 : decode cX9_digest 299 = .ok (.invokevirtual 194, 3) := by decide +kernel
theorem dX9_digest_302 : decode cX9_digest 302 = .ok (.aload_n 0, 1) := by decide +kernel
theorem dX9_digest_303 : decode cX9_digest 303 = .ok (.aload_n 0, 1) := by decide +kernel
theorem dX9_digest_304 : decode cX9_digest 304 = .ok (.invokevirtual 182, 3) := by decide +kernel
theorem dX9_digest_307 : decode cX9_digest 307 = .ok (.invokestatic 204, 3) := by decide +kernel
theorem dX9_digest_310 : decode cX9_digest 310 = .ok (.invokevirtual 194, 3) := by decide +kernel
theorem dX9_digest_313 : decode cX9_digest 313 = .ok (.aload_n 0, 1) := by decide +kernel
theorem dX9_digest_314 : decode cX9_digest 314 = .ok (.aload_n 0, 1) := by decide +kernel
theorem dX9_digest_315 : decode cX9_digest 315 = .ok (.getfield 98, 3) := by decide +kernel
theorem dX9_digest_318 : decode cX9_digest 318 = .ok (.i2l, 1) := by decide +kernel
theorem dX9_digest_319 : decode cX9_digest 319 = .ok (.invokevirtual 194, 3) := by decide +kernel
theorem dX9_digest_322 : decode cX9_digest 322 = .ok (.iconst 0, 1) := by decide +kernel
theorem dX9_digest_323 : decode cX9_digest 323 = .ok (.istore_n 1, 1) := by decide +kernel
theorem dX9_digest_324 : decode cX9_digest 324 = .ok (.iload_n 1, 1) := by decide +kernel
theorem dX9_digest_325 : decode cX9_digest 325 = .ok (.aload_n 0, 1) := by decide +kernel
theorem dX9_digest_326 : decode cX9_digest 326 = .ok (.getfield 98, 3) := by decide +kernel
theorem dX9_digest_329 : decode cX9_digest 329 = .ok (.if_icmp .ge 20, 3) := by decide +kernel
theorem dX9_digest_332 : decode cX9_digest 332 = .ok (.aload_n 0, 1) := by decide +kernel
theorem dX9_digest_333 : decode cX9_digest 333 = .ok (.aload_n 0, 1) := by decide +kernel
theorem dX9_digest_334 : decode cX9_digest 334 = .ok (.getfield 19, 3) := by decide +kernel
theorem dX9_digest_337 : decode cX9_digest 337 = .ok (.iload_n 1, 1) := by decide +kernel
theorem dX9_digest_338 : decode cX9_digest 338 = .ok (.iaload, 1) := by decide +kernel
theorem dX9_digest_339 : decode cX9_digest 339 = .ok (.i2l, 1) := by decide +kernel
theorem dX9_digest_340 : decode cX9_digest 340 = .ok (.invokevirtual 194, 3) := by decide +kernel
theorem dX9_digest_343 : decode cX9_digest 343 = .ok (.iinc 1 1, 3) := by decide +kernel
theorem dX9_digest_346 : decode cX9_digest 346 = .ok (.goto (-22), 3) := by decide +kernel
theorem dX9_digest_349 : decode cX9_digest 349 = .ok (.aload_n 0, 1) := by decide +kernel
theorem dX9_digest_350 : decode cX9_digest 350 = .ok (.getfield 188, 3) := by decide +kernel
theorem dX9_digest_353 : decode cX9_digest 353 = .ok (.lreturn, 1) := by decide +kernel
theorem dJxe99ae_isNaN_b9ae7_0 : decode cJxe99ae_isNaN_b9ae7 0 = .ok (.dload_n 0, 1) := by decide +kernel
theorem dJxe99ae_isNaN_b9ae7_1 : decode cJxe99ae_isNaN_b9ae7 1 = .ok (.dload_n 0, 1) := by decide +kernel
theorem dJxe99ae_isNaN_b9ae7_2 : decode cJxe99ae_isNaN_b9ae7 2 = .ok (.dcmp .l, 1) := by decide +kernel
theorem dJxe99ae_isNaN_b9ae7_3 : decode cJxe99ae_isNaN_b9ae7 3 = .ok (.ifCond .eq 7, 3) := by decide +kernel
theorem dJxe99ae_isNaN_b9ae7_6 : decode cJxe99ae_isNaN_b9ae7 6 = .ok (.iconst 1, 1) := by decide +kernel
theorem dJxe99ae_isNaN_b9ae7_7 : decode cJxe99ae_isNaN_b9ae7 7 = .ok (.goto 4, 3) := by decide +kernel
theorem dJxe99ae_isNaN_b9ae7_10 : decode cJxe99ae_isNaN_b9ae7 10 = .ok (.iconst 0, 1) := by decide +kernel
theorem dJxe99ae_isNaN_b9ae7_11 : decode cJxe99ae_isNaN_b9ae7 11 = .ok (.ireturn, 1) := by decide +kernel
set_option maxRecDepth 20000 in
theorem ggJxe99ae_doubleToLongBits_ccdee_Jxe99ae_isNaN_b9ae7 : GoodIn wsJxe99ae_doubleToLongBits_ccdee wsJxe99ae_isNaN_b9ae7 := goodIn_r _ [9] (by decide +kernel) (by decide +kernel)
set_option maxRecDepth 20000 in
theorem gJxe99ae_doubleToLongBits_ccdee_Jxe99ae_isNaN_b9ae7 : GoodIn wsJxe99ae_doubleToLongBits_ccdee (va_wsS RJxe99ae 122 yJxe99ae_isNaN_b9ae7 wsJxe99ae_isNaN_b9ae7) := goodIn_app (goodIn_of _ (by decide +kernel)) ggJxe99ae_doubleToLongBits_ccdee_Jxe99ae_isNaN_b9ae7
theorem dJxe99ae_doubleToLongBits_ccdee_0 : decode cJxe99ae_doubleToLongBits_ccdee 0 = .ok (.dload_n 0, 1) := by decide +kernel
theorem dJxe99ae_doubleToLongBits_ccdee_1 : decode cJxe99ae_doubleToLongBits_ccdee 1 = .ok (.invokestatic 122, 3) := by decide +kernel
theorem dJxe99ae_doubleToLongBits_ccdee_4 : decode cJxe99ae_doubleToLongBits_ccdee 4 = .ok (.ifCond .ne 8, 3) := by decide +kernel
theorem dJxe99ae_doubleToLongBits_ccdee_7 : decode cJxe99ae_doubleToLongBits_ccdee 7 = .ok (.dload_n 0, 1) := by decide +kernel
theorem dJxe99ae_doubleToLongBits_ccdee_8 : decode cJxe99ae_doubleToLongBits_ccdee 8 = .ok (.invokestatic 134, 3) := by decide +kernel
theorem dJxe99ae_doubleToLongBits_ccdee_11 : decode cJxe99ae_doubleToLongBits_ccdee 11 = .ok (.lreturn, 1) := by decide +kernel
theorem dJxe99ae_doubleToLongBits_ccdee_12 : decode cJxe99ae_doubleToLongBits_ccdee 12 = .ok (.ldc2_w 137, 3) := by decide +kernel
theorem dJxe99ae_doubleToLongBits_ccdee_15 : decode cJxe99ae_doubleToLongBits_ccdee 15 = .ok (.lreturn, 1) := by decide +kernel
theorem dJxf58ca_isNaN_12338_0 : decode cJxf58ca_isNaN_12338 0 = .ok (.fload_n 0, 1) := by decide +kernel
theorem dJxf58ca_isNaN_12338_1 : decode cJxf58ca_isNaN_12338 1 = .ok (.fload_n 0, 1) := by decide +kernel
theorem dJxf58ca_isNaN_12338_2 : decode cJxf58ca_isNaN_12338 2 = .ok (.fcmp .l, 1) := by decide +kernel
theorem dJxf58ca_isNaN_12338_3 : decode cJxf58ca_isNaN_12338 3 = .ok (.ifCond .eq 7, 3) := by decide +kernel
theorem dJxf58ca_isNaN_12338_6 : decode cJxf58ca_isNaN_12338 6 = .ok (.iconst 1, 1) := by decide +kernel
theorem dJxf58ca_isNaN_12338_7 : decode cJxf58ca_isNaN_12338 7 = .ok (.goto 4, 3) := by decide +kernel
theorem dJxf58ca_isNaN_12338_10 : decode cJxf58ca_isNaN_12338 10 = .ok (.iconst 0, 1) := by decide +kernel
theorem dJxf58ca_isNaN_12338_11 : decode cJxf58ca_isNaN_12338 11 = .ok (.ireturn, 1) := by decide +kernel
set_option maxRecDepth 20000 in
theorem ggJxf58ca_floatToIntBits_5c35a_Jxf58ca_isNaN_12338 : GoodIn wsJxf58ca_floatToIntBits_5c35a wsJxf58ca_isNaN_12338 := goodIn_r _ [9] (by decide +kernel) (by decide +kernel)
set_option maxRecDepth 20000 in
theorem gJxf58ca_floatToIntBits_5c35a_Jxf58ca_isNaN_12338 : GoodIn wsJxf58ca_floatToIntBits_5c35a (va_wsS RJxf58ca 59 yJxf58ca_isNaN_12338 wsJxf58ca_isNaN_12338) := goodIn_app (goodIn_of _ (by decide +kernel)) ggJxf58ca_floatToIntBits_5c35a_Jxf58ca_isNaN_12338
theorem dJxf58ca_floatToIntBits_5c35a_0 : decode cJxf58ca_floatToIntBits_5c35a 0 = .ok (.fload_n 0, 1) := by decide +kernel
theorem dJxf58ca_floatToIntBits_5c35a_1 : decode cJxf58ca_floatToIntBits_5c35a 1 = .ok (.invokestatic 59, 3) := by decide +kernel
theorem dJxf58ca_floatToIntBits_5c35a_4 : decode cJxf58ca_floatToIntBits_5c35a 4 = .ok (.ifCond .ne 8, 3) := by decide +kernel
theorem dJxf58ca_floatToIntBits_5c35a_7 : decode cJxf58ca_floatToIntBits_5c35a 7 = .ok (.fload_n 0, 1) := by decide +kernel
theorem dJxf58ca_floatToIntBits_5c35a_8 : decode cJxf58ca_floatToIntBits_5c35a 8 = .ok (.invokestatic 74, 3) := by decide +kernel
theorem dJxf58ca_floatToIntBits_5c35a_11 : decode cJxf58ca_floatToIntBits_5c35a 11 = .ok (.ireturn, 1) := by decide +kernel
theorem dJxf58ca_floatToIntBits_5c35a_12 : decode cJxf58ca_floatToIntBits_5c35a 12 = .ok (.ldc 77, 2) := by decide +kernel
theorem dJxf58ca_floatToIntBits_5c35a_14 : decode cJxf58ca_floatToIntBits_5c35a 14 = .ok (.ireturn, 1) := by decide +kernel
theorem dJ9_abs_0f7a4_0 : decode cJ9_abs_0f7a4 0 = .ok (.iload_n 0, 1) := by decide +kernel
theorem dJ9_abs_0f7a4_1 : decode cJ9_abs_0f7a4 1 = .ok (.ifCond .ge 8, 3) := by decide +kernel
theorem dJ9_abs_0f7a4_4 : decode cJ9_abs_0f7a4 4 = .ok (.iload_n 0, 1) := by decide +kernel
theorem dJ9_abs_0f7a4_5 : decode cJ9_abs_0f7a4 5 = .ok (.ineg, 1) := by decide +kernel
theorem dJ9_abs_0f7a4_6 : decode cJ9_abs_0f7a4 6 = .ok (.goto 4, 3) := by decide +kernel
theorem dJ9_abs_0f7a4_9 : decode cJ9_abs_0f7a4 9 = .ok (.iload_n 0, 1) := by decide +kernel
theorem dJ9_abs_0f7a4_10 : decode cJ9_abs_0f7a4 10 = .ok (.ireturn, 1) := by decide +kernel
theorem dJ9_max_7cf53_0 : decode cJ9_max_7cf53 0 = .ok (.iload_n 0, 1) := by decide +kernel
theorem dJ9_max_7cf53_1 : decode cJ9_max_7cf53 1 = .ok (.iload_n 1, 1) := by decide +kernel
theorem dJ9_max_7cf53_2 : decode cJ9_max_7cf53 2 = .ok (.if_icmp .lt 7, 3) := by decide +kernel
theorem dJ9_max_7cf53_5 : decode cJ9_max_7cf53 5 = .ok (.iload_n 0, 1) := by decide +kernel
theorem dJ9_max_7cf53_6 : decode cJ9_max_7cf53 6 = .ok (.goto 4, 3) := by decide +kernel
theorem dJ9_max_7cf53_9 : decode cJ9_max_7cf53 9 = .ok (.iload_n 1, 1) := by decide +kernel
theorem dJ9_max_7cf53_10 : decode cJ9_max_7cf53 10 = .ok (.ireturn, 1) := by decide +kernel
theorem dJ9_min_7cf53_0 : decode cJ9_min_7cf53 0 = .ok (.iload_n 0, 1) := by decide +kernel
theorem dJ9_min_7cf53_1 : decode cJ9_min_7cf53 1 = .ok (.iload_n 1, 1) := by decide +kernel
theorem dJ9_min_7cf53_2 : decode cJ9_min_7cf53 2 = .ok (.if_icmp .gt 7, 3) := by decide +kernel
theorem dJ9_min_7cf53_5 : decode cJ9_min_7cf53 5 = .ok (.iload_n 0, 1) := by decide +kernel
theorem dJ9_min_7cf53_6 : decode cJ9_min_7cf53 6 = .ok (.goto 4, 3) := by decide +kernel
theorem dJ9_min_7cf53_9 : decode cJ9_min_7cf53 9 = .ok (.iload_n 1, 1) := by decide +kernel
theorem dJ9_min_7cf53_10 : decode cJ9_min_7cf53 10 = .ok (.ireturn, 1) := by decide +kernel
set_option maxRecDepth 20000 in
theorem ggL_addTurbine_X8_addTurbine : GoodIn wsL_addTurbine wsX8_addTurbine := goodIn_ca (goodIn_ca (goodIn_r _ [7, 8, 9, 10, 11, 12, 13, 14, 15, 6, 16, 17, 18, 19, 20, 21, 22, 23, 24, 25, 26, 27, 28, 29, 30, 31, 32, 33, 34, 35, 36, 37, 38, 39, 40, 41, 42, 43, 44, 45, 46, 47, 48, 49, 50, 51, 52, 53, 54, 55, 56, 57, 58, 59, 60, 61, 62, 63, 64, 65, 66, 67, 68, 69, 70, 71, 72, 73, 74, 75, 76, 77, 78, 79, 80, 81, 82, 83, 84, 85, 86, 87, 88, 89, 90, 91, 92, 93, 94, 95, 96, 97, 98, 99, 100, 101, 102, 103, 104, 105, 106, 107, 108, 109, 110, 111, 112, 113, 114, 115, 116, 117, 118, 119, 120, 121, 122, 123, 124, 125, 126, 127, 128, 129, 130, 131, 132, 133, 134, 135, 136, 137, 138, 139, 140, 141, 142, 143, 144, 145, 146, 147, 148, 149] (by decide +kernel) (by decide +kernel)) (goodIn_sub (fun _ h => List.mem_cons_of_mem _ (List.mem_append_left _ (List.mem_append_right _ h))) (by decide +kernel))) (goodIn_sub (fun _ h => List.mem_cons_of_mem _ (List.mem_append_right _ h)) (by decide +kernel))
set_option maxRecDepth 20000 in
theorem gL_addTurbine_X8_addTurbine : GoodIn wsL_addTurbine (wsV RL 7 RX8 yX8_addTurbine wsX8_addTurbine) := goodIn_app (goodIn_of _ (by decide +kernel)) ggL_addTurbine_X8_addTurbine
