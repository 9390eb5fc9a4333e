theorem dX8_unplan_0 : decode cX8_unplan 0 = .ok (.aload_n 0, 1) := by decide +kernel
theorem dX8_unplan_1 : decode cX8_unplan 1 = .ok (.iload_n 1, 1) := by decide +kernel
theorem dX8_unplan_2 : decode cX8_unplan 2 = .ok (.invokevirtual 67, 3) := by decide +kernel
theorem dX8_unplan_5 : decode cX8_unplan 5 = .ok (.aload_n 0, 1) := by decide +kernel
theorem dX8_unplan_6 : decode cX8_unplan 6 = .ok (.getfield 10, 3) := by decide +kernel
theorem dX8_unplan_9 : decode cX8_unplan 9 = .ok (.getfield 125, 3) := by decide +kernel
theorem dX8_unplan_12 : decode cX8_unplan 12 = .ok (.iload_n 1, 1) := by decide +kernel
theorem dX8_unplan_13 : decode cX8_unplan 13 = .ok (.invokevirtual 143, 3) := by decide +kernel
theorem dX8_unplan_16 : decode cX8_unplan 16 = .ok (.istore_n 2, 1) := by decide +kernel
theorem dX8_unplan_17 : decode cX8_unplan 17 = .ok (.iload_n 2, 1) := by decide +kernel
theorem dX8_unplan_18 : decode cX8_unplan 18 = .ok (.iconst (-1), 1) := by decide +kernel
theorem dX8_unplan_19 : decode cX8_unplan 19 = .ok (.if_icmp .ne 13, 3) := by decide +kernel
theorem dX8_unplan_22 : decode cX8_unplan 22 = .ok (.new 55, 3) := by decide +kernel
theorem dX8_unplan_25 : decode cX8_unplan 25 = .ok (.dup, 1) := by decide +kernel
theorem dX8_unplan_26 : decode cX8_unplan 26 = .ok (.ldc 146, 2) := by decide +kernel
theorem dX8_unplan_28 : decode cX8_unplan 28 = .ok (.invokespecial 59, 3) := by decide +kernel
theorem dX8_unplan_31 : decode cX8_unplan 31 = .ok (.athrow, 1) := by decide +kernel
theorem dX8_unplan_32 : decode cX8_unplan 32 = .ok (.aload_n 0, 1) := by decide +kernel
theorem dX8_unplan_33 : decode cX8_unplan 33 = .ok (.invokevirtual 60, 3) := by decide +kernel
theorem dX8_unplan_36 : decode cX8_unplan 36 = .ok (.aload_n 0, 1) := by decide +kernel
theorem dX8_unplan_37 : decode cX8_unplan 37 = .ok (.getfield 10, 3) := by decide +kernel
theorem dX8_unplan_40 : decode cX8_unplan 40 = .ok (.getfield 125, 3) := by decide +kernel
theorem dX8_unplan_43 : decode cX8_unplan 43 = .ok (.iload_n 2, 1) := by decide +kernel
theorem dX8_unplan_44 : decode cX8_unplan 44 = .ok (.invokevirtual 148, 3) := by decide +kernel
theorem dX8_unplan_47 : decode cX8_unplan 47 = .ok (.iload_n 2, 1) := by decide +kernel
theorem dX8_unplan_48 : decode cX8_unplan 48 = .ok (.ireturn, 1) := by decide +kernel
set_option maxRecDepth 20000 in
theorem ggX8_orderBlade_X8_requireTurbine : GoodIn wsX8_orderBlade wsX8_requireTurbine := goodIn_r _ [11, 12, 13, 3, 14, 15, 16, 17, 18, 19, 113, 114, 115, 116, 117, 118, 119, 120, 121, 122, 123, 124, 125, 126, 127, 128] (by decide +kernel) (by decide +kernel)
set_option maxRecDepth 20000 in
theorem gX8_orderBlade_X8_requireTurbine : GoodIn wsX8_orderBlade (wsV RX8 67 RX8 yX8_requireTurbine wsX8_requireTurbine) := goodIn_app (goodIn_of _ (by decide +kernel)) ggX8_orderBlade_X8_requireTurbine
set_option maxRecDepth 20000 in
theorem ggX8_orderBlade_X3_isFull : GoodIn wsX8_orderBlade wsX3_isFull := goodIn_r _ [24, 25, 129, 130, 131] (by decide +kernel) (by decide +kernel)
set_option maxRecDepth 20000 in
theorem gX8_orderBlade_X3_isFull : GoodIn wsX8_orderBlade (wsV RX8 155 RX3 yX3_isFull wsX3_isFull) := goodIn_app (goodIn_of _ (by decide +kernel)) ggX8_orderBlade_X3_isFull
set_option maxRecDepth 20000 in
theorem ggX8_orderBlade_X8_saveState : GoodIn wsX8_orderBlade wsX8_saveState := goodIn_r _ [29, 30, 31, 32, 3, 33, 34, 35, 17, 36, 19, 37, 38, 39, 40, 41, 42, 43, 44, 45, 46, 47, 48, 49, 50, 51, 52, 53, 54, 55, 56, 57, 58, 59, 60, 61, 62, 63, 64, 65, 66, 67, 68, 69, 70, 71, 72, 73, 23, 74, 75, 76, 77, 25, 78, 79, 80, 81, 82, 83, 84, 85, 86, 87, 88, 89, 90, 91, 92, 93, 94, 95, 96, 97, 98, 99, 100, 101, 102, 103, 113, 114, 115, 116, 117, 118, 119, 120, 121, 122, 123, 124, 125, 126, 127, 128, 132, 133, 134, 135, 136, 137, 138, 139, 140, 141, 129, 130, 131, 142, 143, 144, 145, 146, 147, 148, 149, 150] (by decide +kernel) (by decide +kernel)
set_option maxRecDepth 20000 in
theorem gX8_orderBlade_X8_saveState : GoodIn wsX8_orderBlade (wsV RX8 60 RX8 yX8_saveState wsX8_saveState) := goodIn_app (goodIn_of _ (by decide +kernel)) ggX8_orderBlade_X8_saveState
set_option maxRecDepth 20000 in
theorem ggX8_orderBlade_X5_bladeWeight : GoodIn wsX8_orderBlade wsX5_bladeWeight := goodIn_r _ [107, 56, 132, 133, 134, 135, 136, 137, 138] (by decide +kernel) (by decide +kernel)
set_option maxRecDepth 20000 in
theorem gX8_orderBlade_X5_bladeWeight : GoodIn wsX8_orderBlade (wsV RX8 160 RX5 yX5_bladeWeight wsX5_bladeWeight) := goodIn_app (goodIn_of _ (by decide +kernel)) ggX8_orderBlade_X5_bladeWeight
set_option maxRecDepth 20000 in
theorem ggX8_orderBlade_X3_take : GoodIn wsX8_orderBlade wsX3_take := goodIn_r _ [111, 75, 25, 77, 112, 21, 22, 23, 24, 129, 130, 131] (by decide +kernel) (by decide +kernel)
set_option maxRecDepth 20000 in
theorem gX8_orderBlade_X3_take : GoodIn wsX8_orderBlade (wsV RX8 164 RX3 yX3_take wsX3_take) := goodIn_app (goodIn_of _ (by decide +kernel)) ggX8_orderBlade_X3_take
theorem dX8_orderBlade_0 : decode cX8_orderBlade 0 = .ok (.aload_n 0, 1) := by decide +kernel
theorem dX8_orderBlade_1 : decode cX8_orderBlade 1 = .ok (.iload_n 1, 1) := by decide +kernel
theorem dX8_orderBlade_2 : decode cX8_orderBlade 2 = .ok (.invokevirtual 67, 3) := by decide +kernel
theorem dX8_orderBlade_5 : decode cX8_orderBlade 5 = .ok (.aload_n 0, 1) := by decide +kernel
theorem dX8_orderBlade_6 : decode cX8_orderBlade 6 = .ok (.getfield 10, 3) := by decide +kernel
theorem dX8_orderBlade_9 : decode cX8_orderBlade 9 = .ok (.getfield 151, 3) := by decide +kernel
theorem dX8_orderBlade_12 : decode cX8_orderBlade 12 = .ok (.invokevirtual 155, 3) := by decide +kernel
theorem dX8_orderBlade_15 : decode cX8_orderBlade 15 = .ok (.ifCond .eq 13, 3) := by decide +kernel
theorem dX8_orderBlade_18 : decode cX8_orderBlade 18 = .ok (.new 55, 3) := by decide +kernel
theorem dX8_orderBlade_21 : decode cX8_orderBlade 21 = .ok (.dup, 1) := by decide +kernel
theorem dX8_orderBlade_22 : decode cX8_orderBlade 22 = .ok (.ldc 158, 2) := by decide +kernel
theorem dX8_orderBlade_24 : decode cX8_orderBlade 24 = .ok (.invokespecial 59, 3) := by decide +kernel
theorem dX8_orderBlade_27 : decode cX8_orderBlade 27 = .ok (.athrow, 1) := by decide +kernel
theorem dX8_orderBlade_28 : decode cX8_orderBlade 28 = .ok (.aload_n 0, 1) := by decide +kernel
theorem dX8_orderBlade_29 : decode cX8_orderBlade 29 = .ok (.invokevirtual 60, 3) := by decide +kernel
theorem dX8_orderBlade_32 : decode cX8_orderBlade 32 = .ok (.aload_n 0, 1) := by decide +kernel
theorem dX8_orderBlade_33 : decode cX8_orderBlade 33 = .ok (.getfield 10, 3) := by decide +kernel
theorem dX8_orderBlade_36 : decode cX8_orderBlade 36 = .ok (.getfield 151, 3) := by decide +kernel
theorem dX8_orderBlade_39 : decode cX8_orderBlade 39 = .ok (.iload_n 1, 1) := by decide +kernel
theorem dX8_orderBlade_40 : decode cX8_orderBlade 40 = .ok (.aload_n 0, 1) := by decide +kernel
theorem dX8_orderBlade_41 : decode cX8_orderBlade 41 = .ok (.getfield 10, 3) := by decide +kernel
theorem dX8_orderBlade_44 : decode cX8_orderBlade 44 = .ok (.getfield 73, 3) := by decide +kernel
theorem dX8_orderBlade_47 : decode cX8_orderBlade 47 = .ok (.iload_n 1, 1) := by decide +kernel
theorem dX8_orderBlade_48 : decode cX8_orderBlade 48 = .ok (.aaload, 1) := by decide +kernel
theorem dX8_orderBlade_49 : decode cX8_orderBlade 49 = .ok (.invokevirtual 160, 3) := by decide +kernel
theorem dX8_orderBlade_52 : decode cX8_orderBlade 52 = .ok (.invokevirtual 164, 3) := by decide +kernel
theorem dX8_orderBlade_55 : decode cX8_orderBlade 55 = .ok (.aload_n 0, 1) := by decide +kernel
theorem dX8_orderBlade_56 : decode cX8_orderBlade 56 = .ok (.getfield 10, 3) := by decide +kernel
theorem dX8_orderBlade_59 : decode cX8_orderBlade 59 = .ok (.getfield 151, 3) := by decide +kernel
theorem dX8_orderBlade_62 : decode cX8_orderBlade 62 = .ok (.getfield 167, 3) := by decide +kernel
theorem dX8_orderBlade_65 : decode cX8_orderBlade 65 = .ok (.ireturn, 1) := by decide +kernel
set_option maxRecDepth 20000 in
theorem ggX8_pass_X8_isWithin : GoodIn wsX8_pass wsX8_isWithin := goodIn_r _ [10] (by decide +kernel) (by decide +kernel)
set_option maxRecDepth 20000 in
theorem gX8_pass_X8_isWithin : GoodIn wsX8_pass (va_wsS RX8 37 yX8_isWithin wsX8_isWithin) := goodIn_app (goodIn_of _ (by decide +kernel)) ggX8_pass_X8_isWithin
set_option maxRecDepth 20000 in
theorem ggX8_pass_X8_saveState : GoodIn wsX8_pass wsX8_saveState := goodIn_r _ [14, 15, 16, 17, 5, 18, 19, 20, 21, 22, 23, 24, 25, 26, 27, 28, 29, 30, 31, 32, 33, 34, 35, 36, 37, 38, 39, 40, 41, 42, 43, 44, 45, 46, 47, 48, 49, 50, 51, 52, 53, 54, 55, 56, 57, 58, 59, 60, 61, 62, 63, 64, 65, 66, 67, 68, 69, 70, 71, 72, 73, 74, 75, 76, 77, 78, 79, 80, 81, 82, 83, 84, 85, 86, 87, 88, 89, 90, 91, 92, 219, 220, 221, 222, 223, 224, 225, 226, 227, 228, 229, 230, 231, 232, 233, 234, 235, 236, 237, 238, 239, 240, 241, 242, 243, 244, 245, 246, 247, 248, 249, 250, 251, 252, 253, 254, 255, 256] (by decide +kernel) (by decide +kernel)
set_option maxRecDepth 20000 in
theorem gX8_pass_X8_saveState : GoodIn wsX8_pass (wsV RX8 60 RX8 yX8_saveState wsX8_saveState) := goodIn_app (goodIn_of _ (by decide +kernel)) ggX8_pass_X8_saveState
set_option maxRecDepth 20000 in
theorem ggX8_pass_X2_runHours : GoodIn wsX8_pass wsX2_runHours := goodIn_r _ [96, 97, 98, 99, 21, 100, 26, 30, 27, 36, 101, 102, 103, 61, 104, 66, 65, 105, 106, 107, 108, 109, 110, 111, 112, 113, 28, 114, 24, 115, 116, 117, 118, 70, 119, 74, 72, 120, 121, 122, 78, 123, 84, 83, 124, 125, 126, 127, 23, 128, 129, 130, 131, 132, 133, 134, 135, 136, 137, 138, 139, 140, 141, 82, 142, 143, 144, 145, 146, 147, 148, 149, 150, 151, 25, 152, 153, 154, 155, 52, 156, 57, 54, 56, 157, 158, 159, 160, 81, 161, 80, 162, 163, 164, 165, 63, 166, 167, 168, 169, 29, 170, 171, 172, 88, 173, 92, 90, 174, 175, 176, 40, 177, 43, 178, 179, 180, 181, 182, 183, 184, 185, 186, 187, 35, 188, 189, 190, 191, 44, 192, 193, 194, 195, 196, 197, 198, 199, 200, 201, 202, 203, 204, 205, 206, 207, 208, 209, 210, 211, 212, 213, 214, 215, 216, 217, 218, 45, 46, 225, 226, 227, 228, 229, 230, 231, 232, 233, 234, 245, 246, 247, 248, 249, 250, 251, 252, 253, 254, 235, 236, 237, 238, 239, 240, 241, 242, 243, 244, 255, 256] (by decide +kernel) (by decide +kernel)
set_option maxRecDepth 20000 in
theorem gX8_pass_X2_runHours : GoodIn wsX8_pass (wsV RX8 175 RX2 yX2_runHours wsX2_runHours) := goodIn_app (goodIn_of _ (by decide +kernel)) ggX8_pass_X2_runHours
theorem dX8_pass_0 : decode cX8_pass 0 = .ok (.iload_n 1, 1) := by decide +kernel
theorem dX8_pass_1 : decode cX8_pass 1 = .ok (.iconst 1, 1) := by decide +kernel
theorem dX8_pass_2 : decode cX8_pass 2 = .ok (.sipush 200, 3) := by decide +kernel
theorem dX8_pass_5 : decode cX8_pass 5 = .ok (.invokestatic 37, 3) := by decide +kernel
theorem dX8_pass_8 : decode cX8_pass 8 = .ok (.ifCond .ne 13, 3) := by decide +kernel
theorem dX8_pass_11 : decode cX8_pass 11 = .ok (.new 41, 3) := by decide +kernel
theorem dX8_pass_14 : decode cX8_pass 14 = .ok (.dup, 1) := by decide +kernel
theorem dX8_pass_15 : decode cX8_pass 15 = .ok (.ldc 168, 2) := by decide +kernel
theorem dX8_pass_17 : decode cX8_pass 17 = .ok (.invokespecial 45, 3) := by decide +kernel
theorem dX8_pass_20 : decode cX8_pass 20 = .ok (.athrow, 1) := by decide +kernel
theorem dX8_pass_21 : decode cX8_pass 21 = .ok (.aload_n 0, 1) := by decide +kernel
theorem dX8_pass_22 : decode cX8_pass 22 = .ok (.getfield 10, 3) := by decide +kernel
theorem dX8_pass_25 : decode cX8_pass 25 = .ok (.getfield 170, 3) := by decide +kernel
theorem dX8_pass_28 : decode cX8_pass 28 = .ok (.iload_n 1, 1) := by decide +kernel
theorem dX8_pass_29 : decode cX8_pass 29 = .ok (.iadd, 1) := by decide +kernel
theorem dX8_pass_30 : decode cX8_pass 30 = .ok (.sipush 10000, 3) := by decide +kernel
theorem dX8_pass_33 : decode cX8_pass 33 = .ok (.if_icmp .le 13, 3) := by decide +kernel
theorem dX8_pass_36 : decode cX8_pass 36 = .ok (.new 55, 3) := by decide +kernel
theorem dX8_pass_39 : decode cX8_pass 39 = .ok (.dup, 1) := by decide +kernel
theorem dX8_pass_40 : decode cX8_pass 40 = .ok (.ldc 173, 2) := by decide +kernel
theorem dX8_pass_42 : decode cX8_pass 42 = .ok (.invokespecial 59, 3) := by decide +kernel
theorem dX8_pass_45 : decode cX8_pass 45 = .ok (.athrow, 1) := by decide +kernel
theorem dX8_pass_46 : decode cX8_pass 46 = .ok (.aload_n 0, 1) := by decide +kernel
theorem dX8_pass_47 : decode cX8_pass 47 = .ok (.invokevirtual 60, 3) := by decide +kernel
theorem dX8_pass_50 : decode cX8_pass 50 = .ok (.aload_n 0, 1) := by decide +kernel
theorem dX8_pass_51 : decode cX8_pass 51 = .ok (.getfield 10, 3) := by decide +kernel
theorem dX8_pass_54 : decode cX8_pass 54 = .ok (.iload_n 1, 1) := by decide +kernel
theorem dX8_pass_55 : decode cX8_pass 55 = .ok (.invokevirtual 175, 3) := by decide +kernel
theorem dX8_pass_58 : decode cX8_pass 58 = .ok (.ireturn, 1) := by decide +kernel
set_option maxRecDepth 20000 in
theorem ggX8_append_X8_isWithin : GoodIn wsX8_append wsX8_isWithin := goodIn_r _ [10] (by decide +kernel) (by decide +kernel)
set_option maxRecDepth 20000 in
theorem gX8_append_X8_isWithin : GoodIn wsX8_append (va_wsS RX8 37 yX8_isWithin wsX8_isWithin) := goodIn_app (goodIn_of _ (by decide +kernel)) ggX8_append_X8_isWithin
set_option maxRecDepth 20000 in
theorem ggX8_append_X6_isFull : GoodIn wsX8_append wsX6_isFull := goodIn_r _ [15, 16, 29, 30] (by decide +kernel) (by decide +kernel)
set_option maxRecDepth 20000 in
theorem gX8_append_X6_isFull : GoodIn wsX8_append (wsV RX8 180 RX6 yX6_isFull wsX6_isFull) := goodIn_app (goodIn_of _ (by decide +kernel)) ggX8_append_X6_isFull
set_option maxRecDepth 20000 in
theorem ggX8_append_X6_add : GoodIn wsX8_append wsX6_add := goodIn_r _ [20, 21, 16, 22, 12, 13, 14, 15, 29, 30] (by decide +kernel) (by decide +kernel)
set_option maxRecDepth 20000 in
theorem gX8_append_X6_add : GoodIn wsX8_append (wsV RX8 183 RX6 yX6_add wsX6_add) := goodIn_app (goodIn_of _ (by decide +kernel)) ggX8_append_X6_add
theorem dX8_append_0 : decode cX8_append 0 = .ok (.iload_n 1, 1) := by decide +kernel
theorem dX8_append_1 : decode cX8_append 1 = .ok (.bipush 33, 2) := by decide +kernel
theorem dX8_append_3 : decode cX8_append 3 = .ok (.bipush 126, 2) := by decide +kernel
theorem dX8_append_5 : decode cX8_append 5 = .ok (.invokestatic 37, 3) := by decide +kernel
theorem dX8_append_8 : decode cX8_append 8 = .ok (.ifCond .ne 13, 3) := by decide +kernel
theorem dX8_append_11 : decode cX8_append 11 = .ok (.new 41, 3) := by decide +kernel
theorem dX8_append_14 : decode cX8_append 14 = .ok (.dup, 1) := by decide +kernel
theorem dX8_append_15 : decode cX8_append 15 = .ok (.ldc 178, 2) := by decide +kernel
theorem dX8_append_17 : decode cX8_append 17 = .ok (.invokespecial 45, 3) := by decide +kernel
theorem dX8_append_20 : decode cX8_append 20 = .ok (.athrow, 1) := by decide +kernel
theorem dX8_append_21 : decode cX8_append 21 = .ok (.aload_n 0, 1) := by decide +kernel
theorem dX8_append_22 : decode cX8_append 22 = .ok (.getfield 33, 3) := by decide +kernel
theorem dX8_append_25 : decode cX8_append 25 = .ok (.invokevirtual 180, 3) := by decide +kernel
theorem dX8_append_28 : decode cX8_append 28 = .ok (.ifCond .eq 13, 3) := by decide +kernel
theorem dX8_append_31 : decode cX8_append 31 = .ok (.new 55, 3) := by decide +kernel
theorem dX8_append_34 : decode cX8_append 34 = .ok (.dup, 1) := by decide +kernel
theorem dX8_append_35 : decode cX8_append 35 = .ok (.ldc 181, 2) := by decide +kernel
theorem dX8_append_37 : decode cX8_append 37 = .ok (.invokespecial 59, 3) := by decide +kernel
theorem dX8_append_40 : decode cX8_append 40 = .ok (.athrow, 1) := by decide +kernel
theorem dX8_append_41 : decode cX8_append 41 = .ok (.aload_n 0, 1) := by decide +kernel
theorem dX8_append_42 : decode cX8_append 42 = .ok (.getfield 33, 3) := by decide +kernel
theorem dX8_append_45 : decode cX8_append 45 = .ok (.iload_n 1, 1) := by decide +kernel
theorem dX8_append_46 : decode cX8_append 46 = .ok (.invokevirtual 183, 3) := by decide +kernel
theorem dX8_append_49 : decode cX8_append 49 = .ok (.aload_n 0, 1) := by decide +kernel
theorem dX8_append_50 : decode cX8_append 50 = .ok (.getfield 33, 3) := by decide +kernel
theorem dX8_append_53 : decode cX8_append 53 = .ok (.getfield 186, 3) := by decide +kernel
theorem dX8_append_56 : decode cX8_append 56 = .ok (.ireturn, 1) := by decide +kernel
set_option maxRecDepth 20000 in
theorem ggX8_load_X6_isComplete : GoodIn wsX8_load wsX6_isComplete := goodIn_r _ [14, 15, 16, 17, 18, 13, 19, 20, 21, 22, 23, 24, 25, 26, 27, 28, 29, 30, 31, 32, 33, 34, 155, 156] (by decide +kernel) (by decide +kernel)
set_option maxRecDepth 20000 in
theorem gX8_load_X6_isComplete : GoodIn wsX8_load (wsV RX8 192 RX6 yX6_isComplete wsX6_isComplete) := goodIn_app (goodIn_of _ (by decide +kernel)) ggX8_load_X6_isComplete
set_option maxRecDepth 20000 in
theorem ggX8_load_X6_numberCount : GoodIn wsX8_load wsX6_numberCount := goodIn_r _ [38, 15, 16, 39, 40, 41, 13, 42, 43, 44, 45, 46, 155, 156] (by decide +kernel) (by decide +kernel)
set_option maxRecDepth 20000 in
theorem gX8_load_X6_numberCount : GoodIn wsX8_load (wsV RX8 197 RX6 yX6_numberCount wsX6_numberCount) := goodIn_app (goodIn_of _ (by decide +kernel)) ggX8_load_X6_numberCount
set_option maxRecDepth 20000 in
theorem ggX8_load_X8_saveState : GoodIn wsX8_load wsX8_saveState := goodIn_r _ [51, 52, 53, 54, 6, 55, 56, 57, 58, 59, 60, 61, 62, 63, 64, 65, 66, 67, 68, 69, 70, 71, 72, 73, 74, 75, 76, 77, 78, 79, 80, 81, 82, 83, 84, 85, 86, 87, 88, 89, 90, 91, 92, 93, 94, 95, 96, 97, 98, 99, 100, 101, 102, 103, 104, 105, 106, 107, 108, 109, 110, 111, 112, 113, 114, 115, 116, 117, 118, 119, 120, 121, 122, 123, 124, 125, 126, 127, 128, 129, 139, 140, 141, 142, 143, 144, 145, 146, 147, 148, 149, 150, 151, 152, 153, 154, 159, 160, 161, 162, 163, 164, 165, 166, 167, 168, 169, 170, 171, 172, 173, 174, 175, 176, 177, 178, 157, 158] (by decide +kernel) (by decide +kernel)
set_option maxRecDepth 20000 in
theorem gX8_load_X8_saveState : GoodIn wsX8_load (wsV RX8 60 RX8 yX8_saveState wsX8_saveState) := goodIn_app (goodIn_of _ (by decide +kernel)) ggX8_load_X8_saveState
set_option maxRecDepth 20000 in
theorem ggX8_load_X6_writeTo : GoodIn wsX8_load wsX6_writeTo := goodIn_r _ [133, 134, 15, 16, 43, 44, 45, 13, 46, 39, 40, 41, 42, 135, 136, 137, 125, 138, 129, 127, 157, 158, 155, 156] (by decide +kernel) (by decide +kernel)
set_option maxRecDepth 20000 in
theorem gX8_load_X6_writeTo : GoodIn wsX8_load (wsV RX8 206 RX6 yX6_writeTo wsX6_writeTo) := goodIn_app (goodIn_of _ (by decide +kernel)) ggX8_load_X6_writeTo
theorem dX8_load_0 : decode cX8_load 0 = .ok (.aload_n 0, 1) := by decide +kernel
theorem dX8_load_1 : decode cX8_load 1 = .ok (.getfield 33, 3) := by decide +kernel
theorem dX8_load_4 : decode cX8_load 4 = .ok (.invokevirtual 192, 3) := by decide +kernel
theorem dX8_load_7 : decode cX8_load 7 = .ok (.ifCond .ne 13, 3) := by decide +kernel
theorem dX8_load_10 : decode cX8_load 10 = .ok (.new 41, 3) := by decide +kernel
theorem dX8_load_13 : decode cX8_load 13 = .ok (.dup, 1) := by decide +kernel
theorem dX8_load_14 : decode cX8_load 14 = .ok (.ldc 195, 2) := by decide +kernel
theorem dX8_load_16 : decode cX8_load 16 = .ok (.invokespecial 45, 3) := by decide +kernel
theorem dX8_load_19 : decode cX8_load 19 = .ok (.athrow, 1) := by decide +kernel
theorem dX8_load_20 : decode cX8_load 20 = .ok (.aload_n 0, 1) := by decide +kernel
theorem dX8_load_21 : decode cX8_load 21 = .ok (.getfield 33, 3) := by decide +kernel
theorem dX8_load_24 : decode cX8_load 24 = .ok (.invokevirtual 197, 3) := by decide +kernel
theorem dX8_load_27 : decode cX8_load 27 = .ok (.bipush 48, 2) := by decide +kernel
theorem dX8_load_29 : decode cX8_load 29 = .ok (.if_icmp .le 13, 3) := by decide +kernel
theorem dX8_load_32 : decode cX8_load 32 = .ok (.new 55, 3) := by decide +kernel
theorem dX8_load_35 : decode cX8_load 35 = .ok (.dup, 1) := by decide +kernel
theorem dX8_load_36 : decode cX8_load 36 = .ok (.ldc 200, 2) := by decide +kernel
theorem dX8_load_38 : decode cX8_load 38 = .ok (.invokespecial 59, 3) := by decide +kernel
theorem dX8_load_41 : decode cX8_load 41 = .ok (.athrow, 1) := by decide +kernel
theorem dX8_load_42 : decode cX8_load 42 = .ok (.aload_n 0, 1) := by decide +kernel
theorem dX8_load_43 : decode cX8_load 43 = .ok (.invokevirtual 60, 3) := by decide +kernel
theorem dX8_load_46 : decode cX8_load 46 = .ok (.aload_n 0, 1) := by decide +kernel
theorem dX8_load_47 : decode cX8_load 47 = .ok (.getfield 33, 3) := by decide +kernel
theorem dX8_load_50 : decode cX8_load 50 = .ok (.aload_n 0, 1) := by decide +kernel
theorem dX8_load_51 : decode cX8_load 51 = .ok (.getfield 10, 3) := by decide +kernel
theorem dX8_load_54 : decode cX8_load 54 = .ok (.getfield 202, 3) := by decide +kernel
theorem dX8_load_57 : decode cX8_load 57 = .ok (.invokevirtual 206, 3) := by decide +kernel
theorem dX8_load_60 : decode cX8_load 60 = .ok (.aload_n 0, 1) := by decide +kernel
theorem dX8_load_61 : decode cX8_load 61 = .ok (.getfield 33, 3) := by decide +kernel
theorem dX8_load_64 : decode cX8_load 64 = .ok (.iconst 0, 1) := by decide +kernel
theorem dX8_load_65 : decode cX8_load 65 = .ok (.putfield 186, 3) := by decide +kernel
theorem dX8_load_68 : decode cX8_load 68 = .ok (.aload_n 0, 1) := by decide +kernel
theorem dX8_load_69 : decode cX8_load 69 = .ok (.getfield 10, 3) := by decide +kernel
theorem dX8_load_72 : decode cX8_load 72 = .ok (.getfield 202, 3) := by decide +kernel
theorem dX8_load_75 : decode cX8_load 75 = .ok (.getfield 210, 3) := by decide +kernel
theorem dX8_load_78 : decode cX8_load 78 = .ok (.ireturn, 1) := by decide +kernel
set_option maxRecDepth 20000 in
theorem ggX8_turbine_X8_requireTurbine : GoodIn wsX8_turbine wsX8_requireTurbine := goodIn_r _ [8, 9, 10, 3, 11, 12, 13, 14, 15, 16, 79, 80, 81, 82, 83, 84, 85, 86, 87, 88, 89, 90, 91, 92, 93, 94] (by decide +kernel) (by decide +kernel)
set_option maxRecDepth 20000 in
theorem gX8_turbine_X8_requireTurbine : GoodIn wsX8_turbine (wsV RX8 67 RX8 yX8_requireTurbine wsX8_requireTurbine) := goodIn_app (goodIn_of _ (by decide +kernel)) ggX8_turbine_X8_requireTurbine
set_option maxRecDepth 20000 in
theorem ggX8_turbine_X8_isWithin : GoodIn wsX8_turbine wsX8_isWithin := goodIn_r _ [19] (by decide +kernel) (by decide +kernel)
set_option maxRecDepth 20000 in
theorem gX8_turbine_X8_isWithin : GoodIn wsX8_turbine (va_wsS RX8 37 yX8_isWithin wsX8_isWithin) := goodIn_app (goodIn_of _ (by decide +kernel)) ggX8_turbine_X8_isWithin
set_option maxRecDepth 20000 in
theorem ggX8_turbine_X2_turbineProperty : GoodIn wsX8_turbine wsX2_turbineProperty := goodIn_r _ [23, 24, 25, 26, 27, 28, 29, 30, 31, 32, 33, 34, 35, 12, 13, 14, 15, 16, 36, 37, 38, 39, 40, 41, 42, 43, 44, 45, 46, 47, 48, 49, 50, 51, 52, 53, 54, 55, 56, 57, 58, 59, 60, 61, 62, 63, 64, 65, 66, 67, 68, 69, 70, 71, 72, 73, 74, 75, 76, 77, 78, 85, 86, 87, 88, 89, 90, 91, 92, 93, 94, 95, 96, 97, 98, 99, 100, 101, 102, 103, 104, 105, 106, 107, 108] (by decide +kernel) (by decide +kernel)
set_option maxRecDepth 20000 in
theorem gX8_turbine_X2_turbineProperty : GoodIn wsX8_turbine (wsV RX8 221 RX2 yX2_turbineProperty wsX2_turbineProperty) := goodIn_app (goodIn_of _ (by decide +kernel)) ggX8_turbine_X2_turbineProperty
theorem dX8_turbine_0 : decode cX8_turbine 0 = .ok (.aload_n 0, 1) := by decide +kernel
theorem dX8_turbine_1 : decode cX8_turbine 1 = .ok (.iload_n 1, 1) := by decide +kernel
theorem dX8_turbine_2 : decode cX8_turbine 2 = .ok (.invokevirtual 67, 3) := by decide +kernel
theorem dX8_turbine_5 : decode cX8_turbine 5 = .ok (.iload_n 2, 1) := by decide +kernel
theorem dX8_turbine_6 : decode cX8_turbine 6 = .ok (.iconst 0, 1) := by decide +kernel
theorem dX8_turbine_7 : decode cX8_turbine 7 = .ok (.bipush 10, 2) := by decide +kernel
theorem dX8_turbine_9 : decode cX8_turbine 9 = .ok (.invokestatic 37, 3) := by decide +kernel
theorem dX8_turbine_12 : decode cX8_turbine 12 = .ok (.ifCond .ne 13, 3) := by decide +kernel
theorem dX8_turbine_15 : decode cX8_turbine 15 = .ok (.new 41, 3) := by decide +kernel
theorem dX8_turbine_18 : decode cX8_turbine 18 = .ok (.dup, 1) := by decide +kernel
theorem dX8_turbine_19 : decode cX8_turbine 19 = .ok (.ldc 219, 2) := by decide +kernel
theorem dX8_turbine_21 : decode cX8_turbine 21 = .ok (.invokespecial 45, 3) := by decide +kernel
theorem dX8_turbine_24 : decode cX8_turbine 24 = .ok (.athrow, 1) := by decide +kernel
theorem dX8_turbine_25 : decode cX8_turbine 25 = .ok (.aload_n 0, 1) := by decide +kernel
theorem dX8_turbine_26 : decode cX8_turbine 26 = .ok (.getfield 10, 3) := by decide +kernel
theorem dX8_turbine_29 : decode cX8_turbine 29 = .ok (.iload_n 1, 1) := by decide +kernel
theorem dX8_turbine_30 : decode cX8_turbine 30 = .ok (.iload_n 2, 1) := by decide +kernel
theorem dX8_turbine_31 : decode cX8_turbine 31 = .ok (.invokevirtual 221, 3) := by decide +kernel
theorem dX8_turbine_34 : decode cX8_turbine 34 = .ok (.ireturn, 1) := by decide +kernel
set_option maxRecDepth 20000 in
theorem ggX8_blade_X8_isWithin : GoodIn wsX8_blade wsX8_isWithin := goodIn_r _ [13] (by decide +kernel) (by decide +kernel)
set_option maxRecDepth 20000 in
theorem gX8_blade_X8_isWithin : GoodIn wsX8_blade (va_wsS RX8 37 yX8_isWithin wsX8_isWithin) := goodIn_app (goodIn_of _ (by decide +kernel)) ggX8_blade_X8_isWithin
theorem dX8_blade_0 : decode cX8_blade 0 = .ok (.iload_n 1, 1) := by decide +kernel
theorem dX8_blade_1 : decode cX8_blade 1 = .ok (.iconst 0, 1) := by decide +kernel
theorem dX8_blade_2 : decode cX8_blade 2 = .ok (.aload_n 0, 1) := by decide +kernel
theorem dX8_blade_3 : decode cX8_blade 3 = .ok (.getfield 10, 3) := by decide +kernel
theorem dX8_blade_6 : decode cX8_blade 6 = .ok (.getfield 151, 3) := by decide +kernel
theorem dX8_blade_9 : decode cX8_blade 9 = .ok (.getfield 167, 3) := by decide +kernel
theorem dX8_blade_12 : decode cX8_blade 12 = .ok (.iconst 1, 1) := by decide +kernel
theorem dX8_blade_13 : decode cX8_blade 13 = .ok (.isub, 1) := by decide +kernel
theorem dX8_blade_14 : decode cX8_blade 14 = .ok (.invokestatic 37, 3) := by decide +kernel
theorem dX8_blade_17 : decode cX8_blade 17 = .ok (.ifCond .ne 13, 3) := by decide +kernel
theorem dX8_blade_20 : decode cX8_blade 20 = .ok (.new 134, 3) := by decide +kernel
theorem dX8_blade_23 : decode cX8_blade 23 = .ok (.dup, 1) := by decide +kernel
theorem dX8_blade_24 : decode cX8_blade 24 = .ok (.ldc 225, 2) := by decide +kernel
theorem dX8_blade_26 : decode cX8_blade 26 = .ok (.invokespecial 138, 3) := by decide +kernel
theorem dX8_blade_29 : decode cX8_blade 29 = .ok (.athrow, 1) := by decide +kernel
theorem dX8_blade_30 : decode cX8_blade 30 = .ok (.iload_n 2, 1) := by decide +kernel
theorem dX8_blade_31 : decode cX8_blade 31 = .ok (.iconst 0, 1) := by decide +kernel
theorem dX8_blade_32 : decode cX8_blade 32 = .ok (.iconst 1, 1) := by decide +kernel
theorem dX8_blade_33 : decode cX8_blade 33 = .ok (.invokestatic 37, 3) := by decide +kernel
theorem dX8_blade_36 : decode cX8_blade 36 = .ok (.ifCond .ne 13, 3) := by decide +kernel
theorem dX8_blade_39 : decode cX8_blade 39 = .ok (.new 41, 3) := by decide +kernel
theorem dX8_blade_42 : decode cX8_blade 42 = .ok (.dup, 1) := by decide +kernel
theorem dX8_blade_43 : decode cX8_blade 43 = .ok (.ldc 227, 2) := by decide +kernel
theorem dX8_blade_45 : decode cX8_blade 45 = .ok (.invokespecial 45, 3) := by decide +kernel
theorem dX8_blade_48 : decode cX8_blade 48 = .ok (.athrow, 1) := by decide +kernel
theorem dX8_blade_49 : decode cX8_blade 49 = .ok (.iload_n 2, 1) := by decide +kernel
theorem dX8_blade_50 : decode cX8_blade 50 = .ok (.ifCond .ne 18, 3) := by decide +kernel
theorem dX8_blade_53 : decode cX8_blade 53 = .ok (.aload_n 0, 1) := by decide +kernel
theorem dX8_blade_54 : decode cX8_blade 54 = .ok (.getfield 10, 3) := by decide +kernel
theorem dX8_blade_57 : decode cX8_blade 57 = .ok (.getfield 151, 3) := by decide +kernel
theorem dX8_blade_60 : decode cX8_blade 60 = .ok (.getfield 229, 3) := by decide +kernel
theorem dX8_blade_63 : decode cX8_blade 63 = .ok (.iload_n 1, 1) := by decide +kernel
theorem dX8_blade_64 : decode cX8_blade 64 = .ok (.iaload, 1) := by decide +kernel
theorem dX8_blade_65 : decode cX8_blade 65 = .ok (.goto 15, 3) := by decide +kernel
theorem dX8_blade_68 : decode cX8_blade 68 = .ok (.aload_n 0, 1) := by decide +kernel
theorem dX8_blade_69 : decode cX8_blade 69 = .ok (.getfield 10, 3) := by decide +kernel
theorem dX8_blade_72 : decode cX8_blade 72 = .ok (.getfield 151, 3) := by decide +kernel
theorem dX8_blade_75 : decode cX8_blade 75 = .ok (.getfield 232, 3) := by decide +kernel
theorem dX8_blade_78 : decode cX8_blade 78 = .ok (.iload_n 1, 1) := by decide +kernel
theorem dX8_blade_79 : decode cX8_blade 79 = .ok (.iaload, 1) := by decide +kernel
theorem dX8_blade_80 : decode cX8_blade 80 = .ok (.ireturn, 1) := by decide +kernel
set_option maxRecDepth 20000 in
theorem ggX8_bog_X8_isWithin : GoodIn wsX8_bog wsX8_isWithin := goodIn_r _ [13] (by decide +kernel) (by decide +kernel)
set_option maxRecDepth 20000 in
theorem gX8_bog_X8_isWithin : GoodIn wsX8_bog (va_wsS RX8 37 yX8_isWithin wsX8_isWithin) := goodIn_app (goodIn_of _ (by decide +kernel)) ggX8_bog_X8_isWithin
theorem dX8_bog_0 : decode cX8_bog 0 = .ok (.iload_n 1, 1) := by decide +kernel
theorem dX8_bog_1 : decode cX8_bog 1 = .ok (.iconst 0, 1) := by decide +kernel
theorem dX8_bog_2 : decode cX8_bog 2 = .ok (.aload_n 0, 1) := by decide +kernel
theorem dX8_bog_3 : decode cX8_bog 3 = .ok (.getfield 10, 3) := by decide +kernel
theorem dX8_bog_6 : decode cX8_bog 6 = .ok (.getfield 87, 3) := by decide +kernel
theorem dX8_bog_9 : decode cX8_bog 9 = .ok (.getfield 107, 3) := by decide +kernel
theorem dX8_bog_12 : decode cX8_bog 12 = .ok (.iconst 1, 1) := by decide +kernel
theorem dX8_bog_13 : decode cX8_bog 13 = .ok (.isub, 1) := by decide +kernel
theorem dX8_bog_14 : decode cX8_bog 14 = .ok (.invokestatic 37, 3) := by decide +kernel
theorem dX8_bog_17 : decode cX8_bog 17 = .ok (.ifCond .ne 13, 3) := by decide +kernel
theorem dX8_bog_20 : decode cX8_bog 20 = .ok (.new 134, 3) := by decide +kernel
theorem dX8_bog_23 : decode cX8_bog 23 = .ok (.dup, 1) := by decide +kernel
theorem dX8_bog_24 : decode cX8_bog 24 = .ok (.ldc 235, 2) := by decide +kernel
theorem dX8_bog_26 : decode cX8_bog 26 = .ok (.invokespecial 138, 3) := by decide +kernel
theorem dX8_bog_29 : decode cX8_bog 29 = .ok (.athrow, 1) := by decide +kernel
theorem dX8_bog_30 : decode cX8_bog 30 = .ok (.iload_n 2, 1) := by decide +kernel
theorem dX8_bog_31 : decode cX8_bog 31 = .ok (.iconst 0, 1) := by decide +kernel
theorem dX8_bog_32 : decode cX8_bog 32 = .ok (.iconst 1, 1) := by decide +kernel
theorem dX8_bog_33 : decode cX8_bog 33 = .ok (.invokestatic 37, 3) := by decide +kernel
theorem dX8_bog_36 : decode cX8_bog 36 = .ok (.ifCond .ne 13, 3) := by decide +kernel
theorem dX8_bog_39 : decode cX8_bog 39 = .ok (.new 41, 3) := by decide +kernel
theorem dX8_bog_42 : decode cX8_bog 42 = .ok (.dup, 1) := by decide +kernel
theorem dX8_bog_43 : decode cX8_bog 43 = .ok (.ldc 227, 2) := by decide +kernel
theorem dX8_bog_45 : decode cX8_bog 45 = .ok (.invokespecial 45, 3) := by decide +kernel
theorem dX8_bog_48 : decode cX8_bog 48 = .ok (.athrow, 1) := by decide +kernel
theorem dX8_bog_49 : decode cX8_bog 49 = .ok (.iload_n 2, 1) := by decide +kernel
theorem dX8_bog_50 : decode cX8_bog 50 = .ok (.ifCond .ne 18, 3) := by decide +kernel
theorem dX8_bog_53 : decode cX8_bog 53 = .ok (.aload_n 0, 1) := by decide +kernel
theorem dX8_bog_54 : decode cX8_bog 54 = .ok (.getfield 10, 3) := by decide +kernel
theorem dX8_bog_57 : decode cX8_bog 57 = .ok (.getfield 87, 3) := by decide +kernel
theorem dX8_bog_60 : decode cX8_bog 60 = .ok (.getfield 237, 3) := by decide +kernel
theorem dX8_bog_63 : decode cX8_bog 63 = .ok (.iload_n 1, 1) := by decide +kernel
theorem dX8_bog_64 : decode cX8_bog 64 = .ok (.iaload, 1) := by decide +kernel
theorem dX8_bog_65 : decode cX8_bog 65 = .ok (.goto 15, 3) := by decide +kernel
theorem dX8_bog_68 : decode cX8_bog 68 = .ok (.aload_n 0, 1) := by decide +kernel
theorem dX8_bog_69 : decode cX8_bog 69 = .ok (.getfield 10, 3) := by decide +kernel
theorem dX8_bog_72 : decode cX8_bog 72 = .ok (.getfield 87, 3) := by decide +kernel
theorem dX8_bog_75 : decode cX8_bog 75 = .ok (.getfield 240, 3) := by decide +kernel
theorem dX8_bog_78 : decode cX8_bog 78 = .ok (.iload_n 1, 1) := by decide +kernel
theorem dX8_bog_79 : decode cX8_bog 79 = .ok (.iaload, 1) := by decide +kernel
theorem dX8_bog_80 : decode cX8_bog 80 = .ok (.ireturn, 1) := by decide +kernel
set_option maxRecDepth 20000 in
theorem ggX8_claims_X8_isWithin : GoodIn wsX8_claims wsX8_isWithin := goodIn_r _ [8] (by decide +kernel) (by decide +kernel)
set_option maxRecDepth 20000 in
theorem gX8_claims_X8_isWithin : GoodIn wsX8_claims (va_wsS RX8 37 yX8_isWithin wsX8_isWithin) := goodIn_app (goodIn_of _ (by decide +kernel)) ggX8_claims_X8_isWithin
theorem dX8_claims_0 : decode cX8_claims 0 = .ok (.iload_n 1, 1) := by decide +kernel
theorem dX8_claims_1 : decode cX8_claims 1 = .ok (.iconst 0, 1) := by decide +kernel
theorem dX8_claims_2 : decode cX8_claims 2 = .ok (.iconst 4, 1) := by decide +kernel
theorem dX8_claims_3 : decode cX8_claims 3 = .ok (.invokestatic 37, 3) := by decide +kernel
theorem dX8_claims_6 : decode cX8_claims 6 = .ok (.ifCond .ne 13, 3) := by decide +kernel
theorem dX8_claims_9 : decode cX8_claims 9 = .ok (.new 41, 3) := by decide +kernel
theorem dX8_claims_12 : decode cX8_claims 12 = .ok (.dup, 1) := by decide +kernel
theorem dX8_claims_13 : decode cX8_claims 13 = .ok (.ldc 243, 2) := by decide +kernel
theorem dX8_claims_15 : decode cX8_claims 15 = .ok (.invokespecial 45, 3) := by decide +kernel
theorem dX8_claims_18 : decode cX8_claims 18 = .ok (.athrow, 1) := by decide +kernel
theorem dX8_claims_19 : decode cX8_claims 19 = .ok (.aload_n 0, 1) := by decide +kernel
theorem dX8_claims_20 : decode cX8_claims 20 = .ok (.getfield 10, 3) := by decide +kernel
theorem dX8_claims_23 : decode cX8_claims 23 = .ok (.getfield 245, 3) := by decide +kernel
theorem dX8_claims_26 : decode cX8_claims 26 = .ok (.iload_n 1, 1) := by decide +kernel
theorem dX8_claims_27 : decode cX8_claims 27 = .ok (.iaload, 1) := by decide +kernel
theorem dX8_claims_28 : decode cX8_claims 28 = .ok (.ireturn, 1) := by decide +kernel
set_option maxRecDepth 20000 in
theorem ggX8_count_X8_isWithin : GoodIn wsX8_count wsX8_isWithin := goodIn_r _ [6] (by decide +kernel) (by decide +kernel)
set_option maxRecDepth 20000 in
theorem gX8_count_X8_isWithin : GoodIn wsX8_count (va_wsS RX8 37 yX8_isWithin wsX8_isWithin) := goodIn_app (goodIn_of _ (by decide +kernel)) ggX8_count_X8_isWithin
set_option maxRecDepth 20000 in
theorem ggX8_count_X8_numberOf : GoodIn wsX8_count wsX8_numberOf := goodIn_r _ [10, 11, 12, 13, 14, 15, 16, 17, 18, 19, 20, 21, 22, 23, 24, 25, 26, 27, 28, 29, 30, 31, 32, 33, 34, 35, 36, 37, 38, 39, 40, 41, 42, 43, 44, 45, 46, 47, 48, 49, 50, 51, 52, 53, 54, 55, 56, 57, 58, 59, 60, 61, 62, 63, 64, 65, 66, 67, 68, 69, 70, 71, 72, 73, 74, 75, 76, 77, 78, 79, 80, 81, 82, 83, 84, 85, 86, 87, 88, 89, 90, 91, 92, 93, 94, 95, 96, 97, 98, 99, 100, 101, 102, 103, 104] (by decide +kernel) (by decide +kernel)
set_option maxRecDepth 20000 in
theorem gX8_count_X8_numberOf : GoodIn wsX8_count (wsV RX8 250 RX8 yX8_numberOf wsX8_numberOf) := goodIn_app (goodIn_of _ (by decide +kernel)) ggX8_count_X8_numberOf
theorem dX8_count_0 : decode cX8_count 0 = .ok (.iload_n 1, 1) := by decide +kernel
theorem dX8_count_1 : decode cX8_count 1 = .ok (.iconst 0, 1) := by decide +kernel
theorem dX8_count_2 : decode cX8_count 2 = .ok (.bipush 14, 2) := by decide +kernel
theorem dX8_count_4 : decode cX8_count 4 = .ok (.invokestatic 37, 3) := by decide +kernel
theorem dX8_count_7 : decode cX8_count 7 = .ok (.ifCond .ne 13, 3) := by decide +kernel
theorem dX8_count_10 : decode cX8_count 10 = .ok (.new 41, 3) := by decide +kernel
theorem dX8_count_13 : decode cX8_count 13 = .ok (.dup, 1) := by decide +kernel
theorem dX8_count_14 : decode cX8_count 14 = .ok (.ldc 248, 2) := by decide +kernel
theorem dX8_count_16 : decode cX8_count 16 = .ok (.invokespecial 45, 3) := by decide +kernel
theorem dX8_count_19 : decode cX8_count 19 = .ok (.athrow, 1) := by decide +kernel
theorem dX8_count_20 : decode cX8_count 20 = .ok (.aload_n 0, 1) := by decide +kernel
theorem dX8_count_21 : decode cX8_count 21 = .ok (.iload_n 1, 1) := by decide +kernel
theorem dX8_count_22 : decode cX8_count 22 = .ok (.invokevirtual 250, 3) := by decide +kernel
theorem dX8_count_25 : decode cX8_count 25 = .ok (.ireturn, 1) := by decide +kernel
set_option maxRecDepth 20000 in
theorem ggX8_setting_X8_requireSetting : GoodIn wsX8_setting wsX8_requireSetting := goodIn_r _ [6, 7, 8, 9, 10, 5, 11] (by decide +kernel) (by decide +kernel)
set_option maxRecDepth 20000 in
theorem gX8_setting_X8_requireSetting : GoodIn wsX8_setting (va_wsS RX8 110 yX8_requireSetting wsX8_requireSetting) := goodIn_app (goodIn_of _ (by decide +kernel)) ggX8_setting_X8_requireSetting
theorem dX8_setting_0 : decode cX8_setting 0 = .ok (.iload_n 1, 1) := by decide +kernel
theorem dX8_setting_1 : decode cX8_setting 1 = .ok (.invokestatic 110, 3) := by decide +kernel
theorem dX8_setting_4 : decode cX8_setting 4 = .ok (.aload_n 0, 1) := by decide +kernel
theorem dX8_setting_5 : decode cX8_setting 5 = .ok (.getfield 10, 3) := by decide +kernel
theorem dX8_setting_8 : decode cX8_setting 8 = .ok (.getfield 122, 3) := by decide +kernel
theorem dX8_setting_11 : decode cX8_setting 11 = .ok (.iload_n 1, 1) := by decide +kernel
theorem dX8_setting_12 : decode cX8_setting 12 = .ok (.iaload, 1) := by decide +kernel
theorem dX8_setting_13 : decode cX8_setting 13 = .ok (.ireturn, 1) := by decide +kernel
set_option maxRecDepth 20000 in
theorem ggX8_way_X8_isWithin : GoodIn wsX8_way wsX8_isWithin := goodIn_r _ [7] (by decide +kernel) (by decide +kernel)
set_option maxRecDepth 20000 in
theorem gX8_way_X8_isWithin : GoodIn wsX8_way (va_wsS RX8 37 yX8_isWithin wsX8_isWithin) := goodIn_app (goodIn_of _ (by decide +kernel)) ggX8_way_X8_isWithin
set_option maxRecDepth 20000 in
theorem ggX8_way_X2_hoursBetween : GoodIn wsX8_way wsX2_hoursBetween := goodIn_r _ [12, 13, 14, 15, 16, 17, 18, 19, 20, 21, 22, 23, 24, 25, 26, 27, 28, 29, 30, 31, 32, 39, 40, 41, 42, 43, 44, 45, 46, 47, 48, 49, 50, 51] (by decide +kernel) (by decide +kernel)
set_option maxRecDepth 20000 in
theorem gX8_way_X2_hoursBetween : GoodIn wsX8_way (wsV RX8 255 RX2 yX2_hoursBetween wsX2_hoursBetween) := goodIn_app (goodIn_of _ (by decide +kernel)) ggX8_way_X2_hoursBetween
theorem dX8_way_0 : decode cX8_way 0 = .ok (.iload_n 1, 1) := by decide +kernel
theorem dX8_way_1 : decode cX8_way 1 = .ok (.iconst 0, 1) := by decide +kernel
theorem dX8_way_2 : decode cX8_way 2 = .ok (.bipush 99, 2) := by decide +kernel
theorem dX8_way_4 : decode cX8_way 4 = .ok (.invokestatic 37, 3) := by decide +kernel
theorem dX8_way_7 : decode cX8_way 7 = .ok (.ifCond .eq 13, 3) := by decide +kernel
theorem dX8_way_10 : decode cX8_way 10 = .ok (.iload_n 2, 1) := by decide +kernel
theorem dX8_way_11 : decode cX8_way 11 = .ok (.iconst 0, 1) := by decide +kernel
theorem dX8_way_12 : decode cX8_way 12 = .ok (.bipush 99, 2) := by decide +kernel
theorem dX8_way_14 : decode cX8_way 14 = .ok (.invokestatic 37, 3) := by decide +kernel
theorem dX8_way_17 : decode cX8_way 17 = .ok (.ifCond .ne 13, 3) := by decide +kernel
theorem dX8_way_20 : decode cX8_way 20 = .ok (.new 41, 3) := by decide +kernel
theorem dX8_way_23 : decode cX8_way 23 = .ok (.dup, 1) := by decide +kernel
theorem dX8_way_24 : decode cX8_way 24 = .ok (.ldc 253, 2) := by decide +kernel
theorem dX8_way_26 : decode cX8_way 26 = .ok (.invokespecial 45, 3) := by decide +kernel
theorem dX8_way_29 : decode cX8_way 29 = .ok (.athrow, 1) := by decide +kernel
theorem dX8_way_30 : decode cX8_way 30 = .ok (.aload_n 0, 1) := by decide +kernel
theorem dX8_way_31 : decode cX8_way 31 = .ok (.getfield 10, 3) := by decide +kernel
theorem dX8_way_34 : decode cX8_way 34 = .ok (.iload_n 1, 1) := by decide +kernel
theorem dX8_way_35 : decode cX8_way 35 = .ok (.iload_n 2, 1) := by decide +kernel
theorem dX8_way_36 : decode cX8_way 36 = .ok (.invokevirtual 255, 3) := by decide +kernel
theorem dX8_way_39 : decode cX8_way 39 = .ok (.ireturn, 1) := by decide +kernel
set_option maxRecDepth 20000 in
theorem ggX8_ifPassed_X8_isWithin : GoodIn wsX8_ifPassed wsX8_isWithin := goodIn_r _ [8] (by decide +kernel) (by decide +kernel)
set_option maxRecDepth 20000 in
theorem gX8_ifPassed_X8_isWithin : GoodIn wsX8_ifPassed (va_wsS RX8 37 yX8_isWithin wsX8_isWithin) := goodIn_app (goodIn_of _ (by decide +kernel)) ggX8_ifPassed_X8_isWithin
set_option maxRecDepth 20000 in
theorem ggX8_ifPassed_X2_copyFrom : GoodIn wsX8_ifPassed wsX2_copyFrom := goodIn_r _ [13, 14, 15, 16, 17, 18, 19, 20, 21, 22, 23, 24, 25, 26, 27, 28, 29, 30, 31, 32, 33, 34, 35, 36, 37, 38, 39, 40, 41, 42, 43, 44, 45, 46, 47, 48, 49, 50, 51, 52, 53, 54, 55, 56, 57, 58, 59, 60, 61, 62, 63, 64, 65, 66, 67, 68, 69, 70, 71, 72, 73, 74, 75, 76, 77, 78, 79, 80, 81, 82, 83, 232, 233, 234, 235, 236, 237, 238, 239, 240, 241, 242, 243, 244, 245, 246, 247, 248, 249, 250, 251, 252, 253, 254, 255, 256, 257, 258, 259, 260, 261, 262, 263] (by decide +kernel) (by decide +kernel)
set_option maxRecDepth 20000 in
theorem gX8_ifPassed_X2_copyFrom : GoodIn wsX8_ifPassed (wsV RX8 215 RX2 yX2_copyFrom wsX2_copyFrom) := goodIn_app (goodIn_of _ (by decide +kernel)) ggX8_ifPassed_X2_copyFrom
set_option maxRecDepth 20000 in
theorem ggX8_ifPassed_X2_runHours : GoodIn wsX8_ifPassed wsX2_runHours := goodIn_r _ [87, 88, 89, 90, 12, 91, 17, 21, 18, 27, 92, 93, 94, 52, 95, 57, 56, 96, 97, 98, 99, 100, 101, 102, 103, 104, 19, 105, 15, 106, 107, 108, 109, 61, 110, 65, 63, 111, 112, 113, 69, 114, 75, 74, 115, 116, 117, 118, 14, 119, 120, 121, 122, 123, 124, 125, 126, 127, 128, 129, 130, 131, 132, 73, 133, 134, 135, 136, 137, 138, 139, 140, 141, 142, 16, 143, 144, 145, 146, 43, 147, 48, 45, 47, 148, 149, 150, 151, 72, 152, 71, 153, 154, 155, 156, 54, 157, 158, 159, 160, 20, 161, 162, 163, 79, 164, 83, 81, 165, 166, 167, 31, 168, 34, 169, 170, 171, 172, 173, 174, 175, 176, 177, 178, 26, 179, 180, 181, 182, 35, 183, 184, 185, 186, 187, 188, 189, 190, 191, 192, 193, 194, 195, 196, 197, 198, 199, 200, 201, 202, 203, 204, 205, 206, 207, 208, 209, 36, 37, 232, 233, 234, 235, 236, 237, 238, 239, 240, 241, 252, 253, 254, 255, 256, 257, 258, 259, 260, 261, 242, 243, 244, 245, 246, 247, 248, 249, 250, 251, 262, 263] (by decide +kernel) (by decide +kernel)
set_option maxRecDepth 20000 in
theorem gX8_ifPassed_X2_runHours : GoodIn wsX8_ifPassed (wsV RX8 175 RX2 yX2_runHours wsX2_runHours) := goodIn_app (goodIn_of _ (by decide +kernel)) ggX8_ifPassed_X2_runHours
set_option maxRecDepth 20000 in
theorem ggX8_ifPassed_X2_outcome : GoodIn wsX8_ifPassed wsX2_outcome := goodIn_r _ [213, 18, 104, 26, 214, 215, 216, 12, 217, 218, 219, 220, 221, 14, 15, 178, 222, 223, 224, 225, 106, 232, 233, 234, 235, 236, 237, 238, 239, 240, 241, 255, 256, 242, 243, 244, 245, 246, 247, 248] (by decide +kernel) (by decide +kernel)
set_option maxRecDepth 20000 in
theorem gX8_ifPassed_X2_outcome : GoodIn wsX8_ifPassed (wsV RX8 260 RX2 yX2_outcome wsX2_outcome) := goodIn_app (goodIn_of _ (by decide +kernel)) ggX8_ifPassed_X2_outcome
theorem dX8_ifPassed_0 : decode cX8_ifPassed 0 = .ok (.iload_n 1, 1) := by decide +kernel
theorem dX8_ifPassed_1 : decode cX8_ifPassed 1 = .ok (.iconst 1, 1) := by decide +kernel
theorem dX8_ifPassed_2 : decode cX8_ifPassed 2 = .ok (.sipush 200, 3) := by decide +kernel
theorem dX8_ifPassed_5 : decode cX8_ifPassed 5 = .ok (.invokestatic 37, 3) := by decide +kernel
theorem dX8_ifPassed_8 : decode cX8_ifPassed 8 = .ok (.ifCond .eq 13, 3) := by decide +kernel
theorem dX8_ifPassed_11 : decode cX8_ifPassed 11 = .ok (.iload_n 2, 1) := by decide +kernel
theorem dX8_ifPassed_12 : decode cX8_ifPassed 12 = .ok (.iconst 0, 1) := by decide +kernel
theorem dX8_ifPassed_13 : decode cX8_ifPassed 13 = .ok (.bipush 8, 2) := by decide +kernel
theorem dX8_ifPassed_15 : decode cX8_ifPassed 15 = .ok (.invokestatic 37, 3) := by decide +kernel
theorem dX8_ifPassed_18 : decode cX8_ifPassed 18 = .ok (.ifCond .ne 14, 3) := by decide +kernel
theorem dX8_ifPassed_21 : decode cX8_ifPassed 21 = .ok (.new 41, 3) := by decide +kernel
theorem dX8_ifPassed_24 : decode cX8_ifPassed 24 = .ok (.dup, 1) := by decide +kernel
theorem dX8_ifPassed_25 : decode cX8_ifPassed 25 = .ok (.ldc_w 258, 3) := by decide +kernel
theorem dX8_ifPassed_28 : decode cX8_ifPassed 28 = .ok (.invokespecial 45, 3) := by decide +kernel
theorem dX8_ifPassed_31 : decode cX8_ifPassed 31 = .ok (.athrow, 1) := by decide +kernel
theorem dX8_ifPassed_32 : decode cX8_ifPassed 32 = .ok (.aload_n 0, 1) := by decide +kernel
theorem dX8_ifPassed_33 : decode cX8_ifPassed 33 = .ok (.getfield 16, 3) := by decide +kernel
theorem dX8_ifPassed_36 : decode cX8_ifPassed 36 = .ok (.aload_n 0, 1) := by decide +kernel
theorem dX8_ifPassed_37 : decode cX8_ifPassed 37 = .ok (.getfield 10, 3) := by decide +kernel
theorem dX8_ifPassed_40 : decode cX8_ifPassed 40 = .ok (.invokevirtual 215, 3) := by decide +kernel
theorem dX8_ifPassed_43 : decode cX8_ifPassed 43 = .ok (.aload_n 0, 1) := by decide +kernel
theorem dX8_ifPassed_44 : decode cX8_ifPassed 44 = .ok (.getfield 16, 3) := by decide +kernel
theorem dX8_ifPassed_47 : decode cX8_ifPassed 47 = .ok (.iload_n 1, 1) := by decide +kernel
theorem dX8_ifPassed_48 : decode cX8_ifPassed 48 = .ok (.invokevirtual 175, 3) := by decide +kernel
theorem dX8_ifPassed_51 : decode cX8_ifPassed 51 = .ok (.pop, 1) := by decide +kernel
theorem dX8_ifPassed_52 : decode cX8_ifPassed 52 = .ok (.aload_n 0, 1) := by decide +kernel
theorem dX8_ifPassed_53 : decode cX8_ifPassed 53 = .ok (.getfield 16, 3) := by decide +kernel
theorem dX8_ifPassed_56 : decode cX8_ifPassed 56 = .ok (.iload_n 2, 1) := by decide +kernel
theorem dX8_ifPassed_57 : decode cX8_ifPassed 57 = .ok (.invokevirtual 260, 3) := by decide +kernel
theorem dX8_ifPassed_60 : decode cX8_ifPassed 60 = .ok (.ireturn, 1) := by decide +kernel
set_option maxRecDepth 20000 in
theorem ggX8_bestFirst_X2_copyFrom : GoodIn wsX8_bestFirst wsX2_copyFrom := goodIn_r _ [10, 11, 12, 13, 14, 15, 16, 17, 18, 19, 20, 21, 22, 23, 24, 25, 26, 27, 28, 29, 30, 31, 32, 33, 34, 35, 36, 37, 38, 39, 40, 41, 42, 43, 44, 45, 46, 47, 48, 49, 50, 51, 52, 53, 54, 55, 56, 57, 58, 59, 60, 61, 62, 63, 64, 65, 66, 67, 68, 69, 70, 71, 72, 73, 74, 75, 76, 77, 78, 79, 80, 219, 220, 221, 222, 223, 224, 225, 226, 227, 228, 231, 232, 233, 234, 235, 236, 237, 238, 239, 240, 241, 242, 243, 229, 230, 244, 245, 246, 247, 248, 249, 250] (by decide +kernel) (by decide +kernel)
set_option maxRecDepth 20000 in
theorem gX8_bestFirst_X2_copyFrom : GoodIn wsX8_bestFirst (wsV RX8 215 RX2 yX2_copyFrom wsX2_copyFrom) := goodIn_app (goodIn_of _ (by decide +kernel)) ggX8_bestFirst_X2_copyFrom
set_option maxRecDepth 20000 in
theorem ggX8_bestFirst_X4_moveTo : GoodIn wsX8_bestFirst wsX4_moveTo := goodIn_r _ [84, 62, 60, 85, 86, 87, 58, 88, 89, 90, 91, 92, 229, 230] (by decide +kernel) (by decide +kernel)
set_option maxRecDepth 20000 in
theorem gX8_bestFirst_X4_moveTo : GoodIn wsX8_bestFirst (wsV RX8 139 RX4 yX4_moveTo wsX4_moveTo) := goodIn_app (goodIn_of _ (by decide +kernel)) ggX8_bestFirst_X4_moveTo
set_option maxRecDepth 20000 in
theorem ggX8_bestFirst_X2_runHours : GoodIn wsX8_bestFirst wsX2_runHours := goodIn_r _ [96, 97, 98, 99, 9, 100, 14, 18, 15, 24, 101, 102, 103, 49, 104, 54, 53, 105, 106, 107, 108, 109, 110, 111, 112, 113, 16, 114, 12, 115, 116, 117, 118, 58, 119, 62, 60, 120, 121, 122, 66, 123, 72, 71, 124, 125, 126, 127, 11, 128, 90, 91, 92, 129, 130, 131, 132, 133, 134, 135, 136, 137, 138, 70, 139, 140, 141, 142, 143, 144, 145, 146, 147, 148, 13, 149, 150, 151, 152, 40, 153, 45, 42, 44, 154, 155, 156, 157, 69, 158, 68, 159, 160, 161, 162, 51, 163, 164, 165, 166, 17, 167, 168, 169, 76, 170, 80, 78, 171, 172, 173, 28, 174, 31, 175, 176, 177, 178, 179, 180, 181, 182, 183, 184, 23, 185, 186, 187, 188, 32, 189, 190, 191, 192, 193, 194, 195, 196, 197, 198, 199, 200, 201, 202, 203, 204, 86, 87, 88, 205, 206, 207, 208, 209, 210, 211, 212, 33, 34, 219, 220, 221, 222, 223, 224, 225, 226, 227, 228, 241, 242, 243, 229, 230, 244, 245, 246, 247, 248, 231, 232, 233, 234, 235, 236, 237, 238, 239, 240, 249, 250] (by decide +kernel) (by decide +kernel)
set_option maxRecDepth 20000 in
theorem gX8_bestFirst_X2_runHours : GoodIn wsX8_bestFirst (wsV RX8 175 RX2 yX2_runHours wsX2_runHours) := goodIn_app (goodIn_of _ (by decide +kernel)) ggX8_bestFirst_X2_runHours
theorem dX8_bestFirst_0 : decode cX8_bestFirst 0 = .ok (.iconst (-1), 1) := by decide +kernel
theorem dX8_bestFirst_1 : decode cX8_bestFirst 1 = .ok (.istore_n 1, 1) := by decide +kernel
theorem dX8_bestFirst_2 : decode cX8_bestFirst 2 = .ok (.iconst 0, 1) := by decide +kernel
theorem dX8_bestFirst_3 : decode cX8_bestFirst 3 = .ok (.istore_n 2, 1) := by decide +kernel
theorem dX8_bestFirst_4 : decode cX8_bestFirst 4 = .ok (.iconst 0, 1) := by decide +kernel
theorem dX8_bestFirst_5 : decode cX8_bestFirst 5 = .ok (.istore_n 3, 1) := by decide +kernel
theorem dX8_bestFirst_6 : decode cX8_bestFirst 6 = .ok (.iload_n 3, 1) := by decide +kernel
theorem dX8_bestFirst_7 : decode cX8_bestFirst 7 = .ok (.aload_n 0, 1) := by decide +kernel
theorem dX8_bestFirst_8 : decode cX8_bestFirst 8 = .ok (.getfield 10, 3) := by decide +kernel
theorem dX8_bestFirst_11 : decode cX8_bestFirst 11 = .ok (.getfield 125, 3) := by decide +kernel
theorem dX8_bestFirst_14 : decode cX8_bestFirst 14 = .ok (.getfield 142, 3) := by decide +kernel
theorem dX8_bestFirst_17 : decode cX8_bestFirst 17 = .ok (.if_icmp .ge 75, 3) := by decide +kernel
theorem dX8_bestFirst_20 : decode cX8_bestFirst 20 = .ok (.aload_n 0, 1) := by decide +kernel
theorem dX8_bestFirst_21 : decode cX8_bestFirst 21 = .ok (.getfield 10, 3) := by decide +kernel
theorem dX8_bestFirst_24 : decode cX8_bestFirst 24 = .ok (.getfield 125, 3) := by decide +kernel
theorem dX8_bestFirst_27 : decode cX8_bestFirst 27 = .ok (.getfield 263, 3) := by decide +kernel
theorem dX8_bestFirst_30 : decode cX8_bestFirst 30 = .ok (.iload_n 3, 1) := by decide +kernel
theorem dX8_bestFirst_31 : decode cX8_bestFirst 31 = .ok (.iaload, 1) := by decide +kernel
theorem dX8_bestFirst_32 : decode cX8_bestFirst 32 = .ok (.istore 4, 2) := by decide +kernel
theorem dX8_bestFirst_34 : decode cX8_bestFirst 34 = .ok (.aload_n 0, 1) := by decide +kernel
theorem dX8_bestFirst_35 : decode cX8_bestFirst 35 = .ok (.getfield 16, 3) := by decide +kernel
theorem dX8_bestFirst_38 : decode cX8_bestFirst 38 = .ok (.aload_n 0, 1) := by decide +kernel
theorem dX8_bestFirst_39 : decode cX8_bestFirst 39 = .ok (.getfield 10, 3) := by decide +kernel
theorem dX8_bestFirst_42 : decode cX8_bestFirst 42 = .ok (.invokevirtual 215, 3) := by decide +kernel
theorem dX8_bestFirst_45 : decode cX8_bestFirst 45 = .ok (.aload_n 0, 1) := by decide +kernel
theorem dX8_bestFirst_46 : decode cX8_bestFirst 46 = .ok (.getfield 16, 3) := by decide +kernel
theorem dX8_bestFirst_49 : decode cX8_bestFirst 49 = .ok (.getfield 125, 3) := by decide +kernel
theorem dX8_bestFirst_52 : decode cX8_bestFirst 52 = .ok (.iload 4, 2) := by decide +kernel
theorem dX8_bestFirst_54 : decode cX8_bestFirst 54 = .ok (.iconst 0, 1) := by decide +kernel
theorem dX8_bestFirst_55 : decode cX8_bestFirst 55 = .ok (.invokevirtual 139, 3) := by decide +kernel
theorem dX8_bestFirst_58 : decode cX8_bestFirst 58 = .ok (.aload_n 0, 1) := by decide +kernel
theorem dX8_bestFirst_59 : decode cX8_bestFirst 59 = .ok (.getfield 16, 3) := by decide +kernel
theorem dX8_bestFirst_62 : decode cX8_bestFirst 62 = .ok (.bipush 48, 2) := by decide +kernel
theorem dX8_bestFirst_64 : decode cX8_bestFirst 64 = .ok (.invokevirtual 175, 3) := by decide +kernel
theorem dX8_bestFirst_67 : decode cX8_bestFirst 67 = .ok (.istore 5, 2) := by decide +kernel
theorem dX8_bestFirst_69 : decode cX8_bestFirst 69 = .ok (.iload_n 1, 1) := by decide +kernel
theorem dX8_bestFirst_70 : decode cX8_bestFirst 70 = .ok (.iconst (-1), 1) := by decide +kernel
theorem dX8_bestFirst_71 : decode cX8_bestFirst 71 = .ok (.if_icmp .eq 9, 3) := by decide +kernel
theorem dX8_bestFirst_74 : decode cX8_bestFirst 74 = .ok (.iload 5, 2) := by decide +kernel
theorem dX8_bestFirst_76 : decode cX8_bestFirst 76 = .ok (.iload_n 2, 1) := by decide +kernel
theorem dX8_bestFirst_77 : decode cX8_bestFirst 77 = .ok (.if_icmp .ge 9, 3) := by decide +kernel
theorem dX8_bestFirst_80 : decode cX8_bestFirst 80 = .ok (.iload 4, 2) := by decide +kernel
theorem dX8_bestFirst_82 : decode cX8_bestFirst 82 = .ok (.istore_n 1, 1) := by decide +kernel
theorem dX8_bestFirst_83 : decode cX8_bestFirst 83 = .ok (.iload 5, 2) := by decide +kernel
theorem dX8_bestFirst_85 : decode cX8_bestFirst 85 = .ok (.istore_n 2, 1) := by decide +kernel
theorem dX8_bestFirst_86 : decode cX8_bestFirst 86 = .ok (.iinc 3 1, 3) := by decide +kernel
theorem dX8_bestFirst_89 : decode cX8_bestFirst 89 = .ok (.goto (-83), 3) := by decide +kernel
theorem dX8_bestFirst_92 : decode cX8_bestFirst 92 = .ok (.iload_n 1, 1) := by decide +kernel
theorem dX8_bestFirst_93 : decode cX8_bestFirst 93 = .ok (.ireturn, 1) := by decide +kernel
set_option maxRecDepth 20000 in
theorem ggX8_window_X8_requireTurbine : GoodIn wsX8_window wsX8_requireTurbine := goodIn_r _ [8, 9, 10, 3, 11, 12, 13, 14, 15, 16, 42, 43, 44, 45, 46, 47, 48, 49, 50, 51, 52, 53, 54, 55, 56, 57] (by decide +kernel) (by decide +kernel)
set_option maxRecDepth 20000 in
theorem gX8_window_X8_requireTurbine : GoodIn wsX8_window (wsV RX8 67 RX8 yX8_requireTurbine wsX8_requireTurbine) := goodIn_app (goodIn_of _ (by decide +kernel)) ggX8_window_X8_requireTurbine
set_option maxRecDepth 20000 in
theorem ggX8_window_X8_isWithin : GoodIn wsX8_window wsX8_isWithin := goodIn_r _ [19] (by decide +kernel) (by decide +kernel)
set_option maxRecDepth 20000 in
theorem gX8_window_X8_isWithin : GoodIn wsX8_window (va_wsS RX8 37 yX8_isWithin wsX8_isWithin) := goodIn_app (goodIn_of _ (by decide +kernel)) ggX8_window_X8_isWithin
set_option maxRecDepth 20000 in
theorem ggX8_window_X2_hoursUntilCalm : GoodIn wsX8_window wsX2_hoursUntilCalm := goodIn_r _ [23, 24, 25, 26, 27, 28, 12, 13, 14, 15, 16, 29, 30, 31, 32, 33, 34, 35, 36, 37, 38, 39, 40, 41, 48, 49, 50, 51, 52, 53, 54, 55, 56, 57, 58, 59, 60, 61, 62, 63, 64, 65, 66] (by decide +kernel) (by decide +kernel)
set_option maxRecDepth 20000 in
theorem gX8_window_X2_hoursUntilCalm : GoodIn wsX8_window (wsV RX8 268 RX2 yX2_hoursUntilCalm wsX2_hoursUntilCalm) := goodIn_app (goodIn_of _ (by decide +kernel)) ggX8_window_X2_hoursUntilCalm
theorem dX8_window_0 : decode cX8_window 0 = .ok (.aload_n 0, 1) := by decide +kernel
theorem dX8_window_1 : decode cX8_window 1 = .ok (.iload_n 1, 1) := by decide +kernel
theorem dX8_window_2 : decode cX8_window 2 = .ok (.invokevirtual 67, 3) := by decide +kernel
theorem dX8_window_5 : decode cX8_window 5 = .ok (.iload_n 2, 1) := by decide +kernel
theorem dX8_window_6 : decode cX8_window 6 = .ok (.iconst 1, 1) := by decide +kernel
theorem dX8_window_7 : decode cX8_window 7 = .ok (.bipush 24, 2) := by decide +kernel
theorem dX8_window_9 : decode cX8_window 9 = .ok (.invokestatic 37, 3) := by decide +kernel
theorem dX8_window_12 : decode cX8_window 12 = .ok (.ifCond .ne 14, 3) := by decide +kernel
theorem dX8_window_15 : decode cX8_window 15 = .ok (.new 41, 3) := by decide +kernel
theorem dX8_window_18 : decode cX8_window 18 = .ok (.dup, 1) := by decide +kernel
theorem dX8_window_19 : decode cX8_window 19 = .ok (.ldc_w 266, 3) := by decide +kernel
theorem dX8_window_22 : decode cX8_window 22 = .ok (.invokespecial 45, 3) := by decide +kernel
theorem dX8_window_25 : decode cX8_window 25 = .ok (.athrow, 1) := by decide +kernel
theorem dX8_window_26 : decode cX8_window 26 = .ok (.aload_n 0, 1) := by decide +kernel
theorem dX8_window_27 : decode cX8_window 27 = .ok (.getfield 10, 3) := by decide +kernel
theorem dX8_window_30 : decode cX8_window 30 = .ok (.iload_n 1, 1) := by decide +kernel
theorem dX8_window_31 : decode cX8_window 31 = .ok (.iload_n 2, 1) := by decide +kernel
theorem dX8_window_32 : decode cX8_window 32 = .ok (.invokevirtual 268, 3) := by decide +kernel
theorem dX8_window_35 : decode cX8_window 35 = .ok (.ireturn, 1) := by decide +kernel
set_option maxRecDepth 20000 in
theorem ggX8_doneIn_X2_copyFrom : GoodIn wsX8_doneIn wsX2_copyFrom := goodIn_r _ [9, 10, 11, 12, 13, 14, 15, 16, 17, 18, 19, 20, 21, 22, 23, 24, 25, 26, 27, 28, 29, 30, 31, 32, 33, 34, 35, 36, 37, 38, 39, 40, 41, 42, 43, 44, 45, 46, 47, 48, 49, 50, 51, 52, 53, 54, 55, 56, 57, 58, 59, 60, 61, 62, 63, 64, 65, 66, 67, 68, 69, 70, 71, 72, 73, 74, 75, 76, 77, 78, 79, 208, 209, 210, 211, 212, 213, 214, 215, 216, 217, 220, 221, 222, 223, 224, 225, 226, 227, 228, 229, 230, 231, 232, 218, 219, 233, 234, 235, 236, 237, 238, 239] (by decide +kernel) (by decide +kernel)
set_option maxRecDepth 20000 in
theorem gX8_doneIn_X2_copyFrom : GoodIn wsX8_doneIn (wsV RX8 215 RX2 yX2_copyFrom wsX2_copyFrom) := goodIn_app (goodIn_of _ (by decide +kernel)) ggX8_doneIn_X2_copyFrom
set_option maxRecDepth 20000 in
theorem ggX8_doneIn_X2_runHour : GoodIn wsX8_doneIn wsX2_runHour := goodIn_r _ [83, 13, 17, 14, 23, 84, 85, 86, 48, 87, 53, 52, 88, 89, 90, 91, 92, 93, 94, 8, 95, 96, 15, 97, 11, 98, 99, 100, 101, 57, 102, 61, 59, 103, 104, 105, 65, 106, 71, 70, 107, 108, 109, 110, 10, 111, 112, 113, 114, 115, 116, 117, 118, 119, 120, 121, 122, 123, 124, 69, 125, 126, 127, 128, 129, 130, 131, 132, 133, 134, 12, 135, 136, 137, 138, 39, 139, 44, 41, 43, 140, 141, 142, 143, 68, 144, 67, 145, 146, 147, 148, 50, 149, 150, 151, 152, 16, 153, 154, 155, 75, 156, 79, 77, 157, 158, 159, 27, 160, 30, 161, 162, 163, 164, 165, 166, 167, 168, 169, 170, 22, 171, 172, 173, 174, 31, 175, 176, 177, 178, 179, 180, 181, 182, 183, 184, 185, 186, 187, 188, 189, 190, 191, 192, 193, 194, 195, 196, 197, 198, 199, 200, 201, 32, 33, 208, 209, 210, 211, 212, 213, 214, 215, 216, 217, 230, 231, 232, 218, 219, 233, 234, 235, 236, 237, 220, 221, 222, 223, 224, 225, 226, 227, 228, 229, 238, 239] (by decide +kernel) (by decide +kernel)
set_option maxRecDepth 20000 in
theorem gX8_doneIn_X2_runHour : GoodIn wsX8_doneIn (wsV RX8 271 RX2 yX2_runHour wsX2_runHour) := goodIn_app (goodIn_of _ (by decide +kernel)) ggX8_doneIn_X2_runHour
theorem dX8_doneIn_0 : decode cX8_doneIn 0 = .ok (.aload_n 0, 1) := by decide +kernel
theorem dX8_doneIn_1 : decode cX8_doneIn 1 = .ok (.getfield 16, 3) := by decide +kernel
theorem dX8_doneIn_4 : decode cX8_doneIn 4 = .ok (.aload_n 0, 1) := by decide +kernel
theorem dX8_doneIn_5 : decode cX8_doneIn 5 = .ok (.getfield 10, 3) := by decide +kernel
theorem dX8_doneIn_8 : decode cX8_doneIn 8 = .ok (.invokevirtual 215, 3) := by decide +kernel
theorem dX8_doneIn_11 : decode cX8_doneIn 11 = .ok (.iconst 0, 1) := by decide +kernel
theorem dX8_doneIn_12 : decode cX8_doneIn 12 = .ok (.istore_n 1, 1) := by decide +kernel
theorem dX8_doneIn_13 : decode cX8_doneIn 13 = .ok (.iload_n 1, 1) := by decide +kernel
theorem dX8_doneIn_14 : decode cX8_doneIn 14 = .ok (.sipush 500, 3) := by decide +kernel
theorem dX8_doneIn_17 : decode cX8_doneIn 17 = .ok (.if_icmp .gt 32, 3) := by decide +kernel
theorem dX8_doneIn_20 : decode cX8_doneIn 20 = .ok (.aload_n 0, 1) := by decide +kernel
theorem dX8_doneIn_21 : decode cX8_doneIn 21 = .ok (.getfield 16, 3) := by decide +kernel
theorem dX8_doneIn_24 : decode cX8_doneIn 24 = .ok (.getfield 125, 3) := by decide +kernel
theorem dX8_doneIn_27 : decode cX8_doneIn 27 = .ok (.getfield 142, 3) := by decide +kernel
theorem dX8_doneIn_30 : decode cX8_doneIn 30 = .ok (.ifCond .ne 5, 3) := by decide +kernel
theorem dX8_doneIn_33 : decode cX8_doneIn 33 = .ok (.iload_n 1, 1) := by decide +kernel
theorem dX8_doneIn_34 : decode cX8_doneIn 34 = .ok (.ireturn, 1) := by decide +kernel
theorem dX8_doneIn_35 : decode cX8_doneIn 35 = .ok (.aload_n 0, 1) := by decide +kernel
theorem dX8_doneIn_36 : decode cX8_doneIn 36 = .ok (.getfield 16, 3) := by decide +kernel
theorem dX8_doneIn_39 : decode cX8_doneIn 39 = .ok (.invokevirtual 271, 3) := by decide +kernel
theorem dX8_doneIn_42 : decode cX8_doneIn 42 = .ok (.pop, 1) := by decide +kernel
theorem dX8_doneIn_43 : decode cX8_doneIn 43 = .ok (.iinc 1 1, 3) := by decide +kernel
theorem dX8_doneIn_46 : decode cX8_doneIn 46 = .ok (.goto (-33), 3) := by decide +kernel
theorem dX8_doneIn_49 : decode cX8_doneIn 49 = .ok (.iconst (-1), 1) := by decide +kernel
theorem dX8_doneIn_50 : decode cX8_doneIn 50 = .ok (.ireturn, 1) := by decide +kernel
set_option maxRecDepth 20000 in
theorem ggX8_meanWind_X7_sum : GoodIn wsX8_meanWind wsX7_sum := goodIn_r _ [9, 10, 11, 28, 29] (by decide +kernel) (by decide +kernel)
set_option maxRecDepth 20000 in
theorem gX8_meanWind_X7_sum : GoodIn wsX8_meanWind (wsV RX8 274 RX7 yX7_sum wsX7_sum) := goodIn_app (goodIn_of _ (by decide +kernel)) ggX8_meanWind_X7_sum
theorem dX8_meanWind_0 : decode cX8_meanWind 0 = .ok (.aload_n 0, 1) := by decide +kernel
theorem dX8_meanWind_1 : decode cX8_meanWind 1 = .ok (.getfield 10, 3) := by decide +kernel
theorem dX8_meanWind_4 : decode cX8_meanWind 4 = .ok (.getfield 202, 3) := by decide +kernel
theorem dX8_meanWind_7 : decode cX8_meanWind 7 = .ok (.getfield 210, 3) := by decide +kernel
theorem dX8_meanWind_10 : decode cX8_meanWind 10 = .ok (.istore_n 1, 1) := by decide +kernel
theorem dX8_meanWind_11 : decode cX8_meanWind 11 = .ok (.iload_n 1, 1) := by decide +kernel
theorem dX8_meanWind_12 : decode cX8_meanWind 12 = .ok (.ifCond .le 20, 3) := by decide +kernel
theorem dX8_meanWind_15 : decode cX8_meanWind 15 = .ok (.aload_n 0, 1) := by decide +kernel
theorem dX8_meanWind_16 : decode cX8_meanWind 16 = .ok (.getfield 10, 3) := by decide +kernel
theorem dX8_meanWind_19 : decode cX8_meanWind 19 = .ok (.getfield 202, 3) := by decide +kernel
theorem dX8_meanWind_22 : decode cX8_meanWind 22 = .ok (.invokevirtual 274, 3) := by decide +kernel
theorem dX8_meanWind_25 : decode cX8_meanWind 25 = .ok (.i2f, 1) := by decide +kernel
theorem dX8_meanWind_26 : decode cX8_meanWind 26 = .ok (.iload_n 1, 1) := by decide +kernel
theorem dX8_meanWind_27 : decode cX8_meanWind 27 = .ok (.i2f, 1) := by decide +kernel
theorem dX8_meanWind_28 : decode cX8_meanWind 28 = .ok (.fdiv, 1) := by decide +kernel
theorem dX8_meanWind_29 : decode cX8_meanWind 29 = .ok (.goto 6, 3) := by decide +kernel
theorem dX8_meanWind_32 : decode cX8_meanWind 32 = .ok (.ldc_w 277, 3) := by decide +kernel
theorem dX8_meanWind_35 : decode cX8_meanWind 35 = .ok (.freturn, 1) := by decide +kernel
set_option maxRecDepth 20000 in
theorem ggX8_lostShare_X2_lostPower : GoodIn wsX8_lostShare wsX2_lostPower := goodIn_r _ [6, 7, 21, 22, 23, 24, 25, 26, 27, 28, 29, 30] (by decide +kernel) (by decide +kernel)
set_option maxRecDepth 20000 in
theorem gX8_lostShare_X2_lostPower : GoodIn wsX8_lostShare (wsV RX8 278 RX2 yX2_lostPower wsX2_lostPower) := goodIn_app (goodIn_of _ (by decide +kernel)) ggX8_lostShare_X2_lostPower
set_option maxRecDepth 20000 in
theorem ggX8_lostShare_X2_wonPower : GoodIn wsX8_lostShare wsX2_wonPower := goodIn_r _ [11, 12, 13, 14, 21, 22, 23, 24, 25, 26, 27, 28, 29, 30, 31, 32, 33, 34, 35, 36, 37] (by decide +kernel) (by decide +kernel)
set_option maxRecDepth 20000 in
theorem gX8_lostShare_X2_wonPower : GoodIn wsX8_lostShare (wsV RX8 281 RX2 yX2_wonPower wsX2_wonPower) := goodIn_app (goodIn_of _ (by decide +kernel)) ggX8_lostShare_X2_wonPower
theorem dX8_lostShare_0 : decode cX8_lostShare 0 = .ok (.aload_n 0, 1) := by decide +kernel
theorem dX8_lostShare_1 : decode cX8_lostShare 1 = .ok (.getfield 10, 3) := by decide +kernel
theorem dX8_lostShare_4 : decode cX8_lostShare 4 = .ok (.invokevirtual 278, 3) := by decide +kernel
theorem dX8_lostShare_7 : decode cX8_lostShare 7 = .ok (.istore_n 1, 1) := by decide +kernel
theorem dX8_lostShare_8 : decode cX8_lostShare 8 = .ok (.iload_n 1, 1) := by decide +kernel
theorem dX8_lostShare_9 : decode cX8_lostShare 9 = .ok (.aload_n 0, 1) := by decide +kernel
theorem dX8_lostShare_10 : decode cX8_lostShare 10 = .ok (.getfield 10, 3) := by decide +kernel
theorem dX8_lostShare_13 : decode cX8_lostShare 13 = .ok (.invokevirtual 281, 3) := by decide +kernel
theorem dX8_lostShare_16 : decode cX8_lostShare 16 = .ok (.iadd, 1) := by decide +kernel
theorem dX8_lostShare_17 : decode cX8_lostShare 17 = .ok (.istore_n 2, 1) := by decide +kernel
theorem dX8_lostShare_18 : decode cX8_lostShare 18 = .ok (.iload_n 2, 1) := by decide +kernel
theorem dX8_lostShare_19 : decode cX8_lostShare 19 = .ok (.ifCond .le 11, 3) := by decide +kernel
theorem dX8_lostShare_22 : decode cX8_lostShare 22 = .ok (.iload_n 1, 1) := by decide +kernel
theorem dX8_lostShare_23 : decode cX8_lostShare 23 = .ok (.i2d, 1) := by decide +kernel
theorem dX8_lostShare_24 : decode cX8_lostShare 24 = .ok (.iload_n 2, 1) := by decide +kernel
theorem dX8_lostShare_25 : decode cX8_lostShare 25 = .ok (.i2d, 1) := by decide +kernel
theorem dX8_lostShare_26 : decode cX8_lostShare 26 = .ok (.ddiv, 1) := by decide +kernel
theorem dX8_lostShare_27 : decode cX8_lostShare 27 = .ok (.goto 4, 3) := by decide +kernel
theorem dX8_lostShare_30 : decode cX8_lostShare 30 = .ok (.dconst 0, 1) := by decide +kernel
theorem dX8_lostShare_31 : decode cX8_lostShare 31 = .ok (.dreturn, 1) := by decide +kernel
theorem dX8_isWithin_0 : decode cX8_isWithin 0 = .ok (.iload_n 0, 1) := by decide +kernel
theorem dX8_isWithin_1 : decode cX8_isWithin 1 = .ok (.iload_n 1, 1) := by decide +kernel
theorem dX8_isWithin_2 : decode cX8_isWithin 2 = .ok (.if_icmp .lt 12, 3) := by decide +kernel
theorem dX8_isWithin_5 : decode cX8_isWithin 5 = .ok (.iload_n 0, 1) := by decide +kernel
theorem dX8_isWithin_6 : decode cX8_isWithin 6 = .ok (.iload_n 2, 1) := by decide +kernel
theorem dX8_isWithin_7 : decode cX8_isWithin 7 = .ok (.if_icmp .gt 7, 3) := by decide +kernel
theorem dX8_isWithin_10 : decode cX8_isWithin 10 = .ok (.iconst 1, 1) := by decide +kernel
theorem dX8_isWithin_11 : decode cX8_isWithin 11 = .ok (.goto 4, 3) := by decide +kernel
theorem dX8_isWithin_14 : decode cX8_isWithin 14 = .ok (.iconst 0, 1) := by decide +kernel
theorem dX8_isWithin_15 : decode cX8_isWithin 15 = .ok (.ireturn, 1) := by decide +kernel
set_option maxRecDepth 20000 in
theorem ggX8_requireTurbine_X2_hasTurbine : GoodIn wsX8_requireTurbine wsX2_hasTurbine := goodIn_r _ [8, 9, 16, 17, 18, 19, 20, 21, 22, 23, 24, 25] (by decide +kernel) (by decide +kernel)
set_option maxRecDepth 20000 in
theorem gX8_requireTurbine_X2_hasTurbine : GoodIn wsX8_requireTurbine (wsV RX8 319 RX2 yX2_hasTurbine wsX2_hasTurbine) := goodIn_app (goodIn_of _ (by decide +kernel)) ggX8_requireTurbine_X2_hasTurbine
theorem dX8_requireTurbine_0 : decode cX8_requireTurbine 0 = .ok (.aload_n 0, 1) := by decide +kernel
theorem dX8_requireTurbine_1 : decode cX8_requireTurbine 1 = .ok (.getfield 10, 3) := by decide +kernel
theorem dX8_requireTurbine_4 : decode cX8_requireTurbine 4 = .ok (.iload_n 1, 1) := by decide +kernel
theorem dX8_requireTurbine_5 : decode cX8_requireTurbine 5 = .ok (.invokevirtual 319, 3) := by decide +kernel
theorem dX8_requireTurbine_8 : decode cX8_requireTurbine 8 = .ok (.ifCond .ne 14, 3) := by decide +kernel
theorem dX8_requireTurbine_11 : decode cX8_requireTurbine 11 = .ok (.new 134, 3) := by decide +kernel
theorem dX8_requireTurbine_14 : decode cX8_requireTurbine 14 = .ok (.dup, 1) := by decide +kernel
theorem dX8_requireTurbine_15 : decode cX8_requireTurbine 15 = .ok (.ldc_w 322, 3) := by decide +kernel
theorem dX8_requireTurbine_18 : decode cX8_requireTurbine 18 = .ok (.invokespecial 138, 3) := by decide +kernel
theorem dX8_requireTurbine_21 : decode cX8_requireTurbine 21 = .ok (.athrow, 1) := by decide +kernel
theorem dX8_requireTurbine_22 : decode cX8_requireTurbine 22 = .ok (.return_, 1) := by decide +kernel
set_option maxRecDepth 20000 in
theorem ggX8_requireSetting_X8_isWithin : GoodIn wsX8_requireSetting wsX8_isWithin := goodIn_r _ [6] (by decide +kernel) (by decide +kernel)
set_option maxRecDepth 20000 in
theorem gX8_requireSetting_X8_isWithin : GoodIn wsX8_requireSetting (va_wsS RX8 37 yX8_isWithin wsX8_isWithin) := goodIn_app (goodIn_of _ (by decide +kernel)) ggX8_requireSetting_X8_isWithin
theorem dX8_requireSetting_0 : decode cX8_requireSetting 0 = .ok (.iload_n 0, 1) := by decide +kernel
theorem dX8_requireSetting_1 : decode cX8_requireSetting 1 = .ok (.iconst 0, 1) := by decide +kernel
theorem dX8_requireSetting_2 : decode cX8_requireSetting 2 = .ok (.bipush 6, 2) := by decide +kernel
theorem dX8_requireSetting_4 : decode cX8_requireSetting 4 = .ok (.invokestatic 37, 3) := by decide +kernel
theorem dX8_requireSetting_7 : decode cX8_requireSetting 7 = .ok (.ifCond .ne 14, 3) := by decide +kernel
theorem dX8_requireSetting_10 : decode cX8_requireSetting 10 = .ok (.new 134, 3) := by decide +kernel
theorem dX8_requireSetting_13 : decode cX8_requireSetting 13 = .ok (.dup, 1) := by decide +kernel
theorem dX8_requireSetting_14 : decode cX8_requireSetting 14 = .ok (.ldc_w 324, 3) := by decide +kernel
theorem dX8_requireSetting_17 : decode cX8_requireSetting 17 = .ok (.invokespecial 138, 3) := by decide +kernel
theorem dX8_requireSetting_20 : decode cX8_requireSetting 20 = .ok (.athrow, 1) := by decide +kernel
theorem dX8_requireSetting_21 : decode cX8_requireSetting 21 = .ok (.return_, 1) := by decide +kernel
set_option maxRecDepth 20000 in
theorem ggX8_saveState_X2_copyFrom : GoodIn wsX8_saveState wsX2_copyFrom := goodIn_r _ [9, 10, 11, 12, 13, 14, 15, 16, 17, 18, 19, 20, 21, 22, 23, 24, 25, 26, 27, 28, 29, 30, 31, 32, 33, 34, 35, 36, 37, 38, 39, 40, 41, 42, 43, 44, 45, 46, 47, 48, 49, 50, 51, 52, 53, 54, 55, 56, 57, 58, 59, 60, 61, 62, 63, 64, 65, 66, 67, 68, 69, 70, 71, 72, 73, 74, 75, 76, 77, 78, 79, 86, 87, 88, 89, 90, 91, 92, 93, 94, 95, 96, 97, 98, 99, 100, 101, 102, 103, 104, 105, 106, 107, 108, 109, 110, 111, 112, 113, 114, 115, 116, 117] (by decide +kernel) (by decide +kernel)
set_option maxRecDepth 20000 in
theorem gX8_saveState_X2_copyFrom : GoodIn wsX8_saveState (wsV RX8 215 RX2 yX2_copyFrom wsX2_copyFrom) := goodIn_app (goodIn_of _ (by decide +kernel)) ggX8_saveState_X2_copyFrom
theorem dX8_saveState_0 : decode cX8_saveState 0 = .ok (.aload_n 0, 1) := by decide +kernel
theorem dX8_saveState_1 : decode cX8_saveState 1 = .ok (.getfield 19, 3) := by decide +kernel
theorem dX8_saveState_4 : decode cX8_saveState 4 = .ok (.aload_n 0, 1) := by decide +kernel
theorem dX8_saveState_5 : decode cX8_saveState 5 = .ok (.getfield 23, 3) := by decide +kernel
theorem dX8_saveState_8 : decode cX8_saveState 8 = .ok (.aload_n 0, 1) := by decide +kernel
theorem dX8_saveState_9 : decode cX8_saveState 9 = .ok (.getfield 27, 3) := by decide +kernel
theorem dX8_saveState_12 : decode cX8_saveState 12 = .ok (.iadd, 1) := by decide +kernel
theorem dX8_saveState_13 : decode cX8_saveState 13 = .ok (.bipush 6, 2) := by decide +kernel
theorem dX8_saveState_15 : decode cX8_saveState 15 = .ok (.irem, 1) := by decide +kernel
theorem dX8_saveState_16 : decode cX8_saveState 16 = .ok (.aaload, 1) := by decide +kernel
theorem dX8_saveState_17 : decode cX8_saveState 17 = .ok (.aload_n 0, 1) := by decide +kernel
theorem dX8_saveState_18 : decode cX8_saveState 18 = .ok (.getfield 10, 3) := by decide +kernel
theorem dX8_saveState_21 : decode cX8_saveState 21 = .ok (.invokevirtual 215, 3) := by decide +kernel
theorem dX8_saveState_24 : decode cX8_saveState 24 = .ok (.aload_n 0, 1) := by decide +kernel
theorem dX8_saveState_25 : decode cX8_saveState 25 = .ok (.getfield 27, 3) := by decide +kernel
theorem dX8_saveState_28 : decode cX8_saveState 28 = .ok (.bipush 6, 2) := by decide +kernel
theorem dX8_saveState_30 : decode cX8_saveState 30 = .ok (.if_icmp .ge 16, 3) := by decide +kernel
theorem dX8_saveState_33 : decode cX8_saveState 33 = .ok (.aload_n 0, 1) := by decide +kernel
theorem dX8_saveState_34 : decode cX8_saveState 34 = .ok (.dup, 1) := by decide +kernel
theorem dX8_saveState_35 : decode cX8_saveState 35 = .ok (.getfield 27, 3) := by decide +kernel
theorem dX8_saveState_38 : decode cX8_saveState 38 = .ok (.iconst 1, 1) := by decide +kernel
theorem dX8_saveState_39 : decode cX8_saveState 39 = .ok (.iadd, 1) := by decide +kernel
theorem dX8_saveState_40 : decode cX8_saveState 40 = .ok (.putfield 27, 3) := by decide +kernel
theorem dX8_saveState_43 : decode cX8_saveState 43 = .ok (.goto 16, 3) := by decide +kernel
theorem dX8_saveState_46 : decode cX8_saveState 46 = .ok (.aload_n 0, 1) := by decide +kernel
theorem dX8_saveState_47 : decode cX8_saveState 47 = .ok (.aload_n 0, 1) := by decide +kernel
theorem dX8_saveState_48 : decode cX8_saveState 48 = .ok (.getfield 23, 3) := by decide +kernel
theorem dX8_saveState_51 : decode cX8_saveState 51 = .ok (.iconst 1, 1) := by decide +kernel
theorem dX8_saveState_52 : decode cX8_saveState 52 = .ok (.iadd, 1) := by decide +kernel
theorem dX8_saveState_53 : decode cX8_saveState 53 = .ok (.bipush 6, 2) := by decide +kernel
theorem dX8_saveState_55 : decode cX8_saveState 55 = .ok (.irem, 1) := by decide +kernel
theorem dX8_saveState_56 : decode cX8_saveState 56 = .ok (.putfield 23, 3) := by decide +kernel
theorem dX8_saveState_59 : decode cX8_saveState 59 = .ok (.return_, 1) := by decide +kernel
set_option maxRecDepth 20000 in
theorem ggX8_numberOf_X2_faultCount : GoodIn wsX8_numberOf wsX2_faultCount := goodIn_r _ [19, 20, 21, 22, 66, 67, 68, 69, 70, 71, 72, 73, 74, 75, 88, 89, 90, 91, 92, 93, 94] (by decide +kernel) (by decide +kernel)
set_option maxRecDepth 20000 in
theorem gX8_numberOf_X2_faultCount : GoodIn wsX8_numberOf (wsV RX8 330 RX2 yX2_faultCount wsX2_faultCount) := goodIn_app (goodIn_of _ (by decide +kernel)) ggX8_numberOf_X2_faultCount
set_option maxRecDepth 20000 in
theorem ggX8_numberOf_X2_windNow : GoodIn wsX8_numberOf wsX2_windNow := goodIn_r _ [26, 27, 28, 29, 30, 31, 32, 33, 34, 35, 66, 67, 68, 69, 70, 71, 72, 73, 74, 75, 76, 77] (by decide +kernel) (by decide +kernel)
set_option maxRecDepth 20000 in
theorem gX8_numberOf_X2_windNow : GoodIn wsX8_numberOf (wsV RX8 333 RX2 yX2_windNow wsX2_windNow) := goodIn_app (goodIn_of _ (by decide +kernel)) ggX8_numberOf_X2_windNow
set_option maxRecDepth 20000 in
theorem ggX8_numberOf_X4_first : GoodIn wsX8_numberOf wsX4_first := goodIn_r _ [40, 41, 42, 78, 79] (by decide +kernel) (by decide +kernel)
set_option maxRecDepth 20000 in
theorem gX8_numberOf_X4_first : GoodIn wsX8_numberOf (wsV RX8 336 RX4 yX4_first wsX4_first) := goodIn_app (goodIn_of _ (by decide +kernel)) ggX8_numberOf_X4_first
set_option maxRecDepth 20000 in
theorem ggX8_numberOf_X1_workOn : GoodIn wsX8_numberOf wsX1_workOn := goodIn_r _ [47, 48, 49, 80, 81, 82, 83, 84] (by decide +kernel) (by decide +kernel)
set_option maxRecDepth 20000 in
theorem gX8_numberOf_X1_workOn : GoodIn wsX8_numberOf (wsV RX8 349 RX1 yX1_workOn wsX1_workOn) := goodIn_app (goodIn_of _ (by decide +kernel)) ggX8_numberOf_X1_workOn
set_option maxRecDepth 20000 in
theorem ggX8_numberOf_X2_lostPower : GoodIn wsX8_numberOf wsX2_lostPower := goodIn_r _ [53, 54, 66, 67, 68, 69, 70, 71, 72, 73, 74, 75] (by decide +kernel) (by decide +kernel)
set_option maxRecDepth 20000 in
theorem gX8_numberOf_X2_lostPower : GoodIn wsX8_numberOf (wsV RX8 278 RX2 yX2_lostPower wsX2_lostPower) := goodIn_app (goodIn_of _ (by decide +kernel)) ggX8_numberOf_X2_lostPower
set_option maxRecDepth 20000 in
theorem ggX8_numberOf_X2_wonPower : GoodIn wsX8_numberOf wsX2_wonPower := goodIn_r _ [58, 20, 21, 59, 66, 67, 68, 69, 70, 71, 72, 73, 74, 75, 88, 89, 90, 91, 92, 93, 94] (by decide +kernel) (by decide +kernel)
set_option maxRecDepth 20000 in
theorem gX8_numberOf_X2_wonPower : GoodIn wsX8_numberOf (wsV RX8 281 RX2 yX2_wonPower wsX2_wonPower) := goodIn_app (goodIn_of _ (by decide +kernel)) ggX8_numberOf_X2_wonPower
theorem dX8_numberOf_0 : decode cX8_numberOf 0 = .ok (.aload_n 0, 1) := by decide +kernel
theorem dX8_numberOf_1 : decode cX8_numberOf 1 = .ok (.getfield 10, 3) := by decide +kernel
theorem dX8_numberOf_4 : decode cX8_numberOf 4 = .ok (.getfield 326, 3) := by decide +kernel
theorem dX8_numberOf_7 : decode cX8_numberOf 7 = .ok (.astore_n 2, 1) := by decide +kernel
theorem dX8_numberOf_8 : decode cX8_numberOf 8 = .ok (.iload_n 1, 1) := by decide +kernel
theorem dX8_numberOf_9 : decode cX8_numberOf 9 = .ok (.tableswitch 193 0 13 #[71, 79, 87, 95, 103, 114, 125, 136, 141, 146, 151, 166, 174, 182], 71) := by decide +kernel
theorem dX8_numberOf_80 : decode cX8_numberOf 80 = .ok (.aload_n 0, 1) := by decide +kernel
theorem dX8_numberOf_81 : decode cX8_numberOf 81 = .ok (.getfield 10, 3) := by decide +kernel
theorem dX8_numberOf_84 : decode cX8_numberOf 84 = .ok (.getfield 48, 3) := by decide +kernel
theorem dX8_numberOf_87 : decode cX8_numberOf 87 = .ok (.ireturn, 1) := by decide +kernel
theorem dX8_numberOf_88 : decode cX8_numberOf 88 = .ok (.aload_n 0, 1) := by decide +kernel
theorem dX8_numberOf_89 : decode cX8_numberOf 89 = .ok (.getfield 10, 3) := by decide +kernel
theorem dX8_numberOf_92 : decode cX8_numberOf 92 = .ok (.invokevirtual 330, 3) := by decide +kernel
theorem dX8_numberOf_95 : decode cX8_numberOf 95 = .ok (.ireturn, 1) := by decide +kernel
theorem dX8_numberOf_96 : decode cX8_numberOf 96 = .ok (.aload_n 0, 1) := by decide +kernel
theorem dX8_numberOf_97 : decode cX8_numberOf 97 = .ok (.getfield 10, 3) := by decide +kernel
theorem dX8_numberOf_100 : decode cX8_numberOf 100 = .ok (.getfield 170, 3) := by decide +kernel
theorem dX8_numberOf_103 : decode cX8_numberOf 103 = .ok (.ireturn, 1) := by decide +kernel
theorem dX8_numberOf_104 : decode cX8_numberOf 104 = .ok (.aload_n 0, 1) := by decide +kernel
theorem dX8_numberOf_105 : decode cX8_numberOf 105 = .ok (.getfield 10, 3) := by decide +kernel
theorem dX8_numberOf_108 : decode cX8_numberOf 108 = .ok (.invokevirtual 333, 3) := by decide +kernel
theorem dX8_numberOf_111 : decode cX8_numberOf 111 = .ok (.ireturn, 1) := by decide +kernel
theorem dX8_numberOf_112 : decode cX8_numberOf 112 = .ok (.aload_n 0, 1) := by decide +kernel
theorem dX8_numberOf_113 : decode cX8_numberOf 113 = .ok (.getfield 10, 3) := by decide +kernel
theorem dX8_numberOf_116 : decode cX8_numberOf 116 = .ok (.getfield 202, 3) := by decide +kernel
theorem dX8_numberOf_119 : decode cX8_numberOf 119 = .ok (.getfield 210, 3) := by decide +kernel
theorem dX8_numberOf_122 : decode cX8_numberOf 122 = .ok (.ireturn, 1) := by decide +kernel
theorem dX8_numberOf_123 : decode cX8_numberOf 123 = .ok (.aload_n 0, 1) := by decide +kernel
theorem dX8_numberOf_124 : decode cX8_numberOf 124 = .ok (.getfield 10, 3) := by decide +kernel
theorem dX8_numberOf_127 : decode cX8_numberOf 127 = .ok (.getfield 125, 3) := by decide +kernel
theorem dX8_numberOf_130 : decode cX8_numberOf 130 = .ok (.getfield 142, 3) := by decide +kernel
theorem dX8_numberOf_133 : decode cX8_numberOf 133 = .ok (.ireturn, 1) := by decide +kernel
theorem dX8_numberOf_134 : decode cX8_numberOf 134 = .ok (.aload_n 0, 1) := by decide +kernel
theorem dX8_numberOf_135 : decode cX8_numberOf 135 = .ok (.getfield 10, 3) := by decide +kernel
theorem dX8_numberOf_138 : decode cX8_numberOf 138 = .ok (.getfield 125, 3) := by decide +kernel
theorem dX8_numberOf_141 : decode cX8_numberOf 141 = .ok (.invokevirtual 336, 3) := by decide +kernel
theorem dX8_numberOf_144 : decode cX8_numberOf 144 = .ok (.ireturn, 1) := by decide +kernel
theorem dX8_numberOf_145 : decode cX8_numberOf 145 = .ok (.aload_n 2, 1) := by decide +kernel
theorem dX8_numberOf_146 : decode cX8_numberOf 146 = .ok (.getfield 339, 3) := by decide +kernel
theorem dX8_numberOf_149 : decode cX8_numberOf 149 = .ok (.ireturn, 1) := by decide +kernel
theorem dX8_numberOf_150 : decode cX8_numberOf 150 = .ok (.aload_n 2, 1) := by decide +kernel
theorem dX8_numberOf_151 : decode cX8_numberOf 151 = .ok (.getfield 343, 3) := by decide +kernel
theorem dX8_numberOf_154 : decode cX8_numberOf 154 = .ok (.ireturn, 1) := by decide +kernel
theorem dX8_numberOf_155 : decode cX8_numberOf 155 = .ok (.aload_n 2, 1) := by decide +kernel
theorem dX8_numberOf_156 : decode cX8_numberOf 156 = .ok (.getfield 346, 3) := by decide +kernel
