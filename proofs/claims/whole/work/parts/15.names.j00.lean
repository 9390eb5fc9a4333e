theorem dL_addTurbine_0 : decode cL_addTurbine 0 = .ok (.aload 4, 2) := by decide +kernel
theorem dL_addTurbine_2 : decode cL_addTurbine 2 = .ok (.iconst 0, 1) := by decide +kernel
theorem dL_addTurbine_3 : decode cL_addTurbine 3 = .ok (.aload_n 0, 1) := by decide +kernel
theorem dL_addTurbine_4 : decode cL_addTurbine 4 = .ok (.iload_n 1, 1) := by decide +kernel
theorem dL_addTurbine_5 : decode cL_addTurbine 5 = .ok (.iload_n 2, 1) := by decide +kernel
theorem dL_addTurbine_6 : decode cL_addTurbine 6 = .ok (.iload_n 3, 1) := by decide +kernel
theorem dL_addTurbine_7 : decode cL_addTurbine 7 = .ok (.invokevirtual 7, 3) := by decide +kernel
theorem dL_addTurbine_10 : decode cL_addTurbine 10 = .ok (.i2l, 1) := by decide +kernel
theorem dL_addTurbine_11 : decode cL_addTurbine 11 = .ok (.lastore, 1) := by decide +kernel
theorem dL_addTurbine_12 : decode cL_addTurbine 12 = .ok (.goto 11, 3) := by decide +kernel
theorem dL_addTurbine_15 : decode cL_addTurbine 15 = .ok (.astore 5, 2) := by decide +kernel
theorem dL_addTurbine_17 : decode cL_addTurbine 17 = .ok (.iconst 1, 1) := by decide +kernel
theorem dL_addTurbine_18 : decode cL_addTurbine 18 = .ok (.ireturn, 1) := by decide +kernel
theorem dL_addTurbine_19 : decode cL_addTurbine 19 = .ok (.astore 5, 2) := by decide +kernel
theorem dL_addTurbine_21 : decode cL_addTurbine 21 = .ok (.iconst 2, 1) := by decide +kernel
theorem dL_addTurbine_22 : decode cL_addTurbine 22 = .ok (.ireturn, 1) := by decide +kernel
theorem dL_addTurbine_23 : decode cL_addTurbine 23 = .ok (.iconst 0, 1) := by decide +kernel
theorem dL_addTurbine_24 : decode cL_addTurbine 24 = .ok (.ireturn, 1) := by decide +kernel
set_option maxRecDepth 20000 in
theorem ggL_setFault_X8_setFault : GoodIn wsL_setFault wsX8_setFault := goodIn_ca (goodIn_ca (goodIn_r _ [7, 8, 9, 10, 11, 12, 13, 14, 15, 16, 6, 17, 18, 19, 20, 21, 22, 23, 24, 25, 26, 27, 28, 29, 30, 31, 32, 33, 34, 35, 36, 37, 38, 39, 40, 41, 42, 43, 44, 45, 46, 47, 48, 49, 50, 51, 52, 53, 54, 55, 56, 57, 58, 59, 60, 61, 62, 63, 64, 65, 66, 67, 68, 69, 70, 71, 72, 73, 74, 75, 76, 77, 78, 79, 80, 81, 82, 83, 84, 85, 86, 87, 88, 89, 90, 91, 92, 93, 94, 95, 96, 97, 98, 99, 100, 101, 102, 103, 104, 105, 106, 107, 108, 109, 110, 111, 112, 113, 114, 115, 116, 117, 118, 119, 120, 121, 122, 123, 124, 125, 126, 127, 128, 129, 130, 131, 132, 133, 134, 135, 136, 137, 138, 139, 140, 141, 142, 143, 144, 145, 146] (by decide +kernel) (by decide +kernel)) (goodIn_sub (fun _ h => List.mem_cons_of_mem _ (List.mem_append_left _ (List.mem_append_right _ h))) (by decide +kernel))) (goodIn_sub (fun _ h => List.mem_cons_of_mem _ (List.mem_append_right _ h)) (by decide +kernel))
set_option maxRecDepth 20000 in
theorem gL_setFault_X8_setFault : GoodIn wsL_setFault (wsV RL 17 RX8 yX8_setFault wsX8_setFault) := goodIn_app (goodIn_of _ (by decide +kernel)) ggL_setFault_X8_setFault
theorem dL_setFault_0 : decode cL_setFault 0 = .ok (.aload_n 3, 1) := by decide +kernel
theorem dL_setFault_1 : decode cL_setFault 1 = .ok (.iconst 0, 1) := by decide +kernel
theorem dL_setFault_2 : decode cL_setFault 2 = .ok (.aload_n 0, 1) := by decide +kernel
theorem dL_setFault_3 : decode cL_setFault 3 = .ok (.iload_n 1, 1) := by decide +kernel
theorem dL_setFault_4 : decode cL_setFault 4 = .ok (.iload_n 2, 1) := by decide +kernel
theorem dL_setFault_5 : decode cL_setFault 5 = .ok (.invokevirtual 17, 3) := by decide +kernel
theorem dL_setFault_8 : decode cL_setFault 8 = .ok (.i2l, 1) := by decide +kernel
theorem dL_setFault_9 : decode cL_setFault 9 = .ok (.lastore, 1) := by decide +kernel
theorem dL_setFault_10 : decode cL_setFault 10 = .ok (.goto 11, 3) := by decide +kernel
theorem dL_setFault_13 : decode cL_setFault 13 = .ok (.astore 4, 2) := by decide +kernel
theorem dL_setFault_15 : decode cL_setFault 15 = .ok (.iconst 1, 1) := by decide +kernel
theorem dL_setFault_16 : decode cL_setFault 16 = .ok (.ireturn, 1) := by decide +kernel
theorem dL_setFault_17 : decode cL_setFault 17 = .ok (.astore 4, 2) := by decide +kernel
theorem dL_setFault_19 : decode cL_setFault 19 = .ok (.iconst 2, 1) := by decide +kernel
theorem dL_setFault_20 : decode cL_setFault 20 = .ok (.ireturn, 1) := by decide +kernel
theorem dL_setFault_21 : decode cL_setFault 21 = .ok (.iconst 0, 1) := by decide +kernel
theorem dL_setFault_22 : decode cL_setFault 22 = .ok (.ireturn, 1) := by decide +kernel
set_option maxRecDepth 20000 in
theorem ggL_setBog_X8_setBog : GoodIn wsL_setBog wsX8_setBog := goodIn_ca (goodIn_ca (goodIn_r _ [7, 8, 9, 10, 11, 12, 13, 14, 15, 16, 6, 17, 18, 19, 20, 21, 22, 23, 24, 25, 26, 27, 28, 29, 30, 31, 32, 33, 34, 35, 36, 37, 38, 39, 40, 41, 42, 43, 44, 45, 46, 47, 48, 49, 50, 51, 52, 53, 54, 55, 56, 57, 58, 59, 60, 61, 62, 63, 64, 65, 66, 67, 68, 69, 70, 71, 72, 73, 74, 75, 76, 77, 78, 79, 80, 81, 82, 83, 84, 85, 86, 87, 88, 89, 90, 91, 92, 93, 94, 95, 96, 97, 98, 99, 100, 101, 102, 103, 104, 105, 106, 107, 108, 109, 110, 111, 112, 113, 114, 115, 116, 117, 118, 119, 120, 121, 122, 123, 124, 125, 126, 127, 128, 129, 130, 131, 132, 133, 134, 135, 136, 137, 138, 139, 140, 141, 142, 143, 144, 145, 146, 147, 148, 149, 150, 151, 152, 153, 154, 155, 156, 157, 158, 159] (by decide +kernel) (by decide +kernel)) (goodIn_sub (fun _ h => List.mem_cons_of_mem _ (List.mem_append_left _ (List.mem_append_right _ h))) (by decide +kernel))) (goodIn_sub (fun _ h => List.mem_cons_of_mem _ (List.mem_append_right _ h)) (by decide +kernel))
set_option maxRecDepth 20000 in
theorem gL_setBog_X8_setBog : GoodIn wsL_setBog (wsV RL 23 RX8 yX8_setBog wsX8_setBog) := goodIn_app (goodIn_of _ (by decide +kernel)) ggL_setBog_X8_setBog
theorem dL_setBog_0 : decode cL_setBog 0 = .ok (.aload_n 3, 1) := by decide +kernel
theorem dL_setBog_1 : decode cL_setBog 1 = .ok (.iconst 0, 1) := by decide +kernel
theorem dL_setBog_2 : decode cL_setBog 2 = .ok (.aload_n 0, 1) := by decide +kernel
theorem dL_setBog_3 : decode cL_setBog 3 = .ok (.iload_n 1, 1) := by decide +kernel
theorem dL_setBog_4 : decode cL_setBog 4 = .ok (.iload_n 2, 1) := by decide +kernel
theorem dL_setBog_5 : decode cL_setBog 5 = .ok (.invokevirtual 23, 3) := by decide +kernel
theorem dL_setBog_8 : decode cL_setBog 8 = .ok (.i2l, 1) := by decide +kernel
theorem dL_setBog_9 : decode cL_setBog 9 = .ok (.lastore, 1) := by decide +kernel
theorem dL_setBog_10 : decode cL_setBog 10 = .ok (.goto 11, 3) := by decide +kernel
theorem dL_setBog_13 : decode cL_setBog 13 = .ok (.astore 4, 2) := by decide +kernel
theorem dL_setBog_15 : decode cL_setBog 15 = .ok (.iconst 1, 1) := by decide +kernel
theorem dL_setBog_16 : decode cL_setBog 16 = .ok (.ireturn, 1) := by decide +kernel
theorem dL_setBog_17 : decode cL_setBog 17 = .ok (.astore 4, 2) := by decide +kernel
theorem dL_setBog_19 : decode cL_setBog 19 = .ok (.iconst 2, 1) := by decide +kernel
theorem dL_setBog_20 : decode cL_setBog 20 = .ok (.ireturn, 1) := by decide +kernel
theorem dL_setBog_21 : decode cL_setBog 21 = .ok (.iconst 0, 1) := by decide +kernel
theorem dL_setBog_22 : decode cL_setBog 22 = .ok (.ireturn, 1) := by decide +kernel
set_option maxRecDepth 20000 in
theorem ggL_set_X8_set : GoodIn wsL_set wsX8_set := goodIn_ca (goodIn_ca (goodIn_r _ [7, 8, 9, 10, 11, 12, 13, 14, 15, 6, 16, 17, 18, 19, 20, 21, 22, 23, 24, 25, 26, 27, 28, 29, 30, 31, 32, 33, 34, 35, 36, 37, 38, 39, 40, 41, 42, 43, 44, 45, 46, 47, 48, 49, 50, 51, 52, 53, 54, 55, 56, 57, 58, 59, 60, 61, 62, 63, 64, 65, 66, 67, 68, 69, 70, 71, 72, 73, 74, 75, 76, 77, 78, 79, 80, 81, 82, 83, 84, 85, 86, 87, 88, 89, 90, 91, 92, 93, 94, 95, 96, 97, 98, 99, 100, 101, 102, 103, 104, 105, 106, 107, 108, 109, 110, 111, 112, 113, 114, 115, 116, 117, 118, 119, 120, 121, 122, 123, 124, 125, 126, 127, 128, 129, 130, 131, 132, 133, 134, 135, 136, 137, 138, 139, 140, 141] (by decide +kernel) (by decide +kernel)) (goodIn_sub (fun _ h => List.mem_cons_of_mem _ (List.mem_append_left _ (List.mem_append_right _ h))) (by decide +kernel))) (goodIn_sub (fun _ h => List.mem_cons_of_mem _ (List.mem_append_right _ h)) (by decide +kernel))
set_option maxRecDepth 20000 in
theorem gL_set_X8_set : GoodIn wsL_set (wsV RL 26 RX8 yX8_set wsX8_set) := goodIn_app (goodIn_of _ (by decide +kernel)) ggL_set_X8_set
theorem dL_set_0 : decode cL_set 0 = .ok (.aload_n 3, 1) := by decide +kernel
theorem dL_set_1 : decode cL_set 1 = .ok (.iconst 0, 1) := by decide +kernel
theorem dL_set_2 : decode cL_set 2 = .ok (.aload_n 0, 1) := by decide +kernel
theorem dL_set_3 : decode cL_set 3 = .ok (.iload_n 1, 1) := by decide +kernel
theorem dL_set_4 : decode cL_set 4 = .ok (.iload_n 2, 1) := by decide +kernel
theorem dL_set_5 : decode cL_set 5 = .ok (.invokevirtual 26, 3) := by decide +kernel
theorem dL_set_8 : decode cL_set 8 = .ok (.i2l, 1) := by decide +kernel
theorem dL_set_9 : decode cL_set 9 = .ok (.lastore, 1) := by decide +kernel
theorem dL_set_10 : decode cL_set 10 = .ok (.goto 11, 3) := by decide +kernel
theorem dL_set_13 : decode cL_set 13 = .ok (.astore 4, 2) := by decide +kernel
theorem dL_set_15 : decode cL_set 15 = .ok (.iconst 1, 1) := by decide +kernel
theorem dL_set_16 : decode cL_set 16 = .ok (.ireturn, 1) := by decide +kernel
theorem dL_set_17 : decode cL_set 17 = .ok (.astore 4, 2) := by decide +kernel
theorem dL_set_19 : decode cL_set 19 = .ok (.iconst 2, 1) := by decide +kernel
theorem dL_set_20 : decode cL_set 20 = .ok (.ireturn, 1) := by decide +kernel
theorem dL_set_21 : decode cL_set 21 = .ok (.iconst 0, 1) := by decide +kernel
theorem dL_set_22 : decode cL_set 22 = .ok (.ireturn, 1) := by decide +kernel
set_option maxRecDepth 20000 in
theorem ggL_plan_X8_plan : GoodIn wsL_plan wsX8_plan := goodIn_ca (goodIn_r _ [6, 7, 8, 9, 10, 11, 12, 13, 14, 5, 15, 16, 17, 18, 19, 20, 21, 22, 23, 24, 25, 26, 27, 28, 29, 30, 31, 32, 33, 34, 35, 36, 37, 38, 39, 40, 41, 42, 43, 44, 45, 46, 47, 48, 49, 50, 51, 52, 53, 54, 55, 56, 57, 58, 59, 60, 61, 62, 63, 64, 65, 66, 67, 68, 69, 70, 71, 72, 73, 74, 75, 76, 77, 78, 79, 80, 81, 82, 83, 84, 85, 86, 87, 88, 89, 90, 91, 92, 93, 94, 95, 96, 97, 98, 99, 100, 101, 102, 103, 104, 105, 106, 107, 108, 109, 110, 111, 112, 113, 114, 115, 116, 117, 118, 119, 120, 121, 122, 123, 124, 125, 126, 127, 128, 129, 130, 131, 132, 133, 134, 135, 136, 137, 138, 139, 140, 141, 142, 143, 144, 145, 146, 147, 148, 149, 150, 151, 152, 153, 154, 155, 156, 157, 158] (by decide +kernel) (by decide +kernel)) (goodIn_sub (fun _ h => List.mem_cons_of_mem _ (List.mem_append_right _ h)) (by decide +kernel))
set_option maxRecDepth 20000 in
theorem gL_plan_X8_plan : GoodIn wsL_plan (wsV RL 29 RX8 yX8_plan wsX8_plan) := goodIn_app (goodIn_of _ (by decide +kernel)) ggL_plan_X8_plan
theorem dL_plan_0 : decode cL_plan 0 = .ok (.aload_n 3, 1) := by decide +kernel
theorem dL_plan_1 : decode cL_plan 1 = .ok (.iconst 0, 1) := by decide +kernel
theorem dL_plan_2 : decode cL_plan 2 = .ok (.aload_n 0, 1) := by decide +kernel
theorem dL_plan_3 : decode cL_plan 3 = .ok (.iload_n 1, 1) := by decide +kernel
theorem dL_plan_4 : decode cL_plan 4 = .ok (.iload_n 2, 1) := by decide +kernel
theorem dL_plan_5 : decode cL_plan 5 = .ok (.invokevirtual 29, 3) := by decide +kernel
theorem dL_plan_8 : decode cL_plan 8 = .ok (.i2l, 1) := by decide +kernel
theorem dL_plan_9 : decode cL_plan 9 = .ok (.lastore, 1) := by decide +kernel
theorem dL_plan_10 : decode cL_plan 10 = .ok (.goto 7, 3) := by decide +kernel
theorem dL_plan_13 : decode cL_plan 13 = .ok (.astore 4, 2) := by decide +kernel
theorem dL_plan_15 : decode cL_plan 15 = .ok (.iconst 1, 1) := by decide +kernel
theorem dL_plan_16 : decode cL_plan 16 = .ok (.ireturn, 1) := by decide +kernel
theorem dL_plan_17 : decode cL_plan 17 = .ok (.iconst 0, 1) := by decide +kernel
theorem dL_plan_18 : decode cL_plan 18 = .ok (.ireturn, 1) := by decide +kernel
set_option maxRecDepth 20000 in
theorem ggL_unplan_X8_unplan : GoodIn wsL_unplan wsX8_unplan := goodIn_ca (goodIn_ca (goodIn_r _ [7, 8, 9, 10, 11, 12, 13, 14, 6, 15, 16, 17, 18, 19, 20, 21, 22, 23, 24, 25, 26, 27, 28, 29, 30, 31, 32, 33, 34, 35, 36, 37, 38, 39, 40, 41, 42, 43, 44, 45, 46, 47, 48, 49, 50, 51, 52, 53, 54, 55, 56, 57, 58, 59, 60, 61, 62, 63, 64, 65, 66, 67, 68, 69, 70, 71, 72, 73, 74, 75, 76, 77, 78, 79, 80, 81, 82, 83, 84, 85, 86, 87, 88, 89, 90, 91, 92, 93, 94, 95, 96, 97, 98, 99, 100, 101, 102, 103, 104, 105, 106, 107, 108, 109, 110, 111, 112, 113, 114, 115, 116, 117, 118, 119, 120, 121, 122, 123, 124, 125, 126, 127, 128, 129, 130, 131, 132, 133, 134, 135, 136, 137, 138, 139, 140, 141, 142, 143, 144, 145, 146, 147, 148, 149] (by decide +kernel) (by decide +kernel)) (goodIn_sub (fun _ h => List.mem_cons_of_mem _ (List.mem_append_left _ (List.mem_append_right _ h))) (by decide +kernel))) (goodIn_sub (fun _ h => List.mem_cons_of_mem _ (List.mem_append_right _ h)) (by decide +kernel))
set_option maxRecDepth 20000 in
theorem gL_unplan_X8_unplan : GoodIn wsL_unplan (wsV RL 32 RX8 yX8_unplan wsX8_unplan) := goodIn_app (goodIn_of _ (by decide +kernel)) ggL_unplan_X8_unplan
theorem dL_unplan_0 : decode cL_unplan 0 = .ok (.aload_n 2, 1) := by decide +kernel
theorem dL_unplan_1 : decode cL_unplan 1 = .ok (.iconst 0, 1) := by decide +kernel
theorem dL_unplan_2 : decode cL_unplan 2 = .ok (.aload_n 0, 1) := by decide +kernel
theorem dL_unplan_3 : decode cL_unplan 3 = .ok (.iload_n 1, 1) := by decide +kernel
theorem dL_unplan_4 : decode cL_unplan 4 = .ok (.invokevirtual 32, 3) := by decide +kernel
theorem dL_unplan_7 : decode cL_unplan 7 = .ok (.i2l, 1) := by decide +kernel
theorem dL_unplan_8 : decode cL_unplan 8 = .ok (.lastore, 1) := by decide +kernel
theorem dL_unplan_9 : decode cL_unplan 9 = .ok (.goto 9, 3) := by decide +kernel
theorem dL_unplan_12 : decode cL_unplan 12 = .ok (.astore_n 3, 1) := by decide +kernel
theorem dL_unplan_13 : decode cL_unplan 13 = .ok (.iconst 1, 1) := by decide +kernel
theorem dL_unplan_14 : decode cL_unplan 14 = .ok (.ireturn, 1) := by decide +kernel
theorem dL_unplan_15 : decode cL_unplan 15 = .ok (.astore_n 3, 1) := by decide +kernel
theorem dL_unplan_16 : decode cL_unplan 16 = .ok (.iconst 2, 1) := by decide +kernel
theorem dL_unplan_17 : decode cL_unplan 17 = .ok (.ireturn, 1) := by decide +kernel
theorem dL_unplan_18 : decode cL_unplan 18 = .ok (.iconst 0, 1) := by decide +kernel
theorem dL_unplan_19 : decode cL_unplan 19 = .ok (.ireturn, 1) := by decide +kernel
set_option maxRecDepth 20000 in
theorem ggL_orderBlade_X8_orderBlade : GoodIn wsL_orderBlade wsX8_orderBlade := goodIn_ca (goodIn_ca (goodIn_r _ [7, 8, 9, 10, 11, 12, 13, 14, 15, 16, 6, 17, 18, 19, 20, 21, 22, 23, 24, 25, 26, 27, 28, 29, 30, 31, 32, 33, 34, 35, 36, 37, 38, 39, 40, 41, 42, 43, 44, 45, 46, 47, 48, 49, 50, 51, 52, 53, 54, 55, 56, 57, 58, 59, 60, 61, 62, 63, 64, 65, 66, 67, 68, 69, 70, 71, 72, 73, 74, 75, 76, 77, 78, 79, 80, 81, 82, 83, 84, 85, 86, 87, 88, 89, 90, 91, 92, 93, 94, 95, 96, 97, 98, 99, 100, 101, 102, 103, 104, 105, 106, 107, 108, 109, 110, 111, 112, 113, 114, 115, 116, 117, 118, 119, 120, 121, 122, 123, 124, 125, 126, 127, 128, 129, 130, 131, 132, 133, 134, 135, 136, 137, 138, 139, 140, 141, 142, 143, 144, 145, 146, 147, 148, 149, 150, 151, 152, 153, 154, 155, 156] (by decide +kernel) (by decide +kernel)) (goodIn_sub (fun _ h => List.mem_cons_of_mem _ (List.mem_append_left _ (List.mem_append_right _ h))) (by decide +kernel))) (goodIn_sub (fun _ h => List.mem_cons_of_mem _ (List.mem_append_right _ h)) (by decide +kernel))
