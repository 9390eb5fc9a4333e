theorem dX8_init_0 : decode cX8_init 0 = .ok (.aload_n 0, 1) := by decide +kernel
theorem dX8_init_1 : decode cX8_init 1 = .ok (.invokespecial 1, 3) := by decide +kernel
theorem dX8_init_4 : decode cX8_init 4 = .ok (.aload_n 0, 1) := by decide +kernel
theorem dX8_init_5 : decode cX8_init 5 = .ok (.new 7, 3) := by decide +kernel
theorem dX8_init_8 : decode cX8_init 8 = .ok (.dup, 1) := by decide +kernel
theorem dX8_init_9 : decode cX8_init 9 = .ok (.invokespecial 9, 3) := by decide +kernel
theorem dX8_init_12 : decode cX8_init 12 = .ok (.putfield 10, 3) := by decide +kernel
theorem dX8_init_15 : decode cX8_init 15 = .ok (.aload_n 0, 1) := by decide +kernel
theorem dX8_init_16 : decode cX8_init 16 = .ok (.new 7, 3) := by decide +kernel
theorem dX8_init_19 : decode cX8_init 19 = .ok (.dup, 1) := by decide +kernel
theorem dX8_init_20 : decode cX8_init 20 = .ok (.invokespecial 9, 3) := by decide +kernel
theorem dX8_init_23 : decode cX8_init 23 = .ok (.putfield 16, 3) := by decide +kernel
theorem dX8_init_26 : decode cX8_init 26 = .ok (.aload_n 0, 1) := by decide +kernel
theorem dX8_init_27 : decode cX8_init 27 = .ok (.bipush 6, 2) := by decide +kernel
theorem dX8_init_29 : decode cX8_init 29 = .ok (.anewarray 7, 3) := by decide +kernel
theorem dX8_init_32 : decode cX8_init 32 = .ok (.putfield 19, 3) := by decide +kernel
theorem dX8_init_35 : decode cX8_init 35 = .ok (.aload_n 0, 1) := by decide +kernel
theorem dX8_init_36 : decode cX8_init 36 = .ok (.iconst 0, 1) := by decide +kernel
theorem dX8_init_37 : decode cX8_init 37 = .ok (.putfield 23, 3) := by decide +kernel
theorem dX8_init_40 : decode cX8_init 40 = .ok (.aload_n 0, 1) := by decide +kernel
theorem dX8_init_41 : decode cX8_init 41 = .ok (.iconst 0, 1) := by decide +kernel
theorem dX8_init_42 : decode cX8_init 42 = .ok (.putfield 27, 3) := by decide +kernel
theorem dX8_init_45 : decode cX8_init 45 = .ok (.aload_n 0, 1) := by decide +kernel
theorem dX8_init_46 : decode cX8_init 46 = .ok (.new 30, 3) := by decide +kernel
theorem dX8_init_49 : decode cX8_init 49 = .ok (.dup, 1) := by decide +kernel
theorem dX8_init_50 : decode cX8_init 50 = .ok (.invokespecial 32, 3) := by decide +kernel
theorem dX8_init_53 : decode cX8_init 53 = .ok (.putfield 33, 3) := by decide +kernel
theorem dX8_init_56 : decode cX8_init 56 = .ok (.iconst 0, 1) := by decide +kernel
theorem dX8_init_57 : decode cX8_init 57 = .ok (.istore_n 1, 1) := by decide +kernel
theorem dX8_init_58 : decode cX8_init 58 = .ok (.iload_n 1, 1) := by decide +kernel
theorem dX8_init_59 : decode cX8_init 59 = .ok (.bipush 6, 2) := by decide +kernel
theorem dX8_init_61 : decode cX8_init 61 = .ok (.if_icmp .ge 22, 3) := by decide +kernel
theorem dX8_init_64 : decode cX8_init 64 = .ok (.aload_n 0, 1) := by decide +kernel
theorem dX8_init_65 : decode cX8_init 65 = .ok (.getfield 19, 3) := by decide +kernel
theorem dX8_init_68 : decode cX8_init 68 = .ok (.iload_n 1, 1) := by decide +kernel
theorem dX8_init_69 : decode cX8_init 69 = .ok (.new 7, 3) := by decide +kernel
theorem dX8_init_72 : decode cX8_init 72 = .ok (.dup, 1) := by decide +kernel
theorem dX8_init_73 : decode cX8_init 73 = .ok (.invokespecial 9, 3) := by decide +kernel
theorem dX8_init_76 : decode cX8_init 76 = .ok (.aastore, 1) := by decide +kernel
theorem dX8_init_77 : decode cX8_init 77 = .ok (.iinc 1 1, 3) := by decide +kernel
theorem dX8_init_80 : decode cX8_init 80 = .ok (.goto (-22), 3) := by decide +kernel
theorem dX8_init_83 : decode cX8_init 83 = .ok (.return_, 1) := by decide +kernel
set_option maxRecDepth 20000 in
theorem ggX8_addTurbine_X8_isWithin : GoodIn wsX8_addTurbine wsX8_isWithin := goodIn_r _ [10] (by decide +kernel) (by decide +kernel)
set_option maxRecDepth 20000 in
theorem gX8_addTurbine_X8_isWithin : GoodIn wsX8_addTurbine (va_wsS RX8 37 yX8_isWithin wsX8_isWithin) := goodIn_app (goodIn_of _ (by decide +kernel)) ggX8_addTurbine_X8_isWithin
set_option maxRecDepth 20000 in
theorem ggX8_addTurbine_X2_hasTurbineAt : GoodIn wsX8_addTurbine wsX2_hasTurbineAt := goodIn_r _ [15, 16, 17, 18, 112, 113, 114, 115, 116, 117, 118, 119, 120, 121, 122, 123, 124, 125, 126, 127, 128] (by decide +kernel) (by decide +kernel)
set_option maxRecDepth 20000 in
theorem gX8_addTurbine_X2_hasTurbineAt : GoodIn wsX8_addTurbine (wsV RX8 51 RX2 yX2_hasTurbineAt wsX2_hasTurbineAt) := goodIn_app (goodIn_of _ (by decide +kernel)) ggX8_addTurbine_X2_hasTurbineAt
set_option maxRecDepth 20000 in
theorem ggX8_addTurbine_X8_saveState : GoodIn wsX8_addTurbine wsX8_saveState := goodIn_r _ [22, 23, 24, 25, 5, 26, 27, 28, 14, 29, 16, 17, 30, 31, 32, 33, 34, 35, 36, 37, 38, 39, 40, 41, 42, 43, 44, 45, 46, 47, 48, 49, 50, 51, 52, 53, 54, 55, 56, 57, 58, 59, 60, 61, 62, 63, 64, 65, 66, 67, 68, 69, 70, 71, 72, 73, 74, 75, 76, 77, 78, 79, 80, 81, 82, 83, 84, 85, 86, 87, 88, 89, 90, 91, 92, 93, 94, 95, 96, 97, 106, 107, 108, 109, 110, 111, 112, 113, 114, 115, 116, 117, 118, 119, 120, 121, 122, 123, 124, 125, 126, 127, 128, 129, 130, 131, 132, 133, 134, 135, 136, 137, 138, 139, 140, 141, 142, 143] (by decide +kernel) (by decide +kernel)
set_option maxRecDepth 20000 in
theorem gX8_addTurbine_X8_saveState : GoodIn wsX8_addTurbine (wsV RX8 60 RX8 yX8_saveState wsX8_saveState) := goodIn_app (goodIn_of _ (by decide +kernel)) ggX8_addTurbine_X8_saveState
set_option maxRecDepth 20000 in
theorem ggX8_addTurbine_X2_buildTurbine : GoodIn wsX8_addTurbine wsX2_buildTurbine := goodIn_r _ [101, 16, 17, 102, 103, 104, 45, 105, 47, 48, 49, 50, 51, 52, 53, 112, 113, 114, 115, 116, 117, 118, 119, 120, 121, 122, 123, 124, 125, 126, 127, 128] (by decide +kernel) (by decide +kernel)
set_option maxRecDepth 20000 in
theorem gX8_addTurbine_X2_buildTurbine : GoodIn wsX8_addTurbine (wsV RX8 63 RX2 yX2_buildTurbine wsX2_buildTurbine) := goodIn_app (goodIn_of _ (by decide +kernel)) ggX8_addTurbine_X2_buildTurbine
theorem dX8_addTurbine_0 : decode cX8_addTurbine 0 = .ok (.iload_n 1, 1) := by decide +kernel
theorem dX8_addTurbine_1 : decode cX8_addTurbine 1 = .ok (.iconst 1, 1) := by decide +kernel
theorem dX8_addTurbine_2 : decode cX8_addTurbine 2 = .ok (.bipush 99, 2) := by decide +kernel
theorem dX8_addTurbine_4 : decode cX8_addTurbine 4 = .ok (.invokestatic 37, 3) := by decide +kernel
theorem dX8_addTurbine_7 : decode cX8_addTurbine 7 = .ok (.ifCond .eq 25, 3) := by decide +kernel
theorem dX8_addTurbine_10 : decode cX8_addTurbine 10 = .ok (.iload_n 2, 1) := by decide +kernel
theorem dX8_addTurbine_11 : decode cX8_addTurbine 11 = .ok (.bipush 50, 2) := by decide +kernel
theorem dX8_addTurbine_13 : decode cX8_addTurbine 13 = .ok (.sipush 160, 3) := by decide +kernel
theorem dX8_addTurbine_16 : decode cX8_addTurbine 16 = .ok (.invokestatic 37, 3) := by decide +kernel
theorem dX8_addTurbine_19 : decode cX8_addTurbine 19 = .ok (.ifCond .eq 13, 3) := by decide +kernel
theorem dX8_addTurbine_22 : decode cX8_addTurbine 22 = .ok (.iload_n 3, 1) := by decide +kernel
theorem dX8_addTurbine_23 : decode cX8_addTurbine 23 = .ok (.iconst 1, 1) := by decide +kernel
theorem dX8_addTurbine_24 : decode cX8_addTurbine 24 = .ok (.bipush 50, 2) := by decide +kernel
theorem dX8_addTurbine_26 : decode cX8_addTurbine 26 = .ok (.invokestatic 37, 3) := by decide +kernel
theorem dX8_addTurbine_29 : decode cX8_addTurbine 29 = .ok (.ifCond .ne 13, 3) := by decide +kernel
theorem dX8_addTurbine_32 : decode cX8_addTurbine 32 = .ok (.new 41, 3) := by decide +kernel
theorem dX8_addTurbine_35 : decode cX8_addTurbine 35 = .ok (.dup, 1) := by decide +kernel
theorem dX8_addTurbine_36 : decode cX8_addTurbine 36 = .ok (.ldc 43, 2) := by decide +kernel
theorem dX8_addTurbine_38 : decode cX8_addTurbine 38 = .ok (.invokespecial 45, 3) := by decide +kernel
theorem dX8_addTurbine_41 : decode cX8_addTurbine 41 = .ok (.athrow, 1) := by decide +kernel
theorem dX8_addTurbine_42 : decode cX8_addTurbine 42 = .ok (.aload_n 0, 1) := by decide +kernel
theorem dX8_addTurbine_43 : decode cX8_addTurbine 43 = .ok (.getfield 10, 3) := by decide +kernel
theorem dX8_addTurbine_46 : decode cX8_addTurbine 46 = .ok (.getfield 48, 3) := by decide +kernel
theorem dX8_addTurbine_49 : decode cX8_addTurbine 49 = .ok (.bipush 10, 2) := by decide +kernel
theorem dX8_addTurbine_51 : decode cX8_addTurbine 51 = .ok (.if_icmp .ge 14, 3) := by decide +kernel
theorem dX8_addTurbine_54 : decode cX8_addTurbine 54 = .ok (.aload_n 0, 1) := by decide +kernel
theorem dX8_addTurbine_55 : decode cX8_addTurbine 55 = .ok (.getfield 10, 3) := by decide +kernel
theorem dX8_addTurbine_58 : decode cX8_addTurbine 58 = .ok (.iload_n 1, 1) := by decide +kernel
theorem dX8_addTurbine_59 : decode cX8_addTurbine 59 = .ok (.invokevirtual 51, 3) := by decide +kernel
theorem dX8_addTurbine_62 : decode cX8_addTurbine 62 = .ok (.ifCond .eq 13, 3) := by decide +kernel
theorem dX8_addTurbine_65 : decode cX8_addTurbine 65 = .ok (.new 55, 3) := by decide +kernel
theorem dX8_addTurbine_68 : decode cX8_addTurbine 68 = .ok (.dup, 1) := by decide +kernel
theorem dX8_addTurbine_69 : decode cX8_addTurbine 69 = .ok (.ldc 57, 2) := by decide +kernel
theorem dX8_addTurbine_71 : decode cX8_addTurbine 71 = .ok (.invokespecial 59, 3) := by decide +kernel
theorem dX8_addTurbine_74 : decode cX8_addTurbine 74 = .ok (.athrow, 1) := by decide +kernel
theorem dX8_addTurbine_75 : decode cX8_addTurbine 75 = .ok (.aload_n 0, 1) := by decide +kernel
theorem dX8_addTurbine_76 : decode cX8_addTurbine 76 = .ok (.invokevirtual 60, 3) := by decide +kernel
theorem dX8_addTurbine_79 : decode cX8_addTurbine 79 = .ok (.aload_n 0, 1) := by decide +kernel
theorem dX8_addTurbine_80 : decode cX8_addTurbine 80 = .ok (.getfield 10, 3) := by decide +kernel
theorem dX8_addTurbine_83 : decode cX8_addTurbine 83 = .ok (.iload_n 1, 1) := by decide +kernel
theorem dX8_addTurbine_84 : decode cX8_addTurbine 84 = .ok (.iload_n 2, 1) := by decide +kernel
theorem dX8_addTurbine_85 : decode cX8_addTurbine 85 = .ok (.iload_n 3, 1) := by decide +kernel
theorem dX8_addTurbine_86 : decode cX8_addTurbine 86 = .ok (.invokevirtual 63, 3) := by decide +kernel
theorem dX8_addTurbine_89 : decode cX8_addTurbine 89 = .ok (.ireturn, 1) := by decide +kernel
set_option maxRecDepth 20000 in
theorem ggX8_setFault_X8_requireTurbine : GoodIn wsX8_setFault wsX8_requireTurbine := goodIn_ca (goodIn_r _ [11, 12, 13, 3, 14, 15, 16, 17, 18, 19, 103, 104, 105, 106, 107, 108, 109, 110, 111, 112, 113, 114, 115, 116, 117, 118] (by decide +kernel) (by decide +kernel)) (goodIn_sub (fun _ h => List.mem_cons_of_mem _ (List.mem_append_right _ h)) (by decide +kernel))
set_option maxRecDepth 20000 in
theorem gX8_setFault_X8_requireTurbine : GoodIn wsX8_setFault (wsV RX8 67 RX8 yX8_requireTurbine wsX8_requireTurbine) := goodIn_app (goodIn_of _ (by decide +kernel)) ggX8_setFault_X8_requireTurbine
set_option maxRecDepth 20000 in
theorem ggX8_setFault_X8_isWithin : GoodIn wsX8_setFault wsX8_isWithin := goodIn_r _ [22] (by decide +kernel) (by decide +kernel)
set_option maxRecDepth 20000 in
theorem gX8_setFault_X8_isWithin : GoodIn wsX8_setFault (va_wsS RX8 37 yX8_isWithin wsX8_isWithin) := goodIn_app (goodIn_of _ (by decide +kernel)) ggX8_setFault_X8_isWithin
set_option maxRecDepth 20000 in
theorem ggX8_setFault_X8_saveState : GoodIn wsX8_setFault wsX8_saveState := goodIn_r _ [26, 27, 28, 29, 3, 30, 31, 32, 17, 33, 19, 34, 35, 36, 37, 38, 39, 40, 41, 42, 43, 44, 45, 46, 47, 48, 49, 50, 51, 52, 53, 54, 55, 56, 57, 58, 59, 60, 61, 62, 63, 64, 65, 66, 67, 68, 69, 70, 71, 72, 73, 74, 75, 76, 77, 78, 79, 80, 81, 82, 83, 84, 85, 86, 87, 88, 89, 90, 91, 92, 93, 94, 95, 96, 97, 98, 99, 100, 101, 102, 103, 104, 105, 106, 107, 108, 109, 110, 111, 112, 113, 114, 115, 116, 117, 118, 119, 120, 121, 122, 123, 124, 125, 126, 127, 128, 129, 130, 131, 132, 133, 134, 135, 136, 137, 138, 139, 140] (by decide +kernel) (by decide +kernel)
set_option maxRecDepth 20000 in
theorem gX8_setFault_X8_saveState : GoodIn wsX8_setFault (wsV RX8 60 RX8 yX8_saveState wsX8_saveState) := goodIn_app (goodIn_of _ (by decide +kernel)) ggX8_setFault_X8_saveState
theorem dX8_setFault_0 : decode cX8_setFault 0 = .ok (.aload_n 0, 1) := by decide +kernel
theorem dX8_setFault_1 : decode cX8_setFault 1 = .ok (.iload_n 1, 1) := by decide +kernel
theorem dX8_setFault_2 : decode cX8_setFault 2 = .ok (.invokevirtual 67, 3) := by decide +kernel
theorem dX8_setFault_5 : decode cX8_setFault 5 = .ok (.iload_n 2, 1) := by decide +kernel
theorem dX8_setFault_6 : decode cX8_setFault 6 = .ok (.iconst 0, 1) := by decide +kernel
theorem dX8_setFault_7 : decode cX8_setFault 7 = .ok (.iconst 4, 1) := by decide +kernel
theorem dX8_setFault_8 : decode cX8_setFault 8 = .ok (.invokestatic 37, 3) := by decide +kernel
theorem dX8_setFault_11 : decode cX8_setFault 11 = .ok (.ifCond .ne 13, 3) := by decide +kernel
theorem dX8_setFault_14 : decode cX8_setFault 14 = .ok (.new 41, 3) := by decide +kernel
theorem dX8_setFault_17 : decode cX8_setFault 17 = .ok (.dup, 1) := by decide +kernel
theorem dX8_setFault_18 : decode cX8_setFault 18 = .ok (.ldc 71, 2) := by decide +kernel
theorem dX8_setFault_20 : decode cX8_setFault 20 = .ok (.invokespecial 45, 3) := by decide +kernel
theorem dX8_setFault_23 : decode cX8_setFault 23 = .ok (.athrow, 1) := by decide +kernel
theorem dX8_setFault_24 : decode cX8_setFault 24 = .ok (.aload_n 0, 1) := by decide +kernel
theorem dX8_setFault_25 : decode cX8_setFault 25 = .ok (.invokevirtual 60, 3) := by decide +kernel
theorem dX8_setFault_28 : decode cX8_setFault 28 = .ok (.aload_n 0, 1) := by decide +kernel
theorem dX8_setFault_29 : decode cX8_setFault 29 = .ok (.getfield 10, 3) := by decide +kernel
theorem dX8_setFault_32 : decode cX8_setFault 32 = .ok (.getfield 73, 3) := by decide +kernel
theorem dX8_setFault_35 : decode cX8_setFault 35 = .ok (.iload_n 1, 1) := by decide +kernel
theorem dX8_setFault_36 : decode cX8_setFault 36 = .ok (.aaload, 1) := by decide +kernel
theorem dX8_setFault_37 : decode cX8_setFault 37 = .ok (.astore_n 3, 1) := by decide +kernel
theorem dX8_setFault_38 : decode cX8_setFault 38 = .ok (.aload_n 3, 1) := by decide +kernel
theorem dX8_setFault_39 : decode cX8_setFault 39 = .ok (.getfield 77, 3) := by decide +kernel
theorem dX8_setFault_42 : decode cX8_setFault 42 = .ok (.istore 4, 2) := by decide +kernel
theorem dX8_setFault_44 : decode cX8_setFault 44 = .ok (.aload_n 3, 1) := by decide +kernel
theorem dX8_setFault_45 : decode cX8_setFault 45 = .ok (.iload_n 2, 1) := by decide +kernel
theorem dX8_setFault_46 : decode cX8_setFault 46 = .ok (.putfield 77, 3) := by decide +kernel
theorem dX8_setFault_49 : decode cX8_setFault 49 = .ok (.aload_n 3, 1) := by decide +kernel
theorem dX8_setFault_50 : decode cX8_setFault 50 = .ok (.iconst 0, 1) := by decide +kernel
theorem dX8_setFault_51 : decode cX8_setFault 51 = .ok (.putfield 82, 3) := by decide +kernel
theorem dX8_setFault_54 : decode cX8_setFault 54 = .ok (.iload 4, 2) := by decide +kernel
theorem dX8_setFault_56 : decode cX8_setFault 56 = .ok (.ireturn, 1) := by decide +kernel
set_option maxRecDepth 20000 in
theorem ggX8_setBog_X8_isWithin : GoodIn wsX8_setBog wsX8_isWithin := goodIn_r _ [11] (by decide +kernel) (by decide +kernel)
set_option maxRecDepth 20000 in
theorem gX8_setBog_X8_isWithin : GoodIn wsX8_setBog (va_wsS RX8 37 yX8_isWithin wsX8_isWithin) := goodIn_app (goodIn_of _ (by decide +kernel)) ggX8_setBog_X8_isWithin
set_option maxRecDepth 20000 in
theorem ggX8_setBog_X0_isFull : GoodIn wsX8_setBog wsX0_isFull := goodIn_r _ [16, 17, 132, 133, 134] (by decide +kernel) (by decide +kernel)
set_option maxRecDepth 20000 in
theorem gX8_setBog_X0_isFull : GoodIn wsX8_setBog (wsV RX8 91 RX0 yX0_isFull wsX0_isFull) := goodIn_app (goodIn_of _ (by decide +kernel)) ggX8_setBog_X0_isFull
set_option maxRecDepth 20000 in
theorem ggX8_setBog_X0_indexAt : GoodIn wsX8_setBog wsX0_indexAt := goodIn_r _ [21, 17, 22, 132, 133, 134] (by decide +kernel) (by decide +kernel)
set_option maxRecDepth 20000 in
theorem gX8_setBog_X0_indexAt : GoodIn wsX8_setBog (wsV RX8 97 RX0 yX0_indexAt wsX0_indexAt) := goodIn_app (goodIn_of _ (by decide +kernel)) ggX8_setBog_X0_indexAt
set_option maxRecDepth 20000 in
theorem ggX8_setBog_X8_saveState : GoodIn wsX8_setBog wsX8_saveState := goodIn_r _ [26, 27, 28, 29, 5, 30, 31, 32, 33, 34, 35, 36, 37, 38, 39, 40, 41, 42, 43, 44, 45, 46, 47, 48, 49, 50, 51, 52, 53, 54, 55, 56, 57, 58, 59, 60, 61, 62, 63, 15, 64, 22, 65, 66, 17, 67, 68, 69, 70, 71, 72, 73, 74, 75, 76, 77, 78, 79, 80, 81, 82, 83, 84, 85, 86, 87, 88, 89, 90, 91, 92, 93, 94, 95, 96, 97, 98, 99, 100, 101, 116, 117, 118, 119, 120, 121, 122, 123, 124, 125, 126, 127, 128, 129, 130, 131, 135, 136, 137, 138, 139, 140, 141, 132, 133, 134, 142, 143, 144, 145, 146, 147, 148, 149, 150, 151, 152, 153] (by decide +kernel) (by decide +kernel)
set_option maxRecDepth 20000 in
theorem gX8_setBog_X8_saveState : GoodIn wsX8_setBog (wsV RX8 60 RX8 yX8_saveState wsX8_saveState) := goodIn_app (goodIn_of _ (by decide +kernel)) ggX8_setBog_X8_saveState
set_option maxRecDepth 20000 in
theorem ggX8_setBog_X0_put : GoodIn wsX8_setBog wsX0_put := goodIn_r _ [105, 66, 106, 19, 20, 15, 21, 17, 22, 107, 108, 109, 110, 111, 112, 113, 114, 115, 13, 14, 16, 132, 133, 134] (by decide +kernel) (by decide +kernel)
set_option maxRecDepth 20000 in
theorem gX8_setBog_X0_put : GoodIn wsX8_setBog (wsV RX8 103 RX0 yX0_put wsX0_put) := goodIn_app (goodIn_of _ (by decide +kernel)) ggX8_setBog_X0_put
theorem dX8_setBog_0 : decode cX8_setBog 0 = .ok (.iload_n 1, 1) := by decide +kernel
theorem dX8_setBog_1 : decode cX8_setBog 1 = .ok (.iconst 1, 1) := by decide +kernel
theorem dX8_setBog_2 : decode cX8_setBog 2 = .ok (.bipush 99, 2) := by decide +kernel
theorem dX8_setBog_4 : decode cX8_setBog 4 = .ok (.invokestatic 37, 3) := by decide +kernel
theorem dX8_setBog_7 : decode cX8_setBog 7 = .ok (.ifCond .eq 13, 3) := by decide +kernel
theorem dX8_setBog_10 : decode cX8_setBog 10 = .ok (.iload_n 2, 1) := by decide +kernel
theorem dX8_setBog_11 : decode cX8_setBog 11 = .ok (.iconst 0, 1) := by decide +kernel
theorem dX8_setBog_12 : decode cX8_setBog 12 = .ok (.bipush 50, 2) := by decide +kernel
theorem dX8_setBog_14 : decode cX8_setBog 14 = .ok (.invokestatic 37, 3) := by decide +kernel
theorem dX8_setBog_17 : decode cX8_setBog 17 = .ok (.ifCond .ne 13, 3) := by decide +kernel
theorem dX8_setBog_20 : decode cX8_setBog 20 = .ok (.new 41, 3) := by decide +kernel
theorem dX8_setBog_23 : decode cX8_setBog 23 = .ok (.dup, 1) := by decide +kernel
theorem dX8_setBog_24 : decode cX8_setBog 24 = .ok (.ldc 85, 2) := by decide +kernel
theorem dX8_setBog_26 : decode cX8_setBog 26 = .ok (.invokespecial 45, 3) := by decide +kernel
theorem dX8_setBog_29 : decode cX8_setBog 29 = .ok (.athrow, 1) := by decide +kernel
theorem dX8_setBog_30 : decode cX8_setBog 30 = .ok (.iload_n 2, 1) := by decide +kernel
theorem dX8_setBog_31 : decode cX8_setBog 31 = .ok (.ifCond .eq 41, 3) := by decide +kernel
theorem dX8_setBog_34 : decode cX8_setBog 34 = .ok (.aload_n 0, 1) := by decide +kernel
theorem dX8_setBog_35 : decode cX8_setBog 35 = .ok (.getfield 10, 3) := by decide +kernel
theorem dX8_setBog_38 : decode cX8_setBog 38 = .ok (.getfield 87, 3) := by decide +kernel
theorem dX8_setBog_41 : decode cX8_setBog 41 = .ok (.invokevirtual 91, 3) := by decide +kernel
theorem dX8_setBog_44 : decode cX8_setBog 44 = .ok (.ifCond .eq 28, 3) := by decide +kernel
theorem dX8_setBog_47 : decode cX8_setBog 47 = .ok (.aload_n 0, 1) := by decide +kernel
theorem dX8_setBog_48 : decode cX8_setBog 48 = .ok (.getfield 10, 3) := by decide +kernel
theorem dX8_setBog_51 : decode cX8_setBog 51 = .ok (.getfield 87, 3) := by decide +kernel
theorem dX8_setBog_54 : decode cX8_setBog 54 = .ok (.iload_n 1, 1) := by decide +kernel
theorem dX8_setBog_55 : decode cX8_setBog 55 = .ok (.invokevirtual 97, 3) := by decide +kernel
theorem dX8_setBog_58 : decode cX8_setBog 58 = .ok (.iconst (-1), 1) := by decide +kernel
theorem dX8_setBog_59 : decode cX8_setBog 59 = .ok (.if_icmp .ne 13, 3) := by decide +kernel
theorem dX8_setBog_62 : decode cX8_setBog 62 = .ok (.new 55, 3) := by decide +kernel
theorem dX8_setBog_65 : decode cX8_setBog 65 = .ok (.dup, 1) := by decide +kernel
theorem dX8_setBog_66 : decode cX8_setBog 66 = .ok (.ldc 101, 2) := by decide +kernel
theorem dX8_setBog_68 : decode cX8_setBog 68 = .ok (.invokespecial 59, 3) := by decide +kernel
theorem dX8_setBog_71 : decode cX8_setBog 71 = .ok (.athrow, 1) := by decide +kernel
theorem dX8_setBog_72 : decode cX8_setBog 72 = .ok (.aload_n 0, 1) := by decide +kernel
theorem dX8_setBog_73 : decode cX8_setBog 73 = .ok (.invokevirtual 60, 3) := by decide +kernel
theorem dX8_setBog_76 : decode cX8_setBog 76 = .ok (.aload_n 0, 1) := by decide +kernel
theorem dX8_setBog_77 : decode cX8_setBog 77 = .ok (.getfield 10, 3) := by decide +kernel
theorem dX8_setBog_80 : decode cX8_setBog 80 = .ok (.getfield 87, 3) := by decide +kernel
theorem dX8_setBog_83 : decode cX8_setBog 83 = .ok (.iload_n 1, 1) := by decide +kernel
theorem dX8_setBog_84 : decode cX8_setBog 84 = .ok (.iload_n 2, 1) := by decide +kernel
theorem dX8_setBog_85 : decode cX8_setBog 85 = .ok (.invokevirtual 103, 3) := by decide +kernel
theorem dX8_setBog_88 : decode cX8_setBog 88 = .ok (.aload_n 0, 1) := by decide +kernel
theorem dX8_setBog_89 : decode cX8_setBog 89 = .ok (.getfield 10, 3) := by decide +kernel
theorem dX8_setBog_92 : decode cX8_setBog 92 = .ok (.getfield 87, 3) := by decide +kernel
theorem dX8_setBog_95 : decode cX8_setBog 95 = .ok (.getfield 107, 3) := by decide +kernel
theorem dX8_setBog_98 : decode cX8_setBog 98 = .ok (.ireturn, 1) := by decide +kernel
set_option maxRecDepth 20000 in
theorem ggX8_set_X8_requireSetting : GoodIn wsX8_set wsX8_requireSetting := goodIn_ca (goodIn_r _ [10, 11, 12, 13, 14, 9, 15] (by decide +kernel) (by decide +kernel)) (goodIn_sub (fun _ h => List.mem_cons_of_mem _ (List.mem_append_right _ h)) (by decide +kernel))
set_option maxRecDepth 20000 in
theorem gX8_set_X8_requireSetting : GoodIn wsX8_set (va_wsS RX8 110 yX8_requireSetting wsX8_requireSetting) := goodIn_app (goodIn_of _ (by decide +kernel)) ggX8_set_X8_requireSetting
set_option maxRecDepth 20000 in
theorem ggX8_set_X8_isWithin : GoodIn wsX8_set wsX8_isWithin := goodIn_r _ [15] (by decide +kernel) (by decide +kernel)
set_option maxRecDepth 20000 in
theorem gX8_set_X8_isWithin : GoodIn wsX8_set (va_wsS RX8 37 yX8_isWithin wsX8_isWithin) := goodIn_app (goodIn_of _ (by decide +kernel)) ggX8_set_X8_isWithin
set_option maxRecDepth 20000 in
theorem ggX8_set_X8_saveState : GoodIn wsX8_set wsX8_saveState := goodIn_r _ [19, 20, 21, 22, 5, 23, 24, 25, 26, 27, 28, 29, 30, 31, 32, 33, 34, 35, 36, 37, 38, 39, 40, 41, 42, 43, 44, 45, 46, 47, 48, 49, 50, 51, 52, 53, 54, 55, 56, 57, 58, 59, 60, 61, 62, 63, 64, 65, 66, 67, 68, 69, 70, 71, 72, 73, 74, 75, 76, 77, 78, 79, 80, 81, 82, 83, 84, 85, 86, 87, 88, 89, 90, 91, 92, 93, 94, 95, 96, 97, 98, 99, 100, 101, 102, 103, 104, 105, 106, 107, 108, 109, 110, 111, 112, 113, 114, 115, 116, 117, 118, 119, 120, 121, 122, 123, 124, 125, 126, 127, 128, 129, 130, 131, 132, 133, 134, 135] (by decide +kernel) (by decide +kernel)
set_option maxRecDepth 20000 in
theorem gX8_set_X8_saveState : GoodIn wsX8_set (wsV RX8 60 RX8 yX8_saveState wsX8_saveState) := goodIn_app (goodIn_of _ (by decide +kernel)) ggX8_set_X8_saveState
theorem dX8_set_0 : decode cX8_set 0 = .ok (.iload_n 1, 1) := by decide +kernel
theorem dX8_set_1 : decode cX8_set 1 = .ok (.invokestatic 110, 3) := by decide +kernel
theorem dX8_set_4 : decode cX8_set 4 = .ok (.iload_n 2, 1) := by decide +kernel
theorem dX8_set_5 : decode cX8_set 5 = .ok (.getstatic 113, 3) := by decide +kernel
theorem dX8_set_8 : decode cX8_set 8 = .ok (.iload_n 1, 1) := by decide +kernel
theorem dX8_set_9 : decode cX8_set 9 = .ok (.iaload, 1) := by decide +kernel
theorem dX8_set_10 : decode cX8_set 10 = .ok (.getstatic 117, 3) := by decide +kernel
theorem dX8_set_13 : decode cX8_set 13 = .ok (.iload_n 1, 1) := by decide +kernel
theorem dX8_set_14 : decode cX8_set 14 = .ok (.iaload, 1) := by decide +kernel
theorem dX8_set_15 : decode cX8_set 15 = .ok (.invokestatic 37, 3) := by decide +kernel
theorem dX8_set_18 : decode cX8_set 18 = .ok (.ifCond .ne 13, 3) := by decide +kernel
theorem dX8_set_21 : decode cX8_set 21 = .ok (.new 41, 3) := by decide +kernel
theorem dX8_set_24 : decode cX8_set 24 = .ok (.dup, 1) := by decide +kernel
theorem dX8_set_25 : decode cX8_set 25 = .ok (.ldc 120, 2) := by decide +kernel
theorem dX8_set_27 : decode cX8_set 27 = .ok (.invokespecial 45, 3) := by decide +kernel
theorem dX8_set_30 : decode cX8_set 30 = .ok (.athrow, 1) := by decide +kernel
theorem dX8_set_31 : decode cX8_set 31 = .ok (.aload_n 0, 1) := by decide +kernel
theorem dX8_set_32 : decode cX8_set 32 = .ok (.invokevirtual 60, 3) := by decide +kernel
theorem dX8_set_35 : decode cX8_set 35 = .ok (.aload_n 0, 1) := by decide +kernel
theorem dX8_set_36 : decode cX8_set 36 = .ok (.getfield 10, 3) := by decide +kernel
theorem dX8_set_39 : decode cX8_set 39 = .ok (.getfield 122, 3) := by decide +kernel
theorem dX8_set_42 : decode cX8_set 42 = .ok (.iload_n 1, 1) := by decide +kernel
theorem dX8_set_43 : decode cX8_set 43 = .ok (.iaload, 1) := by decide +kernel
theorem dX8_set_44 : decode cX8_set 44 = .ok (.istore_n 3, 1) := by decide +kernel
theorem dX8_set_45 : decode cX8_set 45 = .ok (.aload_n 0, 1) := by decide +kernel
theorem dX8_set_46 : decode cX8_set 46 = .ok (.getfield 10, 3) := by decide +kernel
theorem dX8_set_49 : decode cX8_set 49 = .ok (.getfield 122, 3) := by decide +kernel
theorem dX8_set_52 : decode cX8_set 52 = .ok (.iload_n 1, 1) := by decide +kernel
theorem dX8_set_53 : decode cX8_set 53 = .ok (.iload_n 2, 1) := by decide +kernel
theorem dX8_set_54 : decode cX8_set 54 = .ok (.iastore, 1) := by decide +kernel
theorem dX8_set_55 : decode cX8_set 55 = .ok (.iload_n 3, 1) := by decide +kernel
theorem dX8_set_56 : decode cX8_set 56 = .ok (.ireturn, 1) := by decide +kernel
set_option maxRecDepth 20000 in
theorem ggX8_plan_X8_requireTurbine : GoodIn wsX8_plan wsX8_requireTurbine := goodIn_ca (goodIn_r _ [10, 1, 2, 3, 11, 12, 13, 14, 15, 16, 116, 117, 118, 119, 120, 121, 122, 123, 124, 125, 126, 127, 128, 129, 130, 131] (by decide +kernel) (by decide +kernel)) (goodIn_sub (fun _ h => List.mem_cons_of_mem _ (List.mem_append_right _ h)) (by decide +kernel))
set_option maxRecDepth 20000 in
theorem gX8_plan_X8_requireTurbine : GoodIn wsX8_plan (wsV RX8 67 RX8 yX8_requireTurbine wsX8_requireTurbine) := goodIn_app (goodIn_of _ (by decide +kernel)) ggX8_plan_X8_requireTurbine
set_option maxRecDepth 20000 in
theorem ggX8_plan_X4_countWithout : GoodIn wsX8_plan wsX4_countWithout := goodIn_r _ [21, 22, 23, 24, 25, 20, 26, 27, 132, 133] (by decide +kernel) (by decide +kernel)
set_option maxRecDepth 20000 in
theorem gX8_plan_X4_countWithout : GoodIn wsX8_plan (wsV RX8 129 RX4 yX4_countWithout wsX4_countWithout) := goodIn_app (goodIn_of _ (by decide +kernel)) ggX8_plan_X4_countWithout
set_option maxRecDepth 20000 in
theorem ggX8_plan_X8_isWithin : GoodIn wsX8_plan wsX8_isWithin := goodIn_r _ [30] (by decide +kernel) (by decide +kernel)
set_option maxRecDepth 20000 in
theorem gX8_plan_X8_isWithin : GoodIn wsX8_plan (va_wsS RX8 37 yX8_isWithin wsX8_isWithin) := goodIn_app (goodIn_of _ (by decide +kernel)) ggX8_plan_X8_isWithin
set_option maxRecDepth 20000 in
theorem ggX8_plan_X8_saveState : GoodIn wsX8_plan wsX8_saveState := goodIn_r _ [34, 35, 36, 37, 3, 38, 39, 40, 14, 41, 16, 42, 43, 44, 45, 46, 47, 48, 49, 50, 51, 52, 53, 54, 55, 56, 57, 58, 59, 60, 61, 62, 63, 64, 65, 66, 67, 68, 69, 70, 71, 72, 73, 74, 75, 76, 77, 78, 79, 80, 81, 82, 83, 84, 85, 86, 87, 20, 88, 27, 89, 22, 90, 91, 92, 93, 94, 95, 96, 97, 98, 99, 100, 101, 102, 103, 104, 105, 106, 107, 116, 117, 118, 119, 120, 121, 122, 123, 124, 125, 126, 127, 128, 129, 130, 131, 134, 135, 136, 137, 138, 139, 140, 141, 142, 143, 144, 145, 146, 132, 133, 147, 148, 149, 150, 151, 152, 153] (by decide +kernel) (by decide +kernel)
set_option maxRecDepth 20000 in
theorem gX8_plan_X8_saveState : GoodIn wsX8_plan (wsV RX8 60 RX8 yX8_saveState wsX8_saveState) := goodIn_app (goodIn_of _ (by decide +kernel)) ggX8_plan_X8_saveState
set_option maxRecDepth 20000 in
theorem ggX8_plan_X4_moveTo : GoodIn wsX8_plan wsX4_moveTo := goodIn_r _ [111, 22, 27, 23, 24, 25, 20, 26, 112, 113, 114, 115, 132, 133] (by decide +kernel) (by decide +kernel)
set_option maxRecDepth 20000 in
theorem gX8_plan_X4_moveTo : GoodIn wsX8_plan (wsV RX8 139 RX4 yX4_moveTo wsX4_moveTo) := goodIn_app (goodIn_of _ (by decide +kernel)) ggX8_plan_X4_moveTo
theorem dX8_plan_0 : decode cX8_plan 0 = .ok (.aload_n 0, 1) := by decide +kernel
theorem dX8_plan_1 : decode cX8_plan 1 = .ok (.iload_n 1, 1) := by decide +kernel
theorem dX8_plan_2 : decode cX8_plan 2 = .ok (.invokevirtual 67, 3) := by decide +kernel
theorem dX8_plan_5 : decode cX8_plan 5 = .ok (.iload_n 2, 1) := by decide +kernel
theorem dX8_plan_6 : decode cX8_plan 6 = .ok (.iconst 0, 1) := by decide +kernel
theorem dX8_plan_7 : decode cX8_plan 7 = .ok (.aload_n 0, 1) := by decide +kernel
theorem dX8_plan_8 : decode cX8_plan 8 = .ok (.getfield 10, 3) := by decide +kernel
theorem dX8_plan_11 : decode cX8_plan 11 = .ok (.getfield 125, 3) := by decide +kernel
theorem dX8_plan_14 : decode cX8_plan 14 = .ok (.iload_n 1, 1) := by decide +kernel
theorem dX8_plan_15 : decode cX8_plan 15 = .ok (.invokevirtual 129, 3) := by decide +kernel
theorem dX8_plan_18 : decode cX8_plan 18 = .ok (.invokestatic 37, 3) := by decide +kernel
theorem dX8_plan_21 : decode cX8_plan 21 = .ok (.ifCond .ne 13, 3) := by decide +kernel
theorem dX8_plan_24 : decode cX8_plan 24 = .ok (.new 134, 3) := by decide +kernel
theorem dX8_plan_27 : decode cX8_plan 27 = .ok (.dup, 1) := by decide +kernel
theorem dX8_plan_28 : decode cX8_plan 28 = .ok (.ldc 136, 2) := by decide +kernel
theorem dX8_plan_30 : decode cX8_plan 30 = .ok (.invokespecial 138, 3) := by decide +kernel
theorem dX8_plan_33 : decode cX8_plan 33 = .ok (.athrow, 1) := by decide +kernel
theorem dX8_plan_34 : decode cX8_plan 34 = .ok (.aload_n 0, 1) := by decide +kernel
theorem dX8_plan_35 : decode cX8_plan 35 = .ok (.invokevirtual 60, 3) := by decide +kernel
theorem dX8_plan_38 : decode cX8_plan 38 = .ok (.aload_n 0, 1) := by decide +kernel
theorem dX8_plan_39 : decode cX8_plan 39 = .ok (.getfield 10, 3) := by decide +kernel
theorem dX8_plan_42 : decode cX8_plan 42 = .ok (.getfield 125, 3) := by decide +kernel
theorem dX8_plan_45 : decode cX8_plan 45 = .ok (.iload_n 1, 1) := by decide +kernel
theorem dX8_plan_46 : decode cX8_plan 46 = .ok (.iload_n 2, 1) := by decide +kernel
theorem dX8_plan_47 : decode cX8_plan 47 = .ok (.invokevirtual 139, 3) := by decide +kernel
theorem dX8_plan_50 : decode cX8_plan 50 = .ok (.aload_n 0, 1) := by decide +kernel
theorem dX8_plan_51 : decode cX8_plan 51 = .ok (.getfield 10, 3) := by decide +kernel
theorem dX8_plan_54 : decode cX8_plan 54 = .ok (.getfield 125, 3) := by decide +kernel
theorem dX8_plan_57 : decode cX8_plan 57 = .ok (.getfield 142, 3) := by decide +kernel
theorem dX8_plan_60 : decode cX8_plan 60 = .ok (.ireturn, 1) := by decide +kernel
set_option maxRecDepth 20000 in
theorem ggX8_unplan_X8_requireTurbine : GoodIn wsX8_unplan wsX8_requireTurbine := goodIn_ca (goodIn_r _ [9, 10, 11, 3, 12, 13, 14, 15, 16, 17, 106, 107, 108, 109, 110, 111, 112, 113, 114, 115, 116, 117, 118, 119, 120, 121] (by decide +kernel) (by decide +kernel)) (goodIn_sub (fun _ h => List.mem_cons_of_mem _ (List.mem_append_right _ h)) (by decide +kernel))
set_option maxRecDepth 20000 in
theorem gX8_unplan_X8_requireTurbine : GoodIn wsX8_unplan (wsV RX8 67 RX8 yX8_requireTurbine wsX8_requireTurbine) := goodIn_app (goodIn_of _ (by decide +kernel)) ggX8_unplan_X8_requireTurbine
set_option maxRecDepth 20000 in
theorem ggX8_unplan_X4_placeOf : GoodIn wsX8_unplan wsX4_placeOf := goodIn_r _ [22, 23, 24, 122, 123] (by decide +kernel) (by decide +kernel)
set_option maxRecDepth 20000 in
theorem gX8_unplan_X4_placeOf : GoodIn wsX8_unplan (wsV RX8 143 RX4 yX4_placeOf wsX4_placeOf) := goodIn_app (goodIn_of _ (by decide +kernel)) ggX8_unplan_X4_placeOf
set_option maxRecDepth 20000 in
theorem ggX8_unplan_X8_saveState : GoodIn wsX8_unplan wsX8_saveState := goodIn_r _ [28, 29, 30, 31, 3, 32, 33, 34, 15, 35, 17, 36, 37, 38, 39, 40, 41, 42, 43, 44, 45, 46, 47, 48, 49, 50, 51, 52, 53, 54, 55, 56, 57, 58, 59, 60, 61, 62, 63, 64, 65, 66, 67, 68, 69, 70, 71, 72, 73, 74, 75, 76, 77, 78, 79, 80, 81, 21, 82, 24, 83, 23, 84, 85, 86, 87, 88, 89, 90, 91, 92, 93, 94, 95, 96, 97, 98, 99, 100, 101, 106, 107, 108, 109, 110, 111, 112, 113, 114, 115, 116, 117, 118, 119, 120, 121, 124, 125, 126, 127, 128, 129, 130, 131, 132, 133, 134, 135, 136, 122, 123, 137, 138, 139, 140, 141, 142, 143] (by decide +kernel) (by decide +kernel)
set_option maxRecDepth 20000 in
theorem gX8_unplan_X8_saveState : GoodIn wsX8_unplan (wsV RX8 60 RX8 yX8_saveState wsX8_saveState) := goodIn_app (goodIn_of _ (by decide +kernel)) ggX8_unplan_X8_saveState
set_option maxRecDepth 20000 in
theorem ggX8_unplan_X4_removeAt : GoodIn wsX8_unplan wsX4_removeAt := goodIn_r _ [105, 23, 24, 122, 123] (by decide +kernel) (by decide +kernel)
set_option maxRecDepth 20000 in
theorem gX8_unplan_X4_removeAt : GoodIn wsX8_unplan (wsV RX8 148 RX4 yX4_removeAt wsX4_removeAt) := goodIn_app (goodIn_of _ (by decide +kernel)) ggX8_unplan_X4_removeAt
theorem dX8_unplan_0 : decode cX8_unplan 0 = .ok (.aload_n 0, 1) := by decide +kernel
theorem dX8_unplan_1 : decode cX8_unplan 1 = .ok (.iload_n 1, 1) := by decide +kernel
theorem dX8_unplan_2 : decode cX8_unplan 2 = .ok (.invokevirtual 67, 3) := by decide +kernel
theorem dX8_unplan_5 : decode cX8_unplan 5 = .ok (.aload_n 0, 1) := by decide +kernel
theorem dX8_unplan_6 : decode cX8_unplan 6 = .ok (.getfield 10, 3) := by decide +kernel
theorem dX8_unplan_9 : decode cX8_unplan 9 = .ok (.getfield 125, 3) := by decide +kernel
theorem dX8_unplan_12 : decode cX8_unplan 12 = .ok (.iload_n 1, 1) := by decide +kernel
theorem dX8_unplan_13 : decode cX8_unplan 13 = .ok (.invokevirtual 143, 3) := by decide +kernel
theorem dX8_unplan_16 : decode cX8_unplan 16 = .ok (.istore_n 2, 1) := by decide +kernel
theorem dX8_unplan_17 : decode cX8_unplan 17 = .ok (.iload_n 2, 1) := by decide +kernel
theorem dX8_unplan_18 : decode cX8_unplan 18 = .ok (.iconst (-1), 1) := by decide +kernel
theorem dX8_unplan_19 : decode cX8_unplan 19 = .ok (.if_icmp .ne 13, 3) := by decide +kernel
theorem dX8_unplan_22 : decode cX8_unplan 22 = .ok (.new 55, 3) := by decide +kernel
theorem dX8_unplan_25 : decode cX8_unplan 25 = .ok (.dup, 1) := by decide +kernel
theorem dX8_unplan_26 : decode cX8_unplan 26 = .ok (.ldc 146, 2) := by decide +kernel
theorem dX8_unplan_28 : decode cX8_unplan 28 = .ok (.invokespecial 59, 3) := by decide +kernel
theorem dX8_unplan_31 : decode cX8_unplan 31 = .ok (.athrow, 1) := by decide +kernel
theorem dX8_unplan_32 : decode cX8_unplan 32 = .ok (.aload_n 0, 1) := by decide +kernel
theorem dX8_unplan_33 : decode cX8_unplan 33 = .ok (.invokevirtual 60, 3) := by decide +kernel
theorem dX8_unplan_36 : decode cX8_unplan 36 = .ok (.aload_n 0, 1) := by decide +kernel
theorem dX8_unplan_37 : decode cX8_unplan 37 = .ok (.getfield 10, 3) := by decide +kernel
theorem dX8_unplan_40 : decode cX8_unplan 40 = .ok (.getfield 125, 3) := by decide +kernel
theorem dX8_unplan_43 : decode cX8_unplan 43 = .ok (.iload_n 2, 1) := by decide +kernel
theorem dX8_unplan_44 : decode cX8_unplan 44 = .ok (.invokevirtual 148, 3) := by decide +kernel
theorem dX8_unplan_47 : decode cX8_unplan 47 = .ok (.iload_n 2, 1) := by decide +kernel
theorem dX8_unplan_48 : decode cX8_unplan 48 = .ok (.ireturn, 1) := by decide +kernel
set_option maxRecDepth 20000 in
theorem ggX8_orderBlade_X8_requireTurbine : GoodIn wsX8_orderBlade wsX8_requireTurbine := goodIn_ca (goodIn_r _ [11, 12, 13, 3, 14, 15, 16, 17, 18, 19, 113, 114, 115, 116, 117, 118, 119, 120, 121, 122, 123, 124, 125, 126, 127, 128] (by decide +kernel) (by decide +kernel)) (goodIn_sub (fun _ h => List.mem_cons_of_mem _ (List.mem_append_right _ h)) (by decide +kernel))
set_option maxRecDepth 20000 in
theorem gX8_orderBlade_X8_requireTurbine : GoodIn wsX8_orderBlade (wsV RX8 67 RX8 yX8_requireTurbine wsX8_requireTurbine) := goodIn_app (goodIn_of _ (by decide +kernel)) ggX8_orderBlade_X8_requireTurbine
set_option maxRecDepth 20000 in
theorem ggX8_orderBlade_X3_isFull : GoodIn wsX8_orderBlade wsX3_isFull := goodIn_r _ [24, 25, 129, 130, 131] (by decide +kernel) (by decide +kernel)
set_option maxRecDepth 20000 in
theorem gX8_orderBlade_X3_isFull : GoodIn wsX8_orderBlade (wsV RX8 155 RX3 yX3_isFull wsX3_isFull) := goodIn_app (goodIn_of _ (by decide +kernel)) ggX8_orderBlade_X3_isFull
set_option maxRecDepth 20000 in
theorem ggX8_orderBlade_X8_saveState : GoodIn wsX8_orderBlade wsX8_saveState := goodIn_r _ [29, 30, 31, 32, 3, 33, 34, 35, 17, 36, 19, 37, 38, 39, 40, 41, 42, 43, 44, 45, 46, 47, 48, 49, 50, 51, 52, 53, 54, 55, 56, 57, 58, 59, 60, 61, 62, 63, 64, 65, 66, 67, 68, 69, 70, 71, 72, 73, 23, 74, 75, 76, 77, 25, 78, 79, 80, 81, 82, 83, 84, 85, 86, 87, 88, 89, 90, 91, 92, 93, 94, 95, 96, 97, 98, 99, 100, 101, 102, 103, 113, 114, 115, 116, 117, 118, 119, 120, 121, 122, 123, 124, 125, 126, 127, 128, 132, 133, 134, 135, 136, 137, 138, 139, 140, 141, 129, 130, 131, 142, 143, 144, 145, 146, 147, 148, 149, 150] (by decide +kernel) (by decide +kernel)
set_option maxRecDepth 20000 in
theorem gX8_orderBlade_X8_saveState : GoodIn wsX8_orderBlade (wsV RX8 60 RX8 yX8_saveState wsX8_saveState) := goodIn_app (goodIn_of _ (by decide +kernel)) ggX8_orderBlade_X8_saveState
set_option maxRecDepth 20000 in
theorem ggX8_orderBlade_X5_bladeWeight : GoodIn wsX8_orderBlade wsX5_bladeWeight := goodIn_r _ [107, 56, 132, 133, 134, 135, 136, 137, 138] (by decide +kernel) (by decide +kernel)
set_option maxRecDepth 20000 in
theorem gX8_orderBlade_X5_bladeWeight : GoodIn wsX8_orderBlade (wsV RX8 160 RX5 yX5_bladeWeight wsX5_bladeWeight) := goodIn_app (goodIn_of _ (by decide +kernel)) ggX8_orderBlade_X5_bladeWeight
set_option maxRecDepth 20000 in
theorem ggX8_orderBlade_X3_take : GoodIn wsX8_orderBlade wsX3_take := goodIn_r _ [111, 75, 25, 77, 112, 21, 22, 23, 24, 129, 130, 131] (by decide +kernel) (by decide +kernel)
set_option maxRecDepth 20000 in
theorem gX8_orderBlade_X3_take : GoodIn wsX8_orderBlade (wsV RX8 164 RX3 yX3_take wsX3_take) := goodIn_app (goodIn_of _ (by decide +kernel)) ggX8_orderBlade_X3_take
theorem dX8_orderBlade_0 : decode cX8_orderBlade 0 = .ok (.aload_n 0, 1) := by decide +kernel
theorem dX8_orderBlade_1 : decode cX8_orderBlade 1 = .ok (.iload_n 1, 1) := by decide +kernel
theorem dX8_orderBlade_2 : decode cX8_orderBlade 2 = .ok (.invokevirtual 67, 3) := by decide +kernel
theorem dX8_orderBlade_5 : decode cX8_orderBlade 5 = .ok (.aload_n 0, 1) := by decide +kernel
theorem dX8_orderBlade_6 : decode cX8_orderBlade 6 = .ok (.getfield 10, 3) := by decide +kernel
theorem dX8_orderBlade_9 : decode cX8_orderBlade 9 = .ok (.getfield 151, 3) := by decide +kernel
theorem dX8_orderBlade_12 : decode cX8_orderBlade 12 = .ok (.invokevirtual 155, 3) := by decide +kernel
theorem dX8_orderBlade_15 : decode cX8_orderBlade 15 = .ok (.ifCond .eq 13, 3) := by decide +kernel
theorem dX8_orderBlade_18 : decode cX8_orderBlade 18 = .ok (.new 55, 3) := by decide +kernel
theorem dX8_orderBlade_21 : decode cX8_orderBlade 21 = .ok (.dup, 1) := by decide +kernel
theorem dX8_orderBlade_22 : decode cX8_orderBlade 22 = .ok (.ldc 158, 2) := by decide +kernel
theorem dX8_orderBlade_24 : decode cX8_orderBlade 24 = .ok (.invokespecial 59, 3) := by decide +kernel
theorem dX8_orderBlade_27 : decode cX8_orderBlade 27 = .ok (.athrow, 1) := by decide +kernel
theorem dX8_orderBlade_28 : decode cX8_orderBlade 28 = .ok (.aload_n 0, 1) := by decide +kernel
theorem dX8_orderBlade_29 : decode cX8_orderBlade 29 = .ok (.invokevirtual 60, 3) := by decide +kernel
theorem dX8_orderBlade_32 : decode cX8_orderBlade 32 = .ok (.aload_n 0, 1) := by decide +kernel
theorem dX8_orderBlade_33 : decode cX8_orderBlade 33 = .ok (.getfield 10, 3) := by decide +kernel
theorem dX8_orderBlade_36 : decode cX8_orderBlade 36 = .ok (.getfield 151, 3) := by decide +kernel
theorem dX8_orderBlade_39 : decode cX8_orderBlade 39 = .ok (.iload_n 1, 1) := by decide +kernel
theorem dX8_orderBlade_40 : decode cX8_orderBlade 40 = .ok (.aload_n 0, 1) := by decide +kernel
theorem dX8_orderBlade_41 : decode cX8_orderBlade 41 = .ok (.getfield 10, 3) := by decide +kernel
theorem dX8_orderBlade_44 : decode cX8_orderBlade 44 = .ok (.getfield 73, 3) := by decide +kernel
theorem dX8_orderBlade_47 : decode cX8_orderBlade 47 = .ok (.iload_n 1, 1) := by decide +kernel
theorem dX8_orderBlade_48 : decode cX8_orderBlade 48 = .ok (.aaload, 1) := by decide +kernel
theorem dX8_orderBlade_49 : decode cX8_orderBlade 49 = .ok (.invokevirtual 160, 3) := by decide +kernel
theorem dX8_orderBlade_52 : decode cX8_orderBlade 52 = .ok (.invokevirtual 164, 3) := by decide +kernel
theorem dX8_orderBlade_55 : decode cX8_orderBlade 55 = .ok (.aload_n 0, 1) := by decide +kernel
theorem dX8_orderBlade_56 : decode cX8_orderBlade 56 = .ok (.getfield 10, 3) := by decide +kernel
theorem dX8_orderBlade_59 : decode cX8_orderBlade 59 = .ok (.getfield 151, 3) := by decide +kernel
theorem dX8_orderBlade_62 : decode cX8_orderBlade 62 = .ok (.getfield 167, 3) := by decide +kernel
theorem dX8_orderBlade_65 : decode cX8_orderBlade 65 = .ok (.ireturn, 1) := by decide +kernel
set_option maxRecDepth 20000 in
theorem ggX8_pass_X8_isWithin : GoodIn wsX8_pass wsX8_isWithin := goodIn_r _ [10] (by decide +kernel) (by decide +kernel)
set_option maxRecDepth 20000 in
theorem gX8_pass_X8_isWithin : GoodIn wsX8_pass (va_wsS RX8 37 yX8_isWithin wsX8_isWithin) := goodIn_app (goodIn_of _ (by decide +kernel)) ggX8_pass_X8_isWithin
set_option maxRecDepth 20000 in
theorem ggX8_pass_X8_saveState : GoodIn wsX8_pass wsX8_saveState := goodIn_r _ [14, 15, 16, 17, 5, 18, 19, 20, 21, 22, 23, 24, 25, 26, 27, 28, 29, 30, 31, 32, 33, 34, 35, 36, 37, 38, 39, 40, 41, 42, 43, 44, 45, 46, 47, 48, 49, 50, 51, 52, 53, 54, 55, 56, 57, 58, 59, 60, 61, 62, 63, 64, 65, 66, 67, 68, 69, 70, 71, 72, 73, 74, 75, 76, 77, 78, 79, 80, 81, 82, 83, 84, 85, 86, 87, 88, 89, 90, 91, 92, 219, 220, 221, 222, 223, 224, 225, 226, 227, 228, 229, 230, 231, 232, 233, 234, 235, 236, 237, 238, 239, 240, 241, 242, 243, 244, 245, 246, 247, 248, 249, 250, 251, 252, 253, 254, 255, 256] (by decide +kernel) (by decide +kernel)
set_option maxRecDepth 20000 in
theorem gX8_pass_X8_saveState : GoodIn wsX8_pass (wsV RX8 60 RX8 yX8_saveState wsX8_saveState) := goodIn_app (goodIn_of _ (by decide +kernel)) ggX8_pass_X8_saveState
set_option maxRecDepth 20000 in
theorem ggX8_pass_X2_runHours : GoodIn wsX8_pass wsX2_runHours := goodIn_r _ [96, 97, 98, 99, 21, 100, 26, 30, 27, 36, 101, 102, 103, 61, 104, 66, 65, 105, 106, 107, 108, 109, 110, 111, 112, 113, 28, 114, 24, 115, 116, 117, 118, 70, 119, 74, 72, 120, 121, 122, 78, 123, 84, 83, 124, 125, 126, 127, 23, 128, 129, 130, 131, 132, 133, 134, 135, 136, 137, 138, 139, 140, 141, 82, 142, 143, 144, 145, 146, 147, 148, 149, 150, 151, 25, 152, 153, 154, 155, 52, 156, 57, 54, 56, 157, 158, 159, 160, 81, 161, 80, 162, 163, 164, 165, 63, 166, 167, 168, 169, 29, 170, 171, 172, 88, 173, 92, 90, 174, 175, 176, 40, 177, 43, 178, 179, 180, 181, 182, 183, 184, 185, 186, 187, 35, 188, 189, 190, 191, 44, 192, 193, 194, 195, 196, 197, 198, 199, 200, 201, 202, 203, 204, 205, 206, 207, 208, 209, 210, 211, 212, 213, 214, 215, 216, 217, 218, 45, 46, 225, 226, 227, 228, 229, 230, 231, 232, 233, 234, 245, 246, 247, 248, 249, 250, 251, 252, 253, 254, 235, 236, 237, 238, 239, 240, 241, 242, 243, 244, 255, 256] (by decide +kernel) (by decide +kernel)
set_option maxRecDepth 20000 in
theorem gX8_pass_X2_runHours : GoodIn wsX8_pass (wsV RX8 175 RX2 yX2_runHours wsX2_runHours) := goodIn_app (goodIn_of _ (by decide +kernel)) ggX8_pass_X2_runHours
theorem dX8_pass_0 : decode cX8_pass 0 = .ok (.iload_n 1, 1) := by decide +kernel
theorem dX8_pass_1 : decode cX8_pass 1 = .ok (.iconst 1, 1) := by decide +kernel
theorem dX8_pass_2 : decode cX8_pass 2 = .ok (.sipush 200, 3) := by decide +kernel
theorem dX8_pass_5 : decode cX8_pass 5 = .ok (.invokestatic 37, 3) := by decide +kernel
theorem dX8_pass_8 : decode cX8_pass 8 = .ok (.ifCond .ne 13, 3) := by decide +kernel
theorem dX8_pass_11 : decode cX8_pass 11 = .ok (.new 41, 3) := by decide +kernel
theorem dX8_pass_14 : decode cX8_pass 14 = .ok (.dup, 1) := by decide +kernel
theorem dX8_pass_15 : decode cX8_pass 15 = .ok (.ldc 168, 2) := by decide +kernel
theorem dX8_pass_17 : decode cX8_pass 17 = .ok (.invokespecial 45, 3) := by decide +kernel
theorem dX8_pass_20 : decode cX8_pass 20 = .ok (.athrow, 1) := by decide +kernel
theorem dX8_pass_21 : decode cX8_pass 21 = .ok (.aload_n 0, 1) := by decide +kernel
theorem dX8_pass_22 : decode cX8_pass 22 = .ok (.getfield 10, 3) := by decide +kernel
theorem dX8_pass_25 : decode cX8_pass 25 = .ok (.getfield 170, 3) := by decide +kernel
theorem dX8_pass_28 : decode cX8_pass 28 = .ok (.iload_n 1, 1) := by decide +kernel
theorem dX8_pass_29 : decode cX8_pass 29 = .ok (.iadd, 1) := by decide +kernel
theorem dX8_pass_30 : decode cX8_pass 30 = .ok (.sipush 10000, 3) := by decide +kernel
theorem dX8_pass_33 : decode cX8_pass 33 = .ok (.if_icmp .le 13, 3) := by decide +kernel
theorem dX8_pass_36 : decode cX8_pass 36 = .ok (.new 55, 3) := by decide +kernel
theorem dX8_pass_39 : decode cX8_pass 39 = .ok (.dup, 1) := by decide +kernel
theorem dX8_pass_40 : decode cX8_pass 40 = .ok (.ldc 173, 2) := by decide +kernel
theorem dX8_pass_42 : decode cX8_pass 42 = .ok (.invokespecial 59, 3) := by decide +kernel
theorem dX8_pass_45 : decode cX8_pass 45 = .ok (.athrow, 1) := by decide +kernel
theorem dX8_pass_46 : decode cX8_pass 46 = .ok (.aload_n 0, 1) := by decide +kernel
theorem dX8_pass_47 : decode cX8_pass 47 = .ok (.invokevirtual 60, 3) := by decide +kernel
theorem dX8_pass_50 : decode cX8_pass 50 = .ok (.aload_n 0, 1) := by decide +kernel
theorem dX8_pass_51 : decode cX8_pass 51 = .ok (.getfield 10, 3) := by decide +kernel
theorem dX8_pass_54 : decode cX8_pass 54 = .ok (.iload_n 1, 1) := by decide +kernel
theorem dX8_pass_55 : decode cX8_pass 55 = .ok (.invokevirtual 175, 3) := by decide +kernel
theorem dX8_pass_58 : decode cX8_pass 58 = .ok (.ireturn, 1) := by decide +kernel
set_option maxRecDepth 20000 in
theorem ggX8_append_X8_isWithin : GoodIn wsX8_append wsX8_isWithin := goodIn_r _ [10] (by decide +kernel) (by decide +kernel)
set_option maxRecDepth 20000 in
theorem gX8_append_X8_isWithin : GoodIn wsX8_append (va_wsS RX8 37 yX8_isWithin wsX8_isWithin) := goodIn_app (goodIn_of _ (by decide +kernel)) ggX8_append_X8_isWithin
set_option maxRecDepth 20000 in
theorem ggX8_append_X6_isFull : GoodIn wsX8_append wsX6_isFull := goodIn_r _ [15, 16, 29, 30] (by decide +kernel) (by decide +kernel)
set_option maxRecDepth 20000 in
theorem gX8_append_X6_isFull : GoodIn wsX8_append (wsV RX8 180 RX6 yX6_isFull wsX6_isFull) := goodIn_app (goodIn_of _ (by decide +kernel)) ggX8_append_X6_isFull
set_option maxRecDepth 20000 in
theorem ggX8_append_X6_add : GoodIn wsX8_append wsX6_add := goodIn_r _ [20, 21, 16, 22, 12, 13, 14, 15, 29, 30] (by decide +kernel) (by decide +kernel)
set_option maxRecDepth 20000 in
theorem gX8_append_X6_add : GoodIn wsX8_append (wsV RX8 183 RX6 yX6_add wsX6_add) := goodIn_app (goodIn_of _ (by decide +kernel)) ggX8_append_X6_add
theorem dX8_append_0 : decode cX8_append 0 = .ok (.iload_n 1, 1) := by decide +kernel
theorem dX8_append_1 : decode cX8_append 1 = .ok (.bipush 33, 2) := by decide +kernel
theorem dX8_append_3 : decode cX8_append 3 = .ok (.bipush 126, 2) := by decide +kernel
theorem dX8_append_5 : decode cX8_append 5 = .ok (.invokestatic 37, 3) := by decide +kernel
theorem dX8_append_8 : decode cX8_append 8 = .ok (.ifCond .ne 13, 3) := by decide +kernel
theorem dX8_append_11 : decode cX8_append 11 = .ok (.new 41, 3) := by decide +kernel
theorem dX8_append_14 : decode cX8_append 14 = .ok (.dup, 1) := by decide +kernel
theorem dX8_append_15 : decode cX8_append 15 = .ok (.ldc 178, 2) := by decide +kernel
theorem dX8_append_17 : decode cX8_append 17 = .ok (.invokespecial 45, 3) := by decide +kernel
theorem dX8_append_20 : decode cX8_append 20 = .ok (.athrow, 1) := by decide +kernel
theorem dX8_append_21 : decode cX8_append 21 = .ok (.aload_n 0, 1) := by decide +kernel
theorem dX8_append_22 : decode cX8_append 22 = .ok (.getfield 33, 3) := by decide +kernel
theorem dX8_append_25 : decode cX8_append 25 = .ok (.invokevirtual 180, 3) := by decide +kernel
theorem dX8_append_28 : decode cX8_append 28 = .ok (.ifCond .eq 13, 3) := by decide +kernel
theorem dX8_append_31 : decode cX8_append 31 = .ok (.new 55, 3) := by decide +kernel
theorem dX8_append_34 : decode cX8_append 34 = .ok (.dup, 1) := by decide +kernel
theorem dX8_append_35 : decode cX8_append 35 = .ok (.ldc 181, 2) := by decide +kernel
theorem dX8_append_37 : decode cX8_append 37 = .ok (.invokespecial 59, 3) := by decide +kernel
theorem dX8_append_40 : decode cX8_append 40 = .ok (.athrow, 1) := by decide +kernel
theorem dX8_append_41 : decode cX8_append 41 = .ok (.aload_n 0, 1) := by decide +kernel
theorem dX8_append_42 : decode cX8_append 42 = .ok (.getfield 33, 3) := by decide +kernel
theorem dX8_append_45 : decode cX8_append 45 = .ok (.iload_n 1, 1) := by decide +kernel
theorem dX8_append_46 : decode cX8_append 46 = .ok (.invokevirtual 183, 3) := by decide +kernel
theorem dX8_append_49 : decode cX8_append 49 = .ok (.aload_n 0, 1) := by decide +kernel
theorem dX8_append_50 : decode cX8_append 50 = .ok (.getfield 33, 3) := by decide +kernel
theorem dX8_append_53 : decode cX8_append 53 = .ok (.getfield 186, 3) := by decide +kernel
theorem dX8_append_56 : decode cX8_append 56 = .ok (.ireturn, 1) := by decide +kernel
theorem dX8_clearBuffer_0 : decode cX8_clearBuffer 0 = .ok (.aload_n 0, 1) := by decide +kernel
theorem dX8_clearBuffer_1 : decode cX8_clearBuffer 1 = .ok (.getfield 33, 3) := by decide +kernel
theorem dX8_clearBuffer_4 : decode cX8_clearBuffer 4 = .ok (.getfield 186, 3) := by decide +kernel
theorem dX8_clearBuffer_7 : decode cX8_clearBuffer 7 = .ok (.istore_n 1, 1) := by decide +kernel
theorem dX8_clearBuffer_8 : decode cX8_clearBuffer 8 = .ok (.aload_n 0, 1) := by decide +kernel
theorem dX8_clearBuffer_9 : decode cX8_clearBuffer 9 = .ok (.getfield 33, 3) := by decide +kernel
theorem dX8_clearBuffer_12 : decode cX8_clearBuffer 12 = .ok (.iconst 0, 1) := by decide +kernel
theorem dX8_clearBuffer_13 : decode cX8_clearBuffer 13 = .ok (.putfield 186, 3) := by decide +kernel
theorem dX8_clearBuffer_16 : decode cX8_clearBuffer 16 = .ok (.iload_n 1, 1) := by decide +kernel
theorem dX8_clearBuffer_17 : decode cX8_clearBuffer 17 = .ok (.ireturn, 1) := by decide +kernel
set_option maxRecDepth 20000 in
theorem ggX8_firstError_X6_errorIndex : GoodIn wsX8_firstError wsX6_errorIndex := goodIn_r _ [6, 7, 8, 9, 10, 5, 11, 12, 13, 14, 15, 16, 17, 18, 19, 20, 21, 22, 23, 24, 25, 26, 33, 34] (by decide +kernel) (by decide +kernel)
set_option maxRecDepth 20000 in
theorem gX8_firstError_X6_errorIndex : GoodIn wsX8_firstError (wsV RX8 189 RX6 yX6_errorIndex wsX6_errorIndex) := goodIn_app (goodIn_of _ (by decide +kernel)) ggX8_firstError_X6_errorIndex
theorem dX8_firstError_0 : decode cX8_firstError 0 = .ok (.aload_n 0, 1) := by decide +kernel
theorem dX8_firstError_1 : decode cX8_firstError 1 = .ok (.getfield 33, 3) := by decide +kernel
theorem dX8_firstError_4 : decode cX8_firstError 4 = .ok (.invokevirtual 189, 3) := by decide +kernel
theorem dX8_firstError_7 : decode cX8_firstError 7 = .ok (.ireturn, 1) := by decide +kernel
set_option maxRecDepth 20000 in
theorem ggX8_load_X6_isComplete : GoodIn wsX8_load wsX6_isComplete := goodIn_r _ [14, 15, 16, 17, 18, 13, 19, 20, 21, 22, 23, 24, 25, 26, 27, 28, 29, 30, 31, 32, 33, 34, 155, 156] (by decide +kernel) (by decide +kernel)
set_option maxRecDepth 20000 in
theorem gX8_load_X6_isComplete : GoodIn wsX8_load (wsV RX8 192 RX6 yX6_isComplete wsX6_isComplete) := goodIn_app (goodIn_of _ (by decide +kernel)) ggX8_load_X6_isComplete
set_option maxRecDepth 20000 in
theorem ggX8_load_X6_numberCount : GoodIn wsX8_load wsX6_numberCount := goodIn_r _ [38, 15, 16, 39, 40, 41, 13, 42, 43, 44, 45, 46, 155, 156] (by decide +kernel) (by decide +kernel)
set_option maxRecDepth 20000 in
theorem gX8_load_X6_numberCount : GoodIn wsX8_load (wsV RX8 197 RX6 yX6_numberCount wsX6_numberCount) := goodIn_app (goodIn_of _ (by decide +kernel)) ggX8_load_X6_numberCount
set_option maxRecDepth 20000 in
theorem ggX8_load_X8_saveState : GoodIn wsX8_load wsX8_saveState := goodIn_r _ [51, 52, 53, 54, 6, 55, 56, 57, 58, 59, 60, 61, 62, 63, 64, 65, 66, 67, 68, 69, 70, 71, 72, 73, 74, 75, 76, 77, 78, 79, 80, 81, 82, 83, 84, 85, 86, 87, 88, 89, 90, 91, 92, 93, 94, 95, 96, 97, 98, 99, 100, 101, 102, 103, 104, 105, 106, 107, 108, 109, 110, 111, 112, 113, 114, 115, 116, 117, 118, 119, 120, 121, 122, 123, 124, 125, 126, 127, 128, 129, 139, 140, 141, 142, 143, 144, 145, 146, 147, 148, 149, 150, 151, 152, 153, 154, 159, 160, 161, 162, 163, 164, 165, 166, 167, 168, 169, 170, 171, 172, 173, 174, 175, 176, 177, 178, 157, 158] (by decide +kernel) (by decide +kernel)
set_option maxRecDepth 20000 in
theorem gX8_load_X8_saveState : GoodIn wsX8_load (wsV RX8 60 RX8 yX8_saveState wsX8_saveState) := goodIn_app (goodIn_of _ (by decide +kernel)) ggX8_load_X8_saveState
set_option maxRecDepth 20000 in
theorem ggX8_load_X6_writeTo : GoodIn wsX8_load wsX6_writeTo := goodIn_r _ [133, 134, 15, 16, 43, 44, 45, 13, 46, 39, 40, 41, 42, 135, 136, 137, 125, 138, 129, 127, 157, 158, 155, 156] (by decide +kernel) (by decide +kernel)
set_option maxRecDepth 20000 in
theorem gX8_load_X6_writeTo : GoodIn wsX8_load (wsV RX8 206 RX6 yX6_writeTo wsX6_writeTo) := goodIn_app (goodIn_of _ (by decide +kernel)) ggX8_load_X6_writeTo
theorem dX8_load_0 : decode cX8_load 0 = .ok (.aload_n 0, 1) := by decide +kernel
theorem dX8_load_1 : decode cX8_load 1 = .ok (.getfield 33, 3) := by decide +kernel
theorem dX8_load_4 : decode cX8_load 4 = .ok (.invokevirtual 192, 3) := by decide +kernel
theorem dX8_load_7 : decode cX8_load 7 = .ok (.ifCond .ne 13, 3) := by decide +kernel
theorem dX8_load_10 : decode cX8_load 10 = .ok (.new 41, 3) := by decide +kernel
theorem dX8_load_13 : decode cX8_load 13 = .ok (.dup, 1) := by decide +kernel
theorem dX8_load_14 : decode cX8_load 14 = .ok (.ldc 195, 2) := by decide +kernel
theorem dX8_load_16 : decode cX8_load 16 = .ok (.invokespecial 45, 3) := by decide +kernel
theorem dX8_load_19 : decode cX8_load 19 = .ok (.athrow, 1) := by decide +kernel
theorem dX8_load_20 : decode cX8_load 20 = .ok (.aload_n 0, 1) := by decide +kernel
theorem dX8_load_21 : decode cX8_load 21 = .ok (.getfield 33, 3) := by decide +kernel
theorem dX8_load_24 : decode cX8_load 24 = .ok (.invokevirtual 197, 3) := by decide +kernel
theorem dX8_load_27 : decode cX8_load 27 = .ok (.bipush 48, 2) := by decide +kernel
theorem dX8_load_29 : decode cX8_load 29 = .ok (.if_icmp .le 13, 3) := by decide +kernel
theorem dX8_load_32 : decode cX8_load 32 = .ok (.new 55, 3) := by decide +kernel
theorem dX8_load_35 : decode cX8_load 35 = .ok (.dup, 1) := by decide +kernel
theorem dX8_load_36 : decode cX8_load 36 = .ok (.ldc 200, 2) := by decide +kernel
theorem dX8_load_38 : decode cX8_load 38 = .ok (.invokespecial 59, 3) := by decide +kernel
theorem dX8_load_41 : decode cX8_load 41 = .ok (.athrow, 1) := by decide +kernel
theorem dX8_load_42 : decode cX8_load 42 = .ok (.aload_n 0, 1) := by decide +kernel
theorem dX8_load_43 : decode cX8_load 43 = .ok (.invokevirtual 60, 3) := by decide +kernel
theorem dX8_load_46 : decode cX8_load 46 = .ok (.aload_n 0, 1) := by decide +kernel
theorem dX8_load_47 : decode cX8_load 47 = .ok (.getfield 33, 3) := by decide +kernel
theorem dX8_load_50 : decode cX8_load 50 = .ok (.aload_n 0, 1) := by decide +kernel
theorem dX8_load_51 : decode cX8_load 51 = .ok (.getfield 10, 3) := by decide +kernel
theorem dX8_load_54 : decode cX8_load 54 = .ok (.getfield 202, 3) := by decide +kernel
theorem dX8_load_57 : decode cX8_load 57 = .ok (.invokevirtual 206, 3) := by decide +kernel
theorem dX8_load_60 : decode cX8_load 60 = .ok (.aload_n 0, 1) := by decide +kernel
theorem dX8_load_61 : decode cX8_load 61 = .ok (.getfield 33, 3) := by decide +kernel
theorem dX8_load_64 : decode cX8_load 64 = .ok (.iconst 0, 1) := by decide +kernel
theorem dX8_load_65 : decode cX8_load 65 = .ok (.putfield 186, 3) := by decide +kernel
theorem dX8_load_68 : decode cX8_load 68 = .ok (.aload_n 0, 1) := by decide +kernel
theorem dX8_load_69 : decode cX8_load 69 = .ok (.getfield 10, 3) := by decide +kernel
theorem dX8_load_72 : decode cX8_load 72 = .ok (.getfield 202, 3) := by decide +kernel
theorem dX8_load_75 : decode cX8_load 75 = .ok (.getfield 210, 3) := by decide +kernel
theorem dX8_load_78 : decode cX8_load 78 = .ok (.ireturn, 1) := by decide +kernel
set_option maxRecDepth 20000 in
theorem ggX8_undo_X2_copyFrom : GoodIn wsX8_undo wsX2_copyFrom := goodIn_r _ [11, 12, 13, 14, 15, 16, 17, 18, 19, 20, 21, 22, 23, 24, 25, 26, 27, 28, 29, 30, 31, 32, 33, 34, 35, 36, 37, 38, 39, 40, 41, 42, 43, 44, 45, 46, 47, 48, 49, 50, 51, 52, 53, 54, 55, 56, 57, 58, 59, 60, 61, 62, 63, 64, 65, 66, 67, 68, 69, 70, 71, 72, 73, 74, 75, 76, 77, 78, 79, 80, 81, 88, 89, 90, 91, 92, 93, 94, 95, 96, 97, 98, 99, 100, 101, 102, 103, 104, 105, 106, 107, 108, 109, 110, 111, 112, 113, 114, 115, 116, 117, 118, 119] (by decide +kernel) (by decide +kernel)
set_option maxRecDepth 20000 in
theorem gX8_undo_X2_copyFrom : GoodIn wsX8_undo (wsV RX8 215 RX2 yX2_copyFrom wsX2_copyFrom) := goodIn_app (goodIn_of _ (by decide +kernel)) ggX8_undo_X2_copyFrom
theorem dX8_undo_0 : decode cX8_undo 0 = .ok (.aload_n 0, 1) := by decide +kernel
theorem dX8_undo_1 : decode cX8_undo 1 = .ok (.getfield 27, 3) := by decide +kernel
theorem dX8_undo_4 : decode cX8_undo 4 = .ok (.ifCond .ne 13, 3) := by decide +kernel
theorem dX8_undo_7 : decode cX8_undo 7 = .ok (.new 55, 3) := by decide +kernel
theorem dX8_undo_10 : decode cX8_undo 10 = .ok (.dup, 1) := by decide +kernel
theorem dX8_undo_11 : decode cX8_undo 11 = .ok (.ldc 213, 2) := by decide +kernel
theorem dX8_undo_13 : decode cX8_undo 13 = .ok (.invokespecial 59, 3) := by decide +kernel
theorem dX8_undo_16 : decode cX8_undo 16 = .ok (.athrow, 1) := by decide +kernel
theorem dX8_undo_17 : decode cX8_undo 17 = .ok (.aload_n 0, 1) := by decide +kernel
theorem dX8_undo_18 : decode cX8_undo 18 = .ok (.dup, 1) := by decide +kernel
theorem dX8_undo_19 : decode cX8_undo 19 = .ok (.getfield 27, 3) := by decide +kernel
theorem dX8_undo_22 : decode cX8_undo 22 = .ok (.iconst 1, 1) := by decide +kernel
theorem dX8_undo_23 : decode cX8_undo 23 = .ok (.isub, 1) := by decide +kernel
theorem dX8_undo_24 : decode cX8_undo 24 = .ok (.putfield 27, 3) := by decide +kernel
theorem dX8_undo_27 : decode cX8_undo 27 = .ok (.aload_n 0, 1) := by decide +kernel
theorem dX8_undo_28 : decode cX8_undo 28 = .ok (.getfield 10, 3) := by decide +kernel
theorem dX8_undo_31 : decode cX8_undo 31 = .ok (.aload_n 0, 1) := by decide +kernel
theorem dX8_undo_32 : decode cX8_undo 32 = .ok (.getfield 19, 3) := by decide +kernel
theorem dX8_undo_35 : decode cX8_undo 35 = .ok (.aload_n 0, 1) := by decide +kernel
theorem dX8_undo_36 : decode cX8_undo 36 = .ok (.getfield 23, 3) := by decide +kernel
theorem dX8_undo_39 : decode cX8_undo 39 = .ok (.aload_n 0, 1) := by decide +kernel
theorem dX8_undo_40 : decode cX8_undo 40 = .ok (.getfield 27, 3) := by decide +kernel
theorem dX8_undo_43 : decode cX8_undo 43 = .ok (.iadd, 1) := by decide +kernel
theorem dX8_undo_44 : decode cX8_undo 44 = .ok (.bipush 6, 2) := by decide +kernel
theorem dX8_undo_46 : decode cX8_undo 46 = .ok (.irem, 1) := by decide +kernel
theorem dX8_undo_47 : decode cX8_undo 47 = .ok (.aaload, 1) := by decide +kernel
theorem dX8_undo_48 : decode cX8_undo 48 = .ok (.invokevirtual 215, 3) := by decide +kernel
theorem dX8_undo_51 : decode cX8_undo 51 = .ok (.aload_n 0, 1) := by decide +kernel
theorem dX8_undo_52 : decode cX8_undo 52 = .ok (.getfield 27, 3) := by decide +kernel
theorem dX8_undo_55 : decode cX8_undo 55 = .ok (.ireturn, 1) := by decide +kernel
set_option maxRecDepth 20000 in
theorem ggX8_turbine_X8_requireTurbine : GoodIn wsX8_turbine wsX8_requireTurbine := goodIn_ca (goodIn_r _ [8, 9, 10, 3, 11, 12, 13, 14, 15, 16, 79, 80, 81, 82, 83, 84, 85, 86, 87, 88, 89, 90, 91, 92, 93, 94] (by decide +kernel) (by decide +kernel)) (goodIn_sub (fun _ h => List.mem_cons_of_mem _ (List.mem_append_right _ h)) (by decide +kernel))
set_option maxRecDepth 20000 in
theorem gX8_turbine_X8_requireTurbine : GoodIn wsX8_turbine (wsV RX8 67 RX8 yX8_requireTurbine wsX8_requireTurbine) := goodIn_app (goodIn_of _ (by decide +kernel)) ggX8_turbine_X8_requireTurbine
set_option maxRecDepth 20000 in
theorem ggX8_turbine_X8_isWithin : GoodIn wsX8_turbine wsX8_isWithin := goodIn_r _ [19] (by decide +kernel) (by decide +kernel)
set_option maxRecDepth 20000 in
theorem gX8_turbine_X8_isWithin : GoodIn wsX8_turbine (va_wsS RX8 37 yX8_isWithin wsX8_isWithin) := goodIn_app (goodIn_of _ (by decide +kernel)) ggX8_turbine_X8_isWithin
set_option maxRecDepth 20000 in
theorem ggX8_turbine_X2_turbineProperty : GoodIn wsX8_turbine wsX2_turbineProperty := goodIn_r _ [23, 24, 25, 26, 27, 28, 29, 30, 31, 32, 33, 34, 35, 12, 13, 14, 15, 16, 36, 37, 38, 39, 40, 41, 42, 43, 44, 45, 46, 47, 48, 49, 50, 51, 52, 53, 54, 55, 56, 57, 58, 59, 60, 61, 62, 63, 64, 65, 66, 67, 68, 69, 70, 71, 72, 73, 74, 75, 76, 77, 78, 85, 86, 87, 88, 89, 90, 91, 92, 93, 94, 95, 96, 97, 98, 99, 100, 101, 102, 103, 104, 105, 106, 107, 108] (by decide +kernel) (by decide +kernel)
set_option maxRecDepth 20000 in
theorem gX8_turbine_X2_turbineProperty : GoodIn wsX8_turbine (wsV RX8 221 RX2 yX2_turbineProperty wsX2_turbineProperty) := goodIn_app (goodIn_of _ (by decide +kernel)) ggX8_turbine_X2_turbineProperty
theorem dX8_turbine_0 : decode cX8_turbine 0 = .ok (.aload_n 0, 1) := by decide +kernel
theorem dX8_turbine_1 : decode cX8_turbine 1 = .ok (.iload_n 1, 1) := by decide +kernel
theorem dX8_turbine_2 : decode cX8_turbine 2 = .ok (.invokevirtual 67, 3) := by decide +kernel
theorem dX8_turbine_5 : decode cX8_turbine 5 = .ok (.iload_n 2, 1) := by decide +kernel
theorem dX8_turbine_6 : decode cX8_turbine 6 = .ok (.iconst 0, 1) := by decide +kernel
theorem dX8_turbine_7 : decode cX8_turbine 7 = .ok (.bipush 10, 2) := by decide +kernel
theorem dX8_turbine_9 : decode cX8_turbine 9 = .ok (.invokestatic 37, 3) := by decide +kernel
theorem dX8_turbine_12 : decode cX8_turbine 12 = .ok (.ifCond .ne 13, 3) := by decide +kernel
theorem dX8_turbine_15 : decode cX8_turbine 15 = .ok (.new 41, 3) := by decide +kernel
theorem dX8_turbine_18 : decode cX8_turbine 18 = .ok (.dup, 1) := by decide +kernel
theorem dX8_turbine_19 : decode cX8_turbine 19 = .ok (.ldc 219, 2) := by decide +kernel
theorem dX8_turbine_21 : decode cX8_turbine 21 = .ok (.invokespecial 45, 3) := by decide +kernel
theorem dX8_turbine_24 : decode cX8_turbine 24 = .ok (.athrow, 1) := by decide +kernel
theorem dX8_turbine_25 : decode cX8_turbine 25 = .ok (.aload_n 0, 1) := by decide +kernel
theorem dX8_turbine_26 : decode cX8_turbine 26 = .ok (.getfield 10, 3) := by decide +kernel
theorem dX8_turbine_29 : decode cX8_turbine 29 = .ok (.iload_n 1, 1) := by decide +kernel
theorem dX8_turbine_30 : decode cX8_turbine 30 = .ok (.iload_n 2, 1) := by decide +kernel
theorem dX8_turbine_31 : decode cX8_turbine 31 = .ok (.invokevirtual 221, 3) := by decide +kernel
theorem dX8_turbine_34 : decode cX8_turbine 34 = .ok (.ireturn, 1) := by decide +kernel
set_option maxRecDepth 20000 in
theorem ggX8_blade_X8_isWithin : GoodIn wsX8_blade wsX8_isWithin := goodIn_r _ [13] (by decide +kernel) (by decide +kernel)
set_option maxRecDepth 20000 in
theorem gX8_blade_X8_isWithin : GoodIn wsX8_blade (va_wsS RX8 37 yX8_isWithin wsX8_isWithin) := goodIn_app (goodIn_of _ (by decide +kernel)) ggX8_blade_X8_isWithin
theorem dX8_blade_0 : decode cX8_blade 0 = .ok (.iload_n 1, 1) := by decide +kernel
theorem dX8_blade_1 : decode cX8_blade 1 = .ok (.iconst 0, 1) := by decide +kernel
theorem dX8_blade_2 : decode cX8_blade 2 = .ok (.aload_n 0, 1) := by decide +kernel
theorem dX8_blade_3 : decode cX8_blade 3 = .ok (.getfield 10, 3) := by decide +kernel
theorem dX8_blade_6 : decode cX8_blade 6 = .ok (.getfield 151, 3) := by decide +kernel
theorem dX8_blade_9 : decode cX8_blade 9 = .ok (.getfield 167, 3) := by decide +kernel
theorem dX8_blade_12 : decode cX8_blade 12 = .ok (.iconst 1, 1) := by decide +kernel
theorem dX8_blade_13 : decode cX8_blade 13 = .ok (.isub, 1) := by decide +kernel
theorem dX8_blade_14 : decode cX8_blade 14 = .ok (.invokestatic 37, 3) := by decide +kernel
theorem dX8_blade_17 : decode cX8_blade 17 = .ok (.ifCond .ne 13, 3) := by decide +kernel
theorem dX8_blade_20 : decode cX8_blade 20 = .ok (.new 134, 3) := by decide +kernel
theorem dX8_blade_23 : decode cX8_blade 23 = .ok (.dup, 1) := by decide +kernel
theorem dX8_blade_24 : decode cX8_blade 24 = .ok (.ldc 225, 2) := by decide +kernel
theorem dX8_blade_26 : decode cX8_blade 26 = .ok (.invokespecial 138, 3) := by decide +kernel
theorem dX8_blade_29 : decode cX8_blade 29 = .ok (.athrow, 1) := by decide +kernel
theorem dX8_blade_30 : decode cX8_blade 30 = .ok (.iload_n 2, 1) := by decide +kernel
theorem dX8_blade_31 : decode cX8_blade 31 = .ok (.iconst 0, 1) := by decide +kernel
theorem dX8_blade_32 : decode cX8_blade 32 = .ok (.iconst 1, 1) := by decide +kernel
theorem dX8_blade_33 : decode cX8_blade 33 = .ok (.invokestatic 37, 3) := by decide +kernel
theorem dX8_blade_36 : decode cX8_blade 36 = .ok (.ifCond .ne 13, 3) := by decide +kernel
theorem dX8_blade_39 : decode cX8_blade 39 = .ok (.new 41, 3) := by decide +kernel
theorem dX8_blade_42 : decode cX8_blade 42 = .ok (.dup, 1) := by decide +kernel
theorem dX8_blade_43 : decode cX8_blade 43 = .ok (.ldc 227, 2) := by decide +kernel
theorem dX8_blade_45 : decode cX8_blade 45 = .ok (.invokespecial 45, 3) := by decide +kernel
theorem dX8_blade_48 : decode cX8_blade 48 = .ok (.athrow, 1) := by decide +kernel
theorem dX8_blade_49 : decode cX8_blade 49 = .ok (.iload_n 2, 1) := by decide +kernel
theorem dX8_blade_50 : decode cX8_blade 50 = .ok (.ifCond .ne 18, 3) := by decide +kernel
theorem dX8_blade_53 : decode cX8_blade 53 = .ok (.aload_n 0, 1) := by decide +kernel
theorem dX8_blade_54 : decode cX8_blade 54 = .ok (.getfield 10, 3) := by decide +kernel
theorem dX8_blade_57 : decode cX8_blade 57 = .ok (.getfield 151, 3) := by decide +kernel
theorem dX8_blade_60 : decode cX8_blade 60 = .ok (.getfield 229, 3) := by decide +kernel
theorem dX8_blade_63 : decode cX8_blade 63 = .ok (.iload_n 1, 1) := by decide +kernel
theorem dX8_blade_64 : decode cX8_blade 64 = .ok (.iaload, 1) := by decide +kernel
theorem dX8_blade_65 : decode cX8_blade 65 = .ok (.goto 15, 3) := by decide +kernel
theorem dX8_blade_68 : decode cX8_blade 68 = .ok (.aload_n 0, 1) := by decide +kernel
theorem dX8_blade_69 : decode cX8_blade 69 = .ok (.getfield 10, 3) := by decide +kernel
theorem dX8_blade_72 : decode cX8_blade 72 = .ok (.getfield 151, 3) := by decide +kernel
theorem dX8_blade_75 : decode cX8_blade 75 = .ok (.getfield 232, 3) := by decide +kernel
theorem dX8_blade_78 : decode cX8_blade 78 = .ok (.iload_n 1, 1) := by decide +kernel
theorem dX8_blade_79 : decode cX8_blade 79 = .ok (.iaload, 1) := by decide +kernel
theorem dX8_blade_80 : decode cX8_blade 80 = .ok (.ireturn, 1) := by decide +kernel
set_option maxRecDepth 20000 in
theorem ggX8_bog_X8_isWithin : GoodIn wsX8_bog wsX8_isWithin := goodIn_r _ [13] (by decide +kernel) (by decide +kernel)
set_option maxRecDepth 20000 in
theorem gX8_bog_X8_isWithin : GoodIn wsX8_bog (va_wsS RX8 37 yX8_isWithin wsX8_isWithin) := goodIn_app (goodIn_of _ (by decide +kernel)) ggX8_bog_X8_isWithin
theorem dX8_bog_0 : decode cX8_bog 0 = .ok (.iload_n 1, 1) := by decide +kernel
theorem dX8_bog_1 : decode cX8_bog 1 = .ok (.iconst 0, 1) := by decide +kernel
theorem dX8_bog_2 : decode cX8_bog 2 = .ok (.aload_n 0, 1) := by decide +kernel
theorem dX8_bog_3 : decode cX8_bog 3 = .ok (.getfield 10, 3) := by decide +kernel
theorem dX8_bog_6 : decode cX8_bog 6 = .ok (.getfield 87, 3) := by decide +kernel
theorem dX8_bog_9 : decode cX8_bog 9 = .ok (.getfield 107, 3) := by decide +kernel
theorem dX8_bog_12 : decode cX8_bog 12 = .ok (.iconst 1, 1) := by decide +kernel
theorem dX8_bog_13 : decode cX8_bog 13 = .ok (.isub, 1) := by decide +kernel
theorem dX8_bog_14 : decode cX8_bog 14 = .ok (.invokestatic 37, 3) := by decide +kernel
theorem dX8_bog_17 : decode cX8_bog 17 = .ok (.ifCond .ne 13, 3) := by decide +kernel
theorem dX8_bog_20 : decode cX8_bog 20 = .ok (.new 134, 3) := by decide +kernel
theorem dX8_bog_23 : decode cX8_bog 23 = .ok (.dup, 1) := by decide +kernel
theorem dX8_bog_24 : decode cX8_bog 24 = .ok (.ldc 235, 2) := by decide +kernel
theorem dX8_bog_26 : decode cX8_bog 26 = .ok (.invokespecial 138, 3) := by decide +kernel
theorem dX8_bog_29 : decode cX8_bog 29 = .ok (.athrow, 1) := by decide +kernel
theorem dX8_bog_30 : decode cX8_bog 30 = .ok (.iload_n 2, 1) := by decide +kernel
theorem dX8_bog_31 : decode cX8_bog 31 = .ok (.iconst 0, 1) := by decide +kernel
theorem dX8_bog_32 : decode cX8_bog 32 = .ok (.iconst 1, 1) := by decide +kernel
theorem dX8_bog_33 : decode cX8_bog 33 = .ok (.invokestatic 37, 3) := by decide +kernel
theorem dX8_bog_36 : decode cX8_bog 36 = .ok (.ifCond .ne 13, 3) := by decide +kernel
theorem dX8_bog_39 : decode cX8_bog 39 = .ok (.new 41, 3) := by decide +kernel
theorem dX8_bog_42 : decode cX8_bog 42 = .ok (.dup, 1) := by decide +kernel
theorem dX8_bog_43 : decode cX8_bog 43 = .ok (.ldc 227, 2) := by decide +kernel
theorem dX8_bog_45 : decode cX8_bog 45 = .ok (.invokespecial 45, 3) := by decide +kernel
theorem dX8_bog_48 : decode cX8_bog 48 = .ok (.athrow, 1) := by decide +kernel
theorem dX8_bog_49 : decode cX8_bog 49 = .ok (.iload_n 2, 1) := by decide +kernel
theorem dX8_bog_50 : decode cX8_bog 50 = .ok (.ifCond .ne 18, 3) := by decide +kernel
theorem dX8_bog_53 : decode cX8_bog 53 = .ok (.aload_n 0, 1) := by decide +kernel
theorem dX8_bog_54 : decode cX8_bog 54 = .ok (.getfield 10, 3) := by decide +kernel
theorem dX8_bog_57 : decode cX8_bog 57 = .ok (.getfield 87, 3) := by decide +kernel
theorem dX8_bog_60 : decode cX8_bog 60 = .ok (.getfield 237, 3) := by decide +kernel
theorem dX8_bog_63 : decode cX8_bog 63 = .ok (.iload_n 1, 1) := by decide +kernel
theorem dX8_bog_64 : decode cX8_bog 64 = .ok (.iaload, 1) := by decide +kernel
theorem dX8_bog_65 : decode cX8_bog 65 = .ok (.goto 15, 3) := by decide +kernel
theorem dX8_bog_68 : decode cX8_bog 68 = .ok (.aload_n 0, 1) := by decide +kernel
theorem dX8_bog_69 : decode cX8_bog 69 = .ok (.getfield 10, 3) := by decide +kernel
theorem dX8_bog_72 : decode cX8_bog 72 = .ok (.getfield 87, 3) := by decide +kernel
theorem dX8_bog_75 : decode cX8_bog 75 = .ok (.getfield 240, 3) := by decide +kernel
theorem dX8_bog_78 : decode cX8_bog 78 = .ok (.iload_n 1, 1) := by decide +kernel
theorem dX8_bog_79 : decode cX8_bog 79 = .ok (.iaload, 1) := by decide +kernel
theorem dX8_bog_80 : decode cX8_bog 80 = .ok (.ireturn, 1) := by decide +kernel
set_option maxRecDepth 20000 in
theorem ggX8_claims_X8_isWithin : GoodIn wsX8_claims wsX8_isWithin := goodIn_r _ [8] (by decide +kernel) (by decide +kernel)
set_option maxRecDepth 20000 in
theorem gX8_claims_X8_isWithin : GoodIn wsX8_claims (va_wsS RX8 37 yX8_isWithin wsX8_isWithin) := goodIn_app (goodIn_of _ (by decide +kernel)) ggX8_claims_X8_isWithin
theorem dX8_claims_0 : decode cX8_claims 0 = .ok (.iload_n 1, 1) := by decide +kernel
theorem dX8_claims_1 : decode cX8_claims 1 = .ok (.iconst 0, 1) := by decide +kernel
theorem dX8_claims_2 : decode cX8_claims 2 = .ok (.iconst 4, 1) := by decide +kernel
theorem dX8_claims_3 : decode cX8_claims 3 = .ok (.invokestatic 37, 3) := by decide +kernel
theorem dX8_claims_6 : decode cX8_claims 6 = .ok (.ifCond .ne 13, 3) := by decide +kernel
theorem dX8_claims_9 : decode cX8_claims 9 = .ok (.new 41, 3) := by decide +kernel
theorem dX8_claims_12 : decode cX8_claims 12 = .ok (.dup, 1) := by decide +kernel
theorem dX8_claims_13 : decode cX8_claims 13 = .ok (.ldc 243, 2) := by decide +kernel
theorem dX8_claims_15 : decode cX8_claims 15 = .ok (.invokespecial 45, 3) := by decide +kernel
theorem dX8_claims_18 : decode cX8_claims 18 = .ok (.athrow, 1) := by decide +kernel
theorem dX8_claims_19 : decode cX8_claims 19 = .ok (.aload_n 0, 1) := by decide +kernel
theorem dX8_claims_20 : decode cX8_claims 20 = .ok (.getfield 10, 3) := by decide +kernel
theorem dX8_claims_23 : decode cX8_claims 23 = .ok (.getfield 245, 3) := by decide +kernel
theorem dX8_claims_26 : decode cX8_claims 26 = .ok (.iload_n 1, 1) := by decide +kernel
theorem dX8_claims_27 : decode cX8_claims 27 = .ok (.iaload, 1) := by decide +kernel
theorem dX8_claims_28 : decode cX8_claims 28 = .ok (.ireturn, 1) := by decide +kernel
set_option maxRecDepth 20000 in
theorem ggX8_count_X8_isWithin : GoodIn wsX8_count wsX8_isWithin := goodIn_r _ [6] (by decide +kernel) (by decide +kernel)
set_option maxRecDepth 20000 in
theorem gX8_count_X8_isWithin : GoodIn wsX8_count (va_wsS RX8 37 yX8_isWithin wsX8_isWithin) := goodIn_app (goodIn_of _ (by decide +kernel)) ggX8_count_X8_isWithin
set_option maxRecDepth 20000 in
theorem ggX8_count_X8_numberOf : GoodIn wsX8_count wsX8_numberOf := goodIn_r _ [10, 11, 12, 13, 14, 15, 16, 17, 18, 19, 20, 21, 22, 23, 24, 25, 26, 27, 28, 29, 30, 31, 32, 33, 34, 35, 36, 37, 38, 39, 40, 41, 42, 43, 44, 45, 46, 47, 48, 49, 50, 51, 52, 53, 54, 55, 56, 57, 58, 59, 60, 61, 62, 63, 64, 65, 66, 67, 68, 69, 70, 71, 72, 73, 74, 75, 76, 77, 78, 79, 80, 81, 82, 83, 84, 85, 86, 87, 88, 89, 90, 91, 92, 93, 94, 95, 96, 97, 98, 99, 100, 101, 102, 103, 104] (by decide +kernel) (by decide +kernel)
set_option maxRecDepth 20000 in
theorem gX8_count_X8_numberOf : GoodIn wsX8_count (wsV RX8 250 RX8 yX8_numberOf wsX8_numberOf) := goodIn_app (goodIn_of _ (by decide +kernel)) ggX8_count_X8_numberOf
theorem dX8_count_0 : decode cX8_count 0 = .ok (.iload_n 1, 1) := by decide +kernel
theorem dX8_count_1 : decode cX8_count 1 = .ok (.iconst 0, 1) := by decide +kernel
theorem dX8_count_2 : decode cX8_count 2 = .ok (.bipush 14, 2) := by decide +kernel
theorem dX8_count_4 : decode cX8_count 4 = .ok (.invokestatic 37, 3) := by decide +kernel
theorem dX8_count_7 : decode cX8_count 7 = .ok (.ifCond .ne 13, 3) := by decide +kernel
theorem dX8_count_10 : decode cX8_count 10 = .ok (.new 41, 3) := by decide +kernel
theorem dX8_count_13 : decode cX8_count 13 = .ok (.dup, 1) := by decide +kernel
theorem dX8_count_14 : decode cX8_count 14 = .ok (.ldc 248, 2) := by decide +kernel
theorem dX8_count_16 : decode cX8_count 16 = .ok (.invokespecial 45, 3) := by decide +kernel
theorem dX8_count_19 : decode cX8_count 19 = .ok (.athrow, 1) := by decide +kernel
theorem dX8_count_20 : decode cX8_count 20 = .ok (.aload_n 0, 1) := by decide +kernel
theorem dX8_count_21 : decode cX8_count 21 = .ok (.iload_n 1, 1) := by decide +kernel
theorem dX8_count_22 : decode cX8_count 22 = .ok (.invokevirtual 250, 3) := by decide +kernel
theorem dX8_count_25 : decode cX8_count 25 = .ok (.ireturn, 1) := by decide +kernel
set_option maxRecDepth 20000 in
theorem ggX8_setting_X8_requireSetting : GoodIn wsX8_setting wsX8_requireSetting := goodIn_ca (goodIn_r _ [6, 7, 8, 9, 10, 5, 11] (by decide +kernel) (by decide +kernel)) (goodIn_sub (fun _ h => List.mem_cons_of_mem _ (List.mem_append_right _ h)) (by decide +kernel))
set_option maxRecDepth 20000 in
theorem gX8_setting_X8_requireSetting : GoodIn wsX8_setting (va_wsS RX8 110 yX8_requireSetting wsX8_requireSetting) := goodIn_app (goodIn_of _ (by decide +kernel)) ggX8_setting_X8_requireSetting
theorem dX8_setting_0 : decode cX8_setting 0 = .ok (.iload_n 1, 1) := by decide +kernel
theorem dX8_setting_1 : decode cX8_setting 1 = .ok (.invokestatic 110, 3) := by decide +kernel
theorem dX8_setting_4 : decode cX8_setting 4 = .ok (.aload_n 0, 1) := by decide +kernel
theorem dX8_setting_5 : decode cX8_setting 5 = .ok (.getfield 10, 3) := by decide +kernel
theorem dX8_setting_8 : decode cX8_setting 8 = .ok (.getfield 122, 3) := by decide +kernel
theorem dX8_setting_11 : decode cX8_setting 11 = .ok (.iload_n 1, 1) := by decide +kernel
theorem dX8_setting_12 : decode cX8_setting 12 = .ok (.iaload, 1) := by decide +kernel
theorem dX8_setting_13 : decode cX8_setting 13 = .ok (.ireturn, 1) := by decide +kernel
set_option maxRecDepth 20000 in
theorem ggX8_way_X8_isWithin : GoodIn wsX8_way wsX8_isWithin := goodIn_r _ [7] (by decide +kernel) (by decide +kernel)
set_option maxRecDepth 20000 in
theorem gX8_way_X8_isWithin : GoodIn wsX8_way (va_wsS RX8 37 yX8_isWithin wsX8_isWithin) := goodIn_app (goodIn_of _ (by decide +kernel)) ggX8_way_X8_isWithin
