theorem dX9_goHour_432 : decode cX9_goHour 432 = .ok (.getfield 7, 3) := by decide +kernel
theorem dX9_goHour_435 : decode cX9_goHour 435 = .ok (.bipush 40, 2) := by decide +kernel
theorem dX9_goHour_437 : decode cX9_goHour 437 = .ok (.iload 5, 2) := by decide +kernel
theorem dX9_goHour_439 : decode cX9_goHour 439 = .ok (.iadd, 1) := by decide +kernel
theorem dX9_goHour_440 : decode cX9_goHour 440 = .ok (.iconst 0, 1) := by decide +kernel
theorem dX9_goHour_441 : decode cX9_goHour 441 = .ok (.iastore, 1) := by decide +kernel
theorem dX9_goHour_442 : decode cX9_goHour 442 = .ok (.aload_n 0, 1) := by decide +kernel
theorem dX9_goHour_443 : decode cX9_goHour 443 = .ok (.getfield 7, 3) := by decide +kernel
theorem dX9_goHour_446 : decode cX9_goHour 446 = .ok (.bipush 30, 2) := by decide +kernel
theorem dX9_goHour_448 : decode cX9_goHour 448 = .ok (.iload 5, 2) := by decide +kernel
theorem dX9_goHour_450 : decode cX9_goHour 450 = .ok (.iadd, 1) := by decide +kernel
theorem dX9_goHour_451 : decode cX9_goHour 451 = .ok (.dup2, 1) := by decide +kernel
theorem dX9_goHour_452 : decode cX9_goHour 452 = .ok (.iaload, 1) := by decide +kernel
theorem dX9_goHour_453 : decode cX9_goHour 453 = .ok (.iconst 1, 1) := by decide +kernel
theorem dX9_goHour_454 : decode cX9_goHour 454 = .ok (.iadd, 1) := by decide +kernel
theorem dX9_goHour_455 : decode cX9_goHour 455 = .ok (.iastore, 1) := by decide +kernel
theorem dX9_goHour_456 : decode cX9_goHour 456 = .ok (.iinc 5 1, 3) := by decide +kernel
theorem dX9_goHour_459 : decode cX9_goHour 459 = .ok (.goto (-103), 3) := by decide +kernel
theorem dX9_goHour_462 : decode cX9_goHour 462 = .ok (.aload_n 0, 1) := by decide +kernel
theorem dX9_goHour_463 : decode cX9_goHour 463 = .ok (.getfield 7, 3) := by decide +kernel
theorem dX9_goHour_466 : decode cX9_goHour 466 = .ok (.sipush 182, 3) := by decide +kernel
theorem dX9_goHour_469 : decode cX9_goHour 469 = .ok (.dup2, 1) := by decide +kernel
theorem dX9_goHour_470 : decode cX9_goHour 470 = .ok (.iaload, 1) := by decide +kernel
theorem dX9_goHour_471 : decode cX9_goHour 471 = .ok (.iconst 1, 1) := by decide +kernel
theorem dX9_goHour_472 : decode cX9_goHour 472 = .ok (.iadd, 1) := by decide +kernel
theorem dX9_goHour_473 : decode cX9_goHour 473 = .ok (.iastore, 1) := by decide +kernel
theorem dX9_goHour_474 : decode cX9_goHour 474 = .ok (.iload 4, 2) := by decide +kernel
theorem dX9_goHour_476 : decode cX9_goHour 476 = .ok (.ireturn, 1) := by decide +kernel
set_option maxRecDepth 20000 in
theorem ggX9_goHours_X9_goHour : GoodIn wsX9_goHours wsX9_goHour := goodIn_r _ [5, 6, 7, 8, 9, 4, 10, 11, 12, 13, 14, 15, 16, 17, 18, 19, 20, 21, 22, 23, 24, 25, 26, 27, 28, 29, 30, 31, 32, 33, 34, 35, 36, 37, 38, 39, 40, 41, 42, 43, 44, 45, 46, 47, 48, 49, 50, 51, 52, 53, 54, 55, 56, 57, 58, 59, 60, 61, 62, 63, 64] (by decide +kernel) (by decide +kernel)
set_option maxRecDepth 20000 in
theorem gX9_goHours_X9_goHour : GoodIn wsX9_goHours (wsV RX9 72 RX9 yX9_goHour wsX9_goHour) := goodIn_app (goodIn_of _ (by decide +kernel)) ggX9_goHours_X9_goHour
theorem dX9_goHours_0 : decode cX9_goHours 0 = .ok (.iconst 0, 1) := by decide +kernel
theorem dX9_goHours_1 : decode cX9_goHours 1 = .ok (.istore_n 2, 1) := by decide +kernel
theorem dX9_goHours_2 : decode cX9_goHours 2 = .ok (.iconst 0, 1) := by decide +kernel
theorem dX9_goHours_3 : decode cX9_goHours 3 = .ok (.istore_n 3, 1) := by decide +kernel
theorem dX9_goHours_4 : decode cX9_goHours 4 = .ok (.iload_n 3, 1) := by decide +kernel
theorem dX9_goHours_5 : decode cX9_goHours 5 = .ok (.iload_n 1, 1) := by decide +kernel
theorem dX9_goHours_6 : decode cX9_goHours 6 = .ok (.if_icmp .ge 16, 3) := by decide +kernel
theorem dX9_goHours_9 : decode cX9_goHours 9 = .ok (.iload_n 2, 1) := by decide +kernel
theorem dX9_goHours_10 : decode cX9_goHours 10 = .ok (.aload_n 0, 1) := by decide +kernel
theorem dX9_goHours_11 : decode cX9_goHours 11 = .ok (.invokevirtual 72, 3) := by decide +kernel
theorem dX9_goHours_14 : decode cX9_goHours 14 = .ok (.iadd, 1) := by decide +kernel
theorem dX9_goHours_15 : decode cX9_goHours 15 = .ok (.istore_n 2, 1) := by decide +kernel
theorem dX9_goHours_16 : decode cX9_goHours 16 = .ok (.iinc 3 1, 3) := by decide +kernel
theorem dX9_goHours_19 : decode cX9_goHours 19 = .ok (.goto (-15), 3) := by decide +kernel
theorem dX9_goHours_22 : decode cX9_goHours 22 = .ok (.iload_n 2, 1) := by decide +kernel
theorem dX9_goHours_23 : decode cX9_goHours 23 = .ok (.ireturn, 1) := by decide +kernel
set_option maxRecDepth 20000 in
theorem ggX9_addTurbine_X9_within : GoodIn wsX9_addTurbine wsX9_within := goodIn_r _ [6] (by decide +kernel) (by decide +kernel)
set_option maxRecDepth 20000 in
theorem gX9_addTurbine_X9_within : GoodIn wsX9_addTurbine (va_wsS RX9 32 yX9_within wsX9_within) := goodIn_app (goodIn_of _ (by decide +kernel)) ggX9_addTurbine_X9_within
set_option maxRecDepth 20000 in
theorem ggX9_addTurbine_X9_fails : GoodIn wsX9_addTurbine wsX9_fails := goodIn_r _ [10, 1, 17, 18, 19, 20, 21, 22, 23, 24, 25, 26, 27, 28, 29, 30, 31] (by decide +kernel) (by decide +kernel)
set_option maxRecDepth 20000 in
theorem gX9_addTurbine_X9_fails : GoodIn wsX9_addTurbine (wsV RX9 76 RX9 yX9_fails wsX9_fails) := goodIn_app (goodIn_of _ (by decide +kernel)) ggX9_addTurbine_X9_fails
set_option maxRecDepth 20000 in
theorem ggX9_addTurbine_X9_save : GoodIn wsX9_addTurbine wsX9_save := goodIn_r _ [14, 15, 16, 2, 17, 18, 19, 20, 21, 22, 23, 24, 25, 26, 27, 28, 29, 30, 31] (by decide +kernel) (by decide +kernel)
set_option maxRecDepth 20000 in
theorem gX9_addTurbine_X9_save : GoodIn wsX9_addTurbine (wsV RX9 79 RX9 yX9_save wsX9_save) := goodIn_app (goodIn_of _ (by decide +kernel)) ggX9_addTurbine_X9_save
theorem dX9_addTurbine_0 : decode cX9_addTurbine 0 = .ok (.aload_n 0, 1) := by decide +kernel
theorem dX9_addTurbine_1 : decode cX9_addTurbine 1 = .ok (.iconst 0, 1) := by decide +kernel
theorem dX9_addTurbine_2 : decode cX9_addTurbine 2 = .ok (.putfield 28, 3) := by decide +kernel
theorem dX9_addTurbine_5 : decode cX9_addTurbine 5 = .ok (.iload_n 1, 1) := by decide +kernel
theorem dX9_addTurbine_6 : decode cX9_addTurbine 6 = .ok (.iconst 1, 1) := by decide +kernel
theorem dX9_addTurbine_7 : decode cX9_addTurbine 7 = .ok (.bipush 99, 2) := by decide +kernel
theorem dX9_addTurbine_9 : decode cX9_addTurbine 9 = .ok (.invokestatic 32, 3) := by decide +kernel
theorem dX9_addTurbine_12 : decode cX9_addTurbine 12 = .ok (.ifCond .eq 25, 3) := by decide +kernel
theorem dX9_addTurbine_15 : decode cX9_addTurbine 15 = .ok (.iload_n 2, 1) := by decide +kernel
theorem dX9_addTurbine_16 : decode cX9_addTurbine 16 = .ok (.bipush 50, 2) := by decide +kernel
theorem dX9_addTurbine_18 : decode cX9_addTurbine 18 = .ok (.sipush 160, 3) := by decide +kernel
theorem dX9_addTurbine_21 : decode cX9_addTurbine 21 = .ok (.invokestatic 32, 3) := by decide +kernel
theorem dX9_addTurbine_24 : decode cX9_addTurbine 24 = .ok (.ifCond .eq 13, 3) := by decide +kernel
theorem dX9_addTurbine_27 : decode cX9_addTurbine 27 = .ok (.iload_n 3, 1) := by decide +kernel
theorem dX9_addTurbine_28 : decode cX9_addTurbine 28 = .ok (.iconst 1, 1) := by decide +kernel
theorem dX9_addTurbine_29 : decode cX9_addTurbine 29 = .ok (.bipush 50, 2) := by decide +kernel
theorem dX9_addTurbine_31 : decode cX9_addTurbine 31 = .ok (.invokestatic 32, 3) := by decide +kernel
theorem dX9_addTurbine_34 : decode cX9_addTurbine 34 = .ok (.ifCond .ne 9, 3) := by decide +kernel
theorem dX9_addTurbine_37 : decode cX9_addTurbine 37 = .ok (.aload_n 0, 1) := by decide +kernel
theorem dX9_addTurbine_38 : decode cX9_addTurbine 38 = .ok (.iconst 1, 1) := by decide +kernel
theorem dX9_addTurbine_39 : decode cX9_addTurbine 39 = .ok (.invokevirtual 76, 3) := by decide +kernel
theorem dX9_addTurbine_42 : decode cX9_addTurbine 42 = .ok (.ireturn, 1) := by decide +kernel
theorem dX9_addTurbine_43 : decode cX9_addTurbine 43 = .ok (.aload_n 0, 1) := by decide +kernel
theorem dX9_addTurbine_44 : decode cX9_addTurbine 44 = .ok (.getfield 7, 3) := by decide +kernel
theorem dX9_addTurbine_47 : decode cX9_addTurbine 47 = .ok (.bipush 70, 2) := by decide +kernel
theorem dX9_addTurbine_49 : decode cX9_addTurbine 49 = .ok (.iaload, 1) := by decide +kernel
theorem dX9_addTurbine_50 : decode cX9_addTurbine 50 = .ok (.bipush 10, 2) := by decide +kernel
theorem dX9_addTurbine_52 : decode cX9_addTurbine 52 = .ok (.if_icmp .ne 7, 3) := by decide +kernel
theorem dX9_addTurbine_55 : decode cX9_addTurbine 55 = .ok (.iconst 1, 1) := by decide +kernel
theorem dX9_addTurbine_56 : decode cX9_addTurbine 56 = .ok (.goto 4, 3) := by decide +kernel
theorem dX9_addTurbine_59 : decode cX9_addTurbine 59 = .ok (.iconst 0, 1) := by decide +kernel
theorem dX9_addTurbine_60 : decode cX9_addTurbine 60 = .ok (.istore 4, 2) := by decide +kernel
theorem dX9_addTurbine_62 : decode cX9_addTurbine 62 = .ok (.iconst 0, 1) := by decide +kernel
theorem dX9_addTurbine_63 : decode cX9_addTurbine 63 = .ok (.istore 5, 2) := by decide +kernel
theorem dX9_addTurbine_65 : decode cX9_addTurbine 65 = .ok (.iload 5, 2) := by decide +kernel
theorem dX9_addTurbine_67 : decode cX9_addTurbine 67 = .ok (.aload_n 0, 1) := by decide +kernel
theorem dX9_addTurbine_68 : decode cX9_addTurbine 68 = .ok (.getfield 7, 3) := by decide +kernel
theorem dX9_addTurbine_71 : decode cX9_addTurbine 71 = .ok (.bipush 70, 2) := by decide +kernel
theorem dX9_addTurbine_73 : decode cX9_addTurbine 73 = .ok (.iaload, 1) := by decide +kernel
theorem dX9_addTurbine_74 : decode cX9_addTurbine 74 = .ok (.if_icmp .ge 34, 3) := by decide +kernel
theorem dX9_addTurbine_77 : decode cX9_addTurbine 77 = .ok (.iload 4, 2) := by decide +kernel
theorem dX9_addTurbine_79 : decode cX9_addTurbine 79 = .ok (.ifCond .ne 16, 3) := by decide +kernel
theorem dX9_addTurbine_82 : decode cX9_addTurbine 82 = .ok (.aload_n 0, 1) := by decide +kernel
theorem dX9_addTurbine_83 : decode cX9_addTurbine 83 = .ok (.getfield 7, 3) := by decide +kernel
theorem dX9_addTurbine_86 : decode cX9_addTurbine 86 = .ok (.iconst 0, 1) := by decide +kernel
theorem dX9_addTurbine_87 : decode cX9_addTurbine 87 = .ok (.iload 5, 2) := by decide +kernel
theorem dX9_addTurbine_89 : decode cX9_addTurbine 89 = .ok (.iadd, 1) := by decide +kernel
theorem dX9_addTurbine_90 : decode cX9_addTurbine 90 = .ok (.iaload, 1) := by decide +kernel
theorem dX9_addTurbine_91 : decode cX9_addTurbine 91 = .ok (.iload_n 1, 1) := by decide +kernel
theorem dX9_addTurbine_92 : decode cX9_addTurbine 92 = .ok (.if_icmp .ne 7, 3) := by decide +kernel
theorem dX9_addTurbine_95 : decode cX9_addTurbine 95 = .ok (.iconst 1, 1) := by decide +kernel
theorem dX9_addTurbine_96 : decode cX9_addTurbine 96 = .ok (.goto 4, 3) := by decide +kernel
theorem dX9_addTurbine_99 : decode cX9_addTurbine 99 = .ok (.iconst 0, 1) := by decide +kernel
theorem dX9_addTurbine_100 : decode cX9_addTurbine 100 = .ok (.istore 4, 2) := by decide +kernel
theorem dX9_addTurbine_102 : decode cX9_addTurbine 102 = .ok (.iinc 5 1, 3) := by decide +kernel
theorem dX9_addTurbine_105 : decode cX9_addTurbine 105 = .ok (.goto (-40), 3) := by decide +kernel
theorem dX9_addTurbine_108 : decode cX9_addTurbine 108 = .ok (.iload 4, 2) := by decide +kernel
theorem dX9_addTurbine_110 : decode cX9_addTurbine 110 = .ok (.ifCond .eq 9, 3) := by decide +kernel
theorem dX9_addTurbine_113 : decode cX9_addTurbine 113 = .ok (.aload_n 0, 1) := by decide +kernel
theorem dX9_addTurbine_114 : decode cX9_addTurbine 114 = .ok (.iconst 2, 1) := by decide +kernel
theorem dX9_addTurbine_115 : decode cX9_addTurbine 115 = .ok (.invokevirtual 76, 3) := by decide +kernel
theorem dX9_addTurbine_118 : decode cX9_addTurbine 118 = .ok (.ireturn, 1) := by decide +kernel
theorem dX9_addTurbine_119 : decode cX9_addTurbine 119 = .ok (.aload_n 0, 1) := by decide +kernel
theorem dX9_addTurbine_120 : decode cX9_addTurbine 120 = .ok (.invokevirtual 79, 3) := by decide +kernel
theorem dX9_addTurbine_123 : decode cX9_addTurbine 123 = .ok (.aload_n 0, 1) := by decide +kernel
theorem dX9_addTurbine_124 : decode cX9_addTurbine 124 = .ok (.getfield 7, 3) := by decide +kernel
theorem dX9_addTurbine_127 : decode cX9_addTurbine 127 = .ok (.bipush 70, 2) := by decide +kernel
theorem dX9_addTurbine_129 : decode cX9_addTurbine 129 = .ok (.iaload, 1) := by decide +kernel
theorem dX9_addTurbine_130 : decode cX9_addTurbine 130 = .ok (.istore 5, 2) := by decide +kernel
theorem dX9_addTurbine_132 : decode cX9_addTurbine 132 = .ok (.aload_n 0, 1) := by decide +kernel
theorem dX9_addTurbine_133 : decode cX9_addTurbine 133 = .ok (.getfield 7, 3) := by decide +kernel
theorem dX9_addTurbine_136 : decode cX9_addTurbine 136 = .ok (.iconst 0, 1) := by decide +kernel
theorem dX9_addTurbine_137 : decode cX9_addTurbine 137 = .ok (.iload 5, 2) := by decide +kernel
theorem dX9_addTurbine_139 : decode cX9_addTurbine 139 = .ok (.iadd, 1) := by decide +kernel
theorem dX9_addTurbine_140 : decode cX9_addTurbine 140 = .ok (.iload_n 1, 1) := by decide +kernel
theorem dX9_addTurbine_141 : decode cX9_addTurbine 141 = .ok (.iastore, 1) := by decide +kernel
theorem dX9_addTurbine_142 : decode cX9_addTurbine 142 = .ok (.aload_n 0, 1) := by decide +kernel
theorem dX9_addTurbine_143 : decode cX9_addTurbine 143 = .ok (.getfield 7, 3) := by decide +kernel
theorem dX9_addTurbine_146 : decode cX9_addTurbine 146 = .ok (.bipush 10, 2) := by decide +kernel
theorem dX9_addTurbine_148 : decode cX9_addTurbine 148 = .ok (.iload 5, 2) := by decide +kernel
theorem dX9_addTurbine_150 : decode cX9_addTurbine 150 = .ok (.iadd, 1) := by decide +kernel
theorem dX9_addTurbine_151 : decode cX9_addTurbine 151 = .ok (.iload_n 2, 1) := by decide +kernel
theorem dX9_addTurbine_152 : decode cX9_addTurbine 152 = .ok (.iastore, 1) := by decide +kernel
theorem dX9_addTurbine_153 : decode cX9_addTurbine 153 = .ok (.aload_n 0, 1) := by decide +kernel
theorem dX9_addTurbine_154 : decode cX9_addTurbine 154 = .ok (.getfield 7, 3) := by decide +kernel
theorem dX9_addTurbine_157 : decode cX9_addTurbine 157 = .ok (.bipush 20, 2) := by decide +kernel
theorem dX9_addTurbine_159 : decode cX9_addTurbine 159 = .ok (.iload 5, 2) := by decide +kernel
theorem dX9_addTurbine_161 : decode cX9_addTurbine 161 = .ok (.iadd, 1) := by decide +kernel
theorem dX9_addTurbine_162 : decode cX9_addTurbine 162 = .ok (.iload_n 3, 1) := by decide +kernel
theorem dX9_addTurbine_163 : decode cX9_addTurbine 163 = .ok (.iastore, 1) := by decide +kernel
theorem dX9_addTurbine_164 : decode cX9_addTurbine 164 = .ok (.aload_n 0, 1) := by decide +kernel
theorem dX9_addTurbine_165 : decode cX9_addTurbine 165 = .ok (.getfield 7, 3) := by decide +kernel
theorem dX9_addTurbine_168 : decode cX9_addTurbine 168 = .ok (.bipush 70, 2) := by decide +kernel
theorem dX9_addTurbine_170 : decode cX9_addTurbine 170 = .ok (.dup2, 1) := by decide +kernel
theorem dX9_addTurbine_171 : decode cX9_addTurbine 171 = .ok (.iaload, 1) := by decide +kernel
theorem dX9_addTurbine_172 : decode cX9_addTurbine 172 = .ok (.iconst 1, 1) := by decide +kernel
theorem dX9_addTurbine_173 : decode cX9_addTurbine 173 = .ok (.iadd, 1) := by decide +kernel
theorem dX9_addTurbine_174 : decode cX9_addTurbine 174 = .ok (.iastore, 1) := by decide +kernel
theorem dX9_addTurbine_175 : decode cX9_addTurbine 175 = .ok (.iload 5, 2) := by decide +kernel
theorem dX9_addTurbine_177 : decode cX9_addTurbine 177 = .ok (.ireturn, 1) := by decide +kernel
set_option maxRecDepth 20000 in
theorem ggX9_setFault_X9_isTurbine : GoodIn wsX9_setFault wsX9_isTurbine := goodIn_r _ [7, 2, 8, 9, 6, 10, 21, 22, 23, 24, 25, 26, 27, 28, 29, 30, 31, 32, 33, 34, 35] (by decide +kernel) (by decide +kernel)
set_option maxRecDepth 20000 in
theorem gX9_setFault_X9_isTurbine : GoodIn wsX9_setFault (wsV RX9 82 RX9 yX9_isTurbine wsX9_isTurbine) := goodIn_app (goodIn_of _ (by decide +kernel)) ggX9_setFault_X9_isTurbine
set_option maxRecDepth 20000 in
theorem ggX9_setFault_X9_fails : GoodIn wsX9_setFault wsX9_fails := goodIn_r _ [14, 1, 21, 22, 23, 24, 25, 26, 27, 28, 29, 30, 31, 32, 33, 34, 35] (by decide +kernel) (by decide +kernel)
set_option maxRecDepth 20000 in
theorem gX9_setFault_X9_fails : GoodIn wsX9_setFault (wsV RX9 76 RX9 yX9_fails wsX9_fails) := goodIn_app (goodIn_of _ (by decide +kernel)) ggX9_setFault_X9_fails
set_option maxRecDepth 20000 in
theorem ggX9_setFault_X9_within : GoodIn wsX9_setFault wsX9_within := goodIn_r _ [10] (by decide +kernel) (by decide +kernel)
set_option maxRecDepth 20000 in
theorem gX9_setFault_X9_within : GoodIn wsX9_setFault (va_wsS RX9 32 yX9_within wsX9_within) := goodIn_app (goodIn_of _ (by decide +kernel)) ggX9_setFault_X9_within
set_option maxRecDepth 20000 in
theorem ggX9_setFault_X9_save : GoodIn wsX9_setFault wsX9_save := goodIn_r _ [18, 19, 20, 2, 21, 22, 23, 24, 25, 26, 27, 28, 29, 30, 31, 32, 33, 34, 35] (by decide +kernel) (by decide +kernel)
set_option maxRecDepth 20000 in
theorem gX9_setFault_X9_save : GoodIn wsX9_setFault (wsV RX9 79 RX9 yX9_save wsX9_save) := goodIn_app (goodIn_of _ (by decide +kernel)) ggX9_setFault_X9_save
theorem dX9_setFault_0 : decode cX9_setFault 0 = .ok (.aload_n 0, 1) := by decide +kernel
theorem dX9_setFault_1 : decode cX9_setFault 1 = .ok (.iconst 0, 1) := by decide +kernel
theorem dX9_setFault_2 : decode cX9_setFault 2 = .ok (.putfield 28, 3) := by decide +kernel
theorem dX9_setFault_5 : decode cX9_setFault 5 = .ok (.aload_n 0, 1) := by decide +kernel
theorem dX9_setFault_6 : decode cX9_setFault 6 = .ok (.iload_n 1, 1) := by decide +kernel
theorem dX9_setFault_7 : decode cX9_setFault 7 = .ok (.invokevirtual 82, 3) := by decide +kernel
theorem dX9_setFault_10 : decode cX9_setFault 10 = .ok (.ifCond .ne 9, 3) := by decide +kernel
theorem dX9_setFault_13 : decode cX9_setFault 13 = .ok (.aload_n 0, 1) := by decide +kernel
theorem dX9_setFault_14 : decode cX9_setFault 14 = .ok (.iconst 1, 1) := by decide +kernel
theorem dX9_setFault_15 : decode cX9_setFault 15 = .ok (.invokevirtual 76, 3) := by decide +kernel
theorem dX9_setFault_18 : decode cX9_setFault 18 = .ok (.ireturn, 1) := by decide +kernel
theorem dX9_setFault_19 : decode cX9_setFault 19 = .ok (.iload_n 2, 1) := by decide +kernel
theorem dX9_setFault_20 : decode cX9_setFault 20 = .ok (.iconst 0, 1) := by decide +kernel
theorem dX9_setFault_21 : decode cX9_setFault 21 = .ok (.iconst 4, 1) := by decide +kernel
theorem dX9_setFault_22 : decode cX9_setFault 22 = .ok (.invokestatic 32, 3) := by decide +kernel
theorem dX9_setFault_25 : decode cX9_setFault 25 = .ok (.ifCond .ne 9, 3) := by decide +kernel
theorem dX9_setFault_28 : decode cX9_setFault 28 = .ok (.aload_n 0, 1) := by decide +kernel
theorem dX9_setFault_29 : decode cX9_setFault 29 = .ok (.iconst 2, 1) := by decide +kernel
theorem dX9_setFault_30 : decode cX9_setFault 30 = .ok (.invokevirtual 76, 3) := by decide +kernel
theorem dX9_setFault_33 : decode cX9_setFault 33 = .ok (.ireturn, 1) := by decide +kernel
theorem dX9_setFault_34 : decode cX9_setFault 34 = .ok (.aload_n 0, 1) := by decide +kernel
theorem dX9_setFault_35 : decode cX9_setFault 35 = .ok (.invokevirtual 79, 3) := by decide +kernel
theorem dX9_setFault_38 : decode cX9_setFault 38 = .ok (.aload_n 0, 1) := by decide +kernel
theorem dX9_setFault_39 : decode cX9_setFault 39 = .ok (.getfield 7, 3) := by decide +kernel
theorem dX9_setFault_42 : decode cX9_setFault 42 = .ok (.bipush 30, 2) := by decide +kernel
theorem dX9_setFault_44 : decode cX9_setFault 44 = .ok (.iload_n 1, 1) := by decide +kernel
theorem dX9_setFault_45 : decode cX9_setFault 45 = .ok (.iadd, 1) := by decide +kernel
theorem dX9_setFault_46 : decode cX9_setFault 46 = .ok (.iaload, 1) := by decide +kernel
theorem dX9_setFault_47 : decode cX9_setFault 47 = .ok (.istore_n 3, 1) := by decide +kernel
theorem dX9_setFault_48 : decode cX9_setFault 48 = .ok (.aload_n 0, 1) := by decide +kernel
theorem dX9_setFault_49 : decode cX9_setFault 49 = .ok (.getfield 7, 3) := by decide +kernel
theorem dX9_setFault_52 : decode cX9_setFault 52 = .ok (.bipush 30, 2) := by decide +kernel
theorem dX9_setFault_54 : decode cX9_setFault 54 = .ok (.iload_n 1, 1) := by decide +kernel
theorem dX9_setFault_55 : decode cX9_setFault 55 = .ok (.iadd, 1) := by decide +kernel
theorem dX9_setFault_56 : decode cX9_setFault 56 = .ok (.iload_n 2, 1) := by decide +kernel
theorem dX9_setFault_57 : decode cX9_setFault 57 = .ok (.iastore, 1) := by decide +kernel
theorem dX9_setFault_58 : decode cX9_setFault 58 = .ok (.aload_n 0, 1) := by decide +kernel
theorem dX9_setFault_59 : decode cX9_setFault 59 = .ok (.getfield 7, 3) := by decide +kernel
theorem dX9_setFault_62 : decode cX9_setFault 62 = .ok (.bipush 40, 2) := by decide +kernel
theorem dX9_setFault_64 : decode cX9_setFault 64 = .ok (.iload_n 1, 1) := by decide +kernel
theorem dX9_setFault_65 : decode cX9_setFault 65 = .ok (.iadd, 1) := by decide +kernel
theorem dX9_setFault_66 : decode cX9_setFault 66 = .ok (.iconst 0, 1) := by decide +kernel
theorem dX9_setFault_67 : decode cX9_setFault 67 = .ok (.iastore, 1) := by decide +kernel
theorem dX9_setFault_68 : decode cX9_setFault 68 = .ok (.iload_n 3, 1) := by decide +kernel
theorem dX9_setFault_69 : decode cX9_setFault 69 = .ok (.ireturn, 1) := by decide +kernel
set_option maxRecDepth 20000 in
theorem ggX9_setBog_X9_within : GoodIn wsX9_setBog wsX9_within := goodIn_r _ [6] (by decide +kernel) (by decide +kernel)
set_option maxRecDepth 20000 in
theorem gX9_setBog_X9_within : GoodIn wsX9_setBog (va_wsS RX9 32 yX9_within wsX9_within) := goodIn_app (goodIn_of _ (by decide +kernel)) ggX9_setBog_X9_within
set_option maxRecDepth 20000 in
theorem ggX9_setBog_X9_fails : GoodIn wsX9_setBog wsX9_fails := goodIn_r _ [10, 1, 17, 18, 19, 20, 21, 22, 23, 24, 25, 26, 27, 28, 29, 30, 31] (by decide +kernel) (by decide +kernel)
set_option maxRecDepth 20000 in
theorem gX9_setBog_X9_fails : GoodIn wsX9_setBog (wsV RX9 76 RX9 yX9_fails wsX9_fails) := goodIn_app (goodIn_of _ (by decide +kernel)) ggX9_setBog_X9_fails
set_option maxRecDepth 20000 in
theorem ggX9_setBog_X9_save : GoodIn wsX9_setBog wsX9_save := goodIn_r _ [14, 15, 16, 2, 17, 18, 19, 20, 21, 22, 23, 24, 25, 26, 27, 28, 29, 30, 31] (by decide +kernel) (by decide +kernel)
set_option maxRecDepth 20000 in
theorem gX9_setBog_X9_save : GoodIn wsX9_setBog (wsV RX9 79 RX9 yX9_save wsX9_save) := goodIn_app (goodIn_of _ (by decide +kernel)) ggX9_setBog_X9_save
theorem dX9_setBog_0 : decode cX9_setBog 0 = .ok (.aload_n 0, 1) := by decide +kernel
theorem dX9_setBog_1 : decode cX9_setBog 1 = .ok (.iconst 0, 1) := by decide +kernel
theorem dX9_setBog_2 : decode cX9_setBog 2 = .ok (.putfield 28, 3) := by decide +kernel
theorem dX9_setBog_5 : decode cX9_setBog 5 = .ok (.iload_n 1, 1) := by decide +kernel
theorem dX9_setBog_6 : decode cX9_setBog 6 = .ok (.iconst 1, 1) := by decide +kernel
theorem dX9_setBog_7 : decode cX9_setBog 7 = .ok (.bipush 99, 2) := by decide +kernel
theorem dX9_setBog_9 : decode cX9_setBog 9 = .ok (.invokestatic 32, 3) := by decide +kernel
theorem dX9_setBog_12 : decode cX9_setBog 12 = .ok (.ifCond .eq 13, 3) := by decide +kernel
theorem dX9_setBog_15 : decode cX9_setBog 15 = .ok (.iload_n 2, 1) := by decide +kernel
theorem dX9_setBog_16 : decode cX9_setBog 16 = .ok (.iconst 0, 1) := by decide +kernel
theorem dX9_setBog_17 : decode cX9_setBog 17 = .ok (.bipush 50, 2) := by decide +kernel
theorem dX9_setBog_19 : decode cX9_setBog 19 = .ok (.invokestatic 32, 3) := by decide +kernel
theorem dX9_setBog_22 : decode cX9_setBog 22 = .ok (.ifCond .ne 9, 3) := by decide +kernel
theorem dX9_setBog_25 : decode cX9_setBog 25 = .ok (.aload_n 0, 1) := by decide +kernel
theorem dX9_setBog_26 : decode cX9_setBog 26 = .ok (.iconst 1, 1) := by decide +kernel
theorem dX9_setBog_27 : decode cX9_setBog 27 = .ok (.invokevirtual 76, 3) := by decide +kernel
theorem dX9_setBog_30 : decode cX9_setBog 30 = .ok (.ireturn, 1) := by decide +kernel
theorem dX9_setBog_31 : decode cX9_setBog 31 = .ok (.iconst 0, 1) := by decide +kernel
theorem dX9_setBog_32 : decode cX9_setBog 32 = .ok (.istore_n 3, 1) := by decide +kernel
theorem dX9_setBog_33 : decode cX9_setBog 33 = .ok (.iload_n 3, 1) := by decide +kernel
theorem dX9_setBog_34 : decode cX9_setBog 34 = .ok (.aload_n 0, 1) := by decide +kernel
theorem dX9_setBog_35 : decode cX9_setBog 35 = .ok (.getfield 7, 3) := by decide +kernel
theorem dX9_setBog_38 : decode cX9_setBog 38 = .ok (.bipush 127, 2) := by decide +kernel
theorem dX9_setBog_40 : decode cX9_setBog 40 = .ok (.iaload, 1) := by decide +kernel
theorem dX9_setBog_41 : decode cX9_setBog 41 = .ok (.if_icmp .ge 23, 3) := by decide +kernel
theorem dX9_setBog_44 : decode cX9_setBog 44 = .ok (.aload_n 0, 1) := by decide +kernel
theorem dX9_setBog_45 : decode cX9_setBog 45 = .ok (.getfield 7, 3) := by decide +kernel
theorem dX9_setBog_48 : decode cX9_setBog 48 = .ok (.sipush 128, 3) := by decide +kernel
theorem dX9_setBog_51 : decode cX9_setBog 51 = .ok (.iload_n 3, 1) := by decide +kernel
theorem dX9_setBog_52 : decode cX9_setBog 52 = .ok (.iadd, 1) := by decide +kernel
theorem dX9_setBog_53 : decode cX9_setBog 53 = .ok (.iaload, 1) := by decide +kernel
theorem dX9_setBog_54 : decode cX9_setBog 54 = .ok (.iload_n 1, 1) := by decide +kernel
theorem dX9_setBog_55 : decode cX9_setBog 55 = .ok (.if_icmp .ge 9, 3) := by decide +kernel
theorem dX9_setBog_58 : decode cX9_setBog 58 = .ok (.iinc 3 1, 3) := by decide +kernel
theorem dX9_setBog_61 : decode cX9_setBog 61 = .ok (.goto (-28), 3) := by decide +kernel
theorem dX9_setBog_64 : decode cX9_setBog 64 = .ok (.iload_n 3, 1) := by decide +kernel
theorem dX9_setBog_65 : decode cX9_setBog 65 = .ok (.aload_n 0, 1) := by decide +kernel
theorem dX9_setBog_66 : decode cX9_setBog 66 = .ok (.getfield 7, 3) := by decide +kernel
theorem dX9_setBog_69 : decode cX9_setBog 69 = .ok (.bipush 127, 2) := by decide +kernel
theorem dX9_setBog_71 : decode cX9_setBog 71 = .ok (.iaload, 1) := by decide +kernel
theorem dX9_setBog_72 : decode cX9_setBog 72 = .ok (.if_icmp .ge 21, 3) := by decide +kernel
theorem dX9_setBog_75 : decode cX9_setBog 75 = .ok (.aload_n 0, 1) := by decide +kernel
theorem dX9_setBog_76 : decode cX9_setBog 76 = .ok (.getfield 7, 3) := by decide +kernel
theorem dX9_setBog_79 : decode cX9_setBog 79 = .ok (.sipush 128, 3) := by decide +kernel
theorem dX9_setBog_82 : decode cX9_setBog 82 = .ok (.iload_n 3, 1) := by decide +kernel
theorem dX9_setBog_83 : decode cX9_setBog 83 = .ok (.iadd, 1) := by decide +kernel
theorem dX9_setBog_84 : decode cX9_setBog 84 = .ok (.iaload, 1) := by decide +kernel
theorem dX9_setBog_85 : decode cX9_setBog 85 = .ok (.iload_n 1, 1) := by decide +kernel
theorem dX9_setBog_86 : decode cX9_setBog 86 = .ok (.if_icmp .ne 7, 3) := by decide +kernel
theorem dX9_setBog_89 : decode cX9_setBog 89 = .ok (.iconst 1, 1) := by decide +kernel
theorem dX9_setBog_90 : decode cX9_setBog 90 = .ok (.goto 4, 3) := by decide +kernel
theorem dX9_setBog_93 : decode cX9_setBog 93 = .ok (.iconst 0, 1) := by decide +kernel
theorem dX9_setBog_94 : decode cX9_setBog 94 = .ok (.istore 4, 2) := by decide +kernel
theorem dX9_setBog_96 : decode cX9_setBog 96 = .ok (.iload 4, 2) := by decide +kernel
theorem dX9_setBog_98 : decode cX9_setBog 98 = .ok (.ifCond .ne 25, 3) := by decide +kernel
theorem dX9_setBog_101 : decode cX9_setBog 101 = .ok (.aload_n 0, 1) := by decide +kernel
theorem dX9_setBog_102 : decode cX9_setBog 102 = .ok (.getfield 7, 3) := by decide +kernel
theorem dX9_setBog_105 : decode cX9_setBog 105 = .ok (.bipush 127, 2) := by decide +kernel
theorem dX9_setBog_107 : decode cX9_setBog 107 = .ok (.iaload, 1) := by decide +kernel
theorem dX9_setBog_108 : decode cX9_setBog 108 = .ok (.bipush 6, 2) := by decide +kernel
theorem dX9_setBog_110 : decode cX9_setBog 110 = .ok (.if_icmp .ne 13, 3) := by decide +kernel
theorem dX9_setBog_113 : decode cX9_setBog 113 = .ok (.iload_n 2, 1) := by decide +kernel
theorem dX9_setBog_114 : decode cX9_setBog 114 = .ok (.ifCond .eq 9, 3) := by decide +kernel
theorem dX9_setBog_117 : decode cX9_setBog 117 = .ok (.aload_n 0, 1) := by decide +kernel
theorem dX9_setBog_118 : decode cX9_setBog 118 = .ok (.iconst 2, 1) := by decide +kernel
theorem dX9_setBog_119 : decode cX9_setBog 119 = .ok (.invokevirtual 76, 3) := by decide +kernel
theorem dX9_setBog_122 : decode cX9_setBog 122 = .ok (.ireturn, 1) := by decide +kernel
theorem dX9_setBog_123 : decode cX9_setBog 123 = .ok (.aload_n 0, 1) := by decide +kernel
theorem dX9_setBog_124 : decode cX9_setBog 124 = .ok (.invokevirtual 79, 3) := by decide +kernel
theorem dX9_setBog_127 : decode cX9_setBog 127 = .ok (.iload 4, 2) := by decide +kernel
theorem dX9_setBog_129 : decode cX9_setBog 129 = .ok (.ifCond .eq 90, 3) := by decide +kernel
theorem dX9_setBog_132 : decode cX9_setBog 132 = .ok (.iload_n 2, 1) := by decide +kernel
theorem dX9_setBog_133 : decode cX9_setBog 133 = .ok (.ifCond .ne 86, 3) := by decide +kernel
theorem dX9_setBog_136 : decode cX9_setBog 136 = .ok (.aload_n 0, 1) := by decide +kernel
theorem dX9_setBog_137 : decode cX9_setBog 137 = .ok (.getfield 7, 3) := by decide +kernel
theorem dX9_setBog_140 : decode cX9_setBog 140 = .ok (.bipush 127, 2) := by decide +kernel
theorem dX9_setBog_142 : decode cX9_setBog 142 = .ok (.dup2, 1) := by decide +kernel
theorem dX9_setBog_143 : decode cX9_setBog 143 = .ok (.iaload, 1) := by decide +kernel
theorem dX9_setBog_144 : decode cX9_setBog 144 = .ok (.iconst 1, 1) := by decide +kernel
theorem dX9_setBog_145 : decode cX9_setBog 145 = .ok (.isub, 1) := by decide +kernel
theorem dX9_setBog_146 : decode cX9_setBog 146 = .ok (.iastore, 1) := by decide +kernel
theorem dX9_setBog_147 : decode cX9_setBog 147 = .ok (.iload_n 3, 1) := by decide +kernel
theorem dX9_setBog_148 : decode cX9_setBog 148 = .ok (.istore 5, 2) := by decide +kernel
theorem dX9_setBog_150 : decode cX9_setBog 150 = .ok (.iload 5, 2) := by decide +kernel
theorem dX9_setBog_152 : decode cX9_setBog 152 = .ok (.aload_n 0, 1) := by decide +kernel
theorem dX9_setBog_153 : decode cX9_setBog 153 = .ok (.getfield 7, 3) := by decide +kernel
theorem dX9_setBog_156 : decode cX9_setBog 156 = .ok (.bipush 127, 2) := by decide +kernel
theorem dX9_setBog_158 : decode cX9_setBog 158 = .ok (.iaload, 1) := by decide +kernel
theorem dX9_setBog_159 : decode cX9_setBog 159 = .ok (.if_icmp .ge 57, 3) := by decide +kernel
theorem dX9_setBog_162 : decode cX9_setBog 162 = .ok (.aload_n 0, 1) := by decide +kernel
theorem dX9_setBog_163 : decode cX9_setBog 163 = .ok (.getfield 7, 3) := by decide +kernel
theorem dX9_setBog_166 : decode cX9_setBog 166 = .ok (.sipush 128, 3) := by decide +kernel
theorem dX9_setBog_169 : decode cX9_setBog 169 = .ok (.iload 5, 2) := by decide +kernel
theorem dX9_setBog_171 : decode cX9_setBog 171 = .ok (.iadd, 1) := by decide +kernel
theorem dX9_setBog_172 : decode cX9_setBog 172 = .ok (.aload_n 0, 1) := by decide +kernel
theorem dX9_setBog_173 : decode cX9_setBog 173 = .ok (.getfield 7, 3) := by decide +kernel
theorem dX9_setBog_176 : decode cX9_setBog 176 = .ok (.sipush 128, 3) := by decide +kernel
theorem dX9_setBog_179 : decode cX9_setBog 179 = .ok (.iload 5, 2) := by decide +kernel
theorem dX9_setBog_181 : decode cX9_setBog 181 = .ok (.iadd, 1) := by decide +kernel
theorem dX9_setBog_182 : decode cX9_setBog 182 = .ok (.iconst 1, 1) := by decide +kernel
theorem dX9_setBog_183 : decode cX9_setBog 183 = .ok (.iadd, 1) := by decide +kernel
theorem dX9_setBog_184 : decode cX9_setBog 184 = .ok (.iaload, 1) := by decide +kernel
theorem dX9_setBog_185 : decode cX9_setBog 185 = .ok (.iastore, 1) := by decide +kernel
theorem dX9_setBog_186 : decode cX9_setBog 186 = .ok (.aload_n 0, 1) := by decide +kernel
theorem dX9_setBog_187 : decode cX9_setBog 187 = .ok (.getfield 7, 3) := by decide +kernel
theorem dX9_setBog_190 : decode cX9_setBog 190 = .ok (.sipush 134, 3) := by decide +kernel
theorem dX9_setBog_193 : decode cX9_setBog 193 = .ok (.iload 5, 2) := by decide +kernel
theorem dX9_setBog_195 : decode cX9_setBog 195 = .ok (.iadd, 1) := by decide +kernel
theorem dX9_setBog_196 : decode cX9_setBog 196 = .ok (.aload_n 0, 1) := by decide +kernel
theorem dX9_setBog_197 : decode cX9_setBog 197 = .ok (.getfield 7, 3) := by decide +kernel
theorem dX9_setBog_200 : decode cX9_setBog 200 = .ok (.sipush 134, 3) := by decide +kernel
theorem dX9_setBog_203 : decode cX9_setBog 203 = .ok (.iload 5, 2) := by decide +kernel
theorem dX9_setBog_205 : decode cX9_setBog 205 = .ok (.iadd, 1) := by decide +kernel
theorem dX9_setBog_206 : decode cX9_setBog 206 = .ok (.iconst 1, 1) := by decide +kernel
theorem dX9_setBog_207 : decode cX9_setBog 207 = .ok (.iadd, 1) := by decide +kernel
theorem dX9_setBog_208 : decode cX9_setBog 208 = .ok (.iaload, 1) := by decide +kernel
theorem dX9_setBog_209 : decode cX9_setBog 209 = .ok (.iastore, 1) := by decide +kernel
theorem dX9_setBog_210 : decode cX9_setBog 210 = .ok (.iinc 5 1, 3) := by decide +kernel
theorem dX9_setBog_213 : decode cX9_setBog 213 = .ok (.goto (-63), 3) := by decide +kernel
theorem dX9_setBog_216 : decode cX9_setBog 216 = .ok (.goto 128, 3) := by decide +kernel
theorem dX9_setBog_219 : decode cX9_setBog 219 = .ok (.iload 4, 2) := by decide +kernel
theorem dX9_setBog_221 : decode cX9_setBog 221 = .ok (.ifCond .eq 17, 3) := by decide +kernel
theorem dX9_setBog_224 : decode cX9_setBog 224 = .ok (.aload_n 0, 1) := by decide +kernel
theorem dX9_setBog_225 : decode cX9_setBog 225 = .ok (.getfield 7, 3) := by decide +kernel
theorem dX9_setBog_228 : decode cX9_setBog 228 = .ok (.sipush 134, 3) := by decide +kernel
theorem dX9_setBog_231 : decode cX9_setBog 231 = .ok (.iload_n 3, 1) := by decide +kernel
theorem dX9_setBog_232 : decode cX9_setBog 232 = .ok (.iadd, 1) := by decide +kernel
theorem dX9_setBog_233 : decode cX9_setBog 233 = .ok (.iload_n 2, 1) := by decide +kernel
theorem dX9_setBog_234 : decode cX9_setBog 234 = .ok (.iastore, 1) := by decide +kernel
theorem dX9_setBog_235 : decode cX9_setBog 235 = .ok (.goto 109, 3) := by decide +kernel
theorem dX9_setBog_238 : decode cX9_setBog 238 = .ok (.iload_n 2, 1) := by decide +kernel
theorem dX9_setBog_239 : decode cX9_setBog 239 = .ok (.ifCond .eq 105, 3) := by decide +kernel
theorem dX9_setBog_242 : decode cX9_setBog 242 = .ok (.aload_n 0, 1) := by decide +kernel
theorem dX9_setBog_243 : decode cX9_setBog 243 = .ok (.getfield 7, 3) := by decide +kernel
theorem dX9_setBog_246 : decode cX9_setBog 246 = .ok (.bipush 127, 2) := by decide +kernel
theorem dX9_setBog_248 : decode cX9_setBog 248 = .ok (.iaload, 1) := by decide +kernel
theorem dX9_setBog_249 : decode cX9_setBog 249 = .ok (.istore 5, 2) := by decide +kernel
theorem dX9_setBog_251 : decode cX9_setBog 251 = .ok (.iload 5, 2) := by decide +kernel
theorem dX9_setBog_253 : decode cX9_setBog 253 = .ok (.iload_n 3, 1) := by decide +kernel
theorem dX9_setBog_254 : decode cX9_setBog 254 = .ok (.if_icmp .le 57, 3) := by decide +kernel
theorem dX9_setBog_257 : decode cX9_setBog 257 = .ok (.aload_n 0, 1) := by decide +kernel
theorem dX9_setBog_258 : decode cX9_setBog 258 = .ok (.getfield 7, 3) := by decide +kernel
theorem dX9_setBog_261 : decode cX9_setBog 261 = .ok (.sipush 128, 3) := by decide +kernel
theorem dX9_setBog_264 : decode cX9_setBog 264 = .ok (.iload 5, 2) := by decide +kernel
theorem dX9_setBog_266 : decode cX9_setBog 266 = .ok (.iadd, 1) := by decide +kernel
theorem dX9_setBog_267 : decode cX9_setBog 267 = .ok (.aload_n 0, 1) := by decide +kernel
theorem dX9_setBog_268 : decode cX9_setBog 268 = .ok (.getfield 7, 3) := by decide +kernel
theorem dX9_setBog_271 : decode cX9_setBog 271 = .ok (.sipush 128, 3) := by decide +kernel
theorem dX9_setBog_274 : decode cX9_setBog 274 = .ok (.iload 5, 2) := by decide +kernel
theorem dX9_setBog_276 : decode cX9_setBog 276 = .ok (.iadd, 1) := by decide +kernel
theorem dX9_setBog_277 : decode cX9_setBog 277 = .ok (.iconst 1, 1) := by decide +kernel
theorem dX9_setBog_278 : decode cX9_setBog 278 = .ok (.isub, 1) := by decide +kernel
theorem dX9_setBog_279 : decode cX9_setBog 279 = .ok (.iaload, 1) := by decide +kernel
theorem dX9_setBog_280 : decode cX9_setBog 280 = .ok (.iastore, 1) := by decide +kernel
theorem dX9_setBog_281 : decode cX9_setBog 281 = .ok (.aload_n 0, 1) := by decide +kernel
theorem dX9_setBog_282 : decode cX9_setBog 282 = .ok (.getfield 7, 3) := by decide +kernel
theorem dX9_setBog_285 : decode cX9_setBog 285 = .ok (.sipush 134, 3) := by decide +kernel
theorem dX9_setBog_288 : decode cX9_setBog 288 = .ok (.iload 5, 2) := by decide +kernel
theorem dX9_setBog_290 : decode cX9_setBog 290 = .ok (.iadd, 1) := by decide +kernel
theorem dX9_setBog_291 : decode cX9_setBog 291 = .ok (.aload_n 0, 1) := by decide +kernel
theorem dX9_setBog_292 : decode cX9_setBog 292 = .ok (.getfield 7, 3) := by decide +kernel
theorem dX9_setBog_295 : decode cX9_setBog 295 = .ok (.sipush 134, 3) := by decide +kernel
theorem dX9_setBog_298 : decode cX9_setBog 298 = .ok (.iload 5, 2) := by decide +kernel
theorem dX9_setBog_300 : decode cX9_setBog 300 = .ok (.iadd, 1) := by decide +kernel
theorem dX9_setBog_301 : decode cX9_setBog 301 = .ok (.iconst 1, 1) := by decide +kernel
theorem dX9_setBog_302 : decode cX9_setBog 302 = .ok (.isub, 1) := by decide +kernel
theorem dX9_setBog_303 : decode cX9_setBog 303 = .ok (.iaload, 1) := by decide +kernel
theorem dX9_setBog_304 : decode cX9_setBog 304 = .ok (.iastore, 1) := by decide +kernel
theorem dX9_setBog_305 : decode cX9_setBog 305 = .ok (.iinc 5 (-1), 3) := by decide +kernel
theorem dX9_setBog_308 : decode cX9_setBog 308 = .ok (.goto (-57), 3) := by decide +kernel
theorem dX9_setBog_311 : decode cX9_setBog 311 = .ok (.aload_n 0, 1) := by decide +kernel
theorem dX9_setBog_312 : decode cX9_setBog 312 = .ok (.getfield 7, 3) := by decide +kernel
theorem dX9_setBog_315 : decode cX9_setBog 315 = .ok (.sipush 128, 3) := by decide +kernel
theorem dX9_setBog_318 : decode cX9_setBog 318 = .ok (.iload_n 3, 1) := by decide +kernel
theorem dX9_setBog_319 : decode cX9_setBog 319 = .ok (.iadd, 1) := by decide +kernel
theorem dX9_setBog_320 : decode cX9_setBog 320 = .ok (.iload_n 1, 1) := by decide +kernel
theorem dX9_setBog_321 : decode cX9_setBog 321 = .ok (.iastore, 1) := by decide +kernel
theorem dX9_setBog_322 : decode cX9_setBog 322 = .ok (.aload_n 0, 1) := by decide +kernel
theorem dX9_setBog_323 : decode cX9_setBog 323 = .ok (.getfield 7, 3) := by decide +kernel
theorem dX9_setBog_326 : decode cX9_setBog 326 = .ok (.sipush 134, 3) := by decide +kernel
theorem dX9_setBog_329 : decode cX9_setBog 329 = .ok (.iload_n 3, 1) := by decide +kernel
theorem dX9_setBog_330 : decode cX9_setBog 330 = .ok (.iadd, 1) := by decide +kernel
theorem dX9_setBog_331 : decode cX9_setBog 331 = .ok (.iload_n 2, 1) := by decide +kernel
theorem dX9_setBog_332 : decode cX9_setBog 332 = .ok (.iastore, 1) := by decide +kernel
theorem dX9_setBog_333 : decode cX9_setBog 333 = .ok (.aload_n 0, 1) := by decide +kernel
theorem dX9_setBog_334 : decode cX9_setBog 334 = .ok (.getfield 7, 3) := by decide +kernel
theorem dX9_setBog_337 : decode cX9_setBog 337 = .ok (.bipush 127, 2) := by decide +kernel
theorem dX9_setBog_339 : decode cX9_setBog 339 = .ok (.dup2, 1) := by decide +kernel
theorem dX9_setBog_340 : decode cX9_setBog 340 = .ok (.iaload, 1) := by decide +kernel
theorem dX9_setBog_341 : decode cX9_setBog 341 = .ok (.iconst 1, 1) := by decide +kernel
theorem dX9_setBog_342 : decode cX9_setBog 342 = .ok (.iadd, 1) := by decide +kernel
theorem dX9_setBog_343 : decode cX9_setBog 343 = .ok (.iastore, 1) := by decide +kernel
theorem dX9_setBog_344 : decode cX9_setBog 344 = .ok (.aload_n 0, 1) := by decide +kernel
theorem dX9_setBog_345 : decode cX9_setBog 345 = .ok (.getfield 7, 3) := by decide +kernel
theorem dX9_setBog_348 : decode cX9_setBog 348 = .ok (.bipush 127, 2) := by decide +kernel
theorem dX9_setBog_350 : decode cX9_setBog 350 = .ok (.iaload, 1) := by decide +kernel
theorem dX9_setBog_351 : decode cX9_setBog 351 = .ok (.ireturn, 1) := by decide +kernel
theorem dX9_lowest_0 : decode cX9_lowest 0 = .ok (.iload_n 0, 1) := by decide +kernel
theorem dX9_lowest_1 : decode cX9_lowest 1 = .ok (.ifCond .ne 7, 3) := by decide +kernel
theorem dX9_lowest_4 : decode cX9_lowest 4 = .ok (.iconst 5, 1) := by decide +kernel
theorem dX9_lowest_5 : decode cX9_lowest 5 = .ok (.goto 18, 3) := by decide +kernel
theorem dX9_lowest_8 : decode cX9_lowest 8 = .ok (.iload_n 0, 1) := by decide +kernel
theorem dX9_lowest_9 : decode cX9_lowest 9 = .ok (.iconst 4, 1) := by decide +kernel
theorem dX9_lowest_10 : decode cX9_lowest 10 = .ok (.if_icmp .lt 8, 3) := by decide +kernel
theorem dX9_lowest_13 : decode cX9_lowest 13 = .ok (.iload_n 0, 1) := by decide +kernel
theorem dX9_lowest_14 : decode cX9_lowest 14 = .ok (.iconst 5, 1) := by decide +kernel
theorem dX9_lowest_15 : decode cX9_lowest 15 = .ok (.if_icmp .ne 7, 3) := by decide +kernel
theorem dX9_lowest_18 : decode cX9_lowest 18 = .ok (.iconst 1, 1) := by decide +kernel
theorem dX9_lowest_19 : decode cX9_lowest 19 = .ok (.goto 4, 3) := by decide +kernel
theorem dX9_lowest_22 : decode cX9_lowest 22 = .ok (.iconst 0, 1) := by decide +kernel
theorem dX9_lowest_23 : decode cX9_lowest 23 = .ok (.ireturn, 1) := by decide +kernel
theorem dX9_highest_0 : decode cX9_highest 0 = .ok (.iload_n 0, 1) := by decide +kernel
theorem dX9_highest_1 : decode cX9_highest 1 = .ok (.tableswitch 58 0 5 #[39, 42, 45, 48, 52, 55], 39) := by decide +kernel
theorem dX9_highest_40 : decode cX9_highest 40 = .ok (.bipush 25, 2) := by decide +kernel
theorem dX9_highest_42 : decode cX9_highest 42 = .ok (.ireturn, 1) := by decide +kernel
theorem dX9_highest_43 : decode cX9_highest 43 = .ok (.bipush 20, 2) := by decide +kernel
theorem dX9_highest_45 : decode cX9_highest 45 = .ok (.ireturn, 1) := by decide +kernel
theorem dX9_highest_46 : decode cX9_highest 46 = .ok (.bipush 12, 2) := by decide +kernel
theorem dX9_highest_48 : decode cX9_highest 48 = .ok (.ireturn, 1) := by decide +kernel
theorem dX9_highest_49 : decode cX9_highest 49 = .ok (.sipush 200, 3) := by decide +kernel
theorem dX9_highest_52 : decode cX9_highest 52 = .ok (.ireturn, 1) := by decide +kernel
theorem dX9_highest_53 : decode cX9_highest 53 = .ok (.bipush 10, 2) := by decide +kernel
theorem dX9_highest_55 : decode cX9_highest 55 = .ok (.ireturn, 1) := by decide +kernel
theorem dX9_highest_56 : decode cX9_highest 56 = .ok (.bipush 100, 2) := by decide +kernel
theorem dX9_highest_58 : decode cX9_highest 58 = .ok (.ireturn, 1) := by decide +kernel
theorem dX9_highest_59 : decode cX9_highest 59 = .ok (.bipush 50, 2) := by decide +kernel
theorem dX9_highest_61 : decode cX9_highest 61 = .ok (.ireturn, 1) := by decide +kernel
set_option maxRecDepth 20000 in
theorem ggX9_set_X9_within : GoodIn wsX9_set wsX9_within := goodIn_r _ [6] (by decide +kernel) (by decide +kernel)
set_option maxRecDepth 20000 in
theorem gX9_set_X9_within : GoodIn wsX9_set (va_wsS RX9 32 yX9_within wsX9_within) := goodIn_app (goodIn_of _ (by decide +kernel)) ggX9_set_X9_within
set_option maxRecDepth 20000 in
theorem ggX9_set_X9_fails : GoodIn wsX9_set wsX9_fails := goodIn_r _ [10, 1, 23, 24, 25, 26, 27, 28, 29, 30, 31, 32, 33, 34, 35, 36, 37] (by decide +kernel) (by decide +kernel)
set_option maxRecDepth 20000 in
theorem gX9_set_X9_fails : GoodIn wsX9_set (wsV RX9 76 RX9 yX9_fails wsX9_fails) := goodIn_app (goodIn_of _ (by decide +kernel)) ggX9_set_X9_fails
set_option maxRecDepth 20000 in
theorem ggX9_set_X9_lowest : GoodIn wsX9_set wsX9_lowest := goodIn_r _ [13] (by decide +kernel) (by decide +kernel)
set_option maxRecDepth 20000 in
theorem gX9_set_X9_lowest : GoodIn wsX9_set (va_wsS RX9 86 yX9_lowest wsX9_lowest) := goodIn_app (goodIn_of _ (by decide +kernel)) ggX9_set_X9_lowest
set_option maxRecDepth 20000 in
theorem ggX9_set_X9_highest : GoodIn wsX9_set wsX9_highest := goodIn_r _ [16] (by decide +kernel) (by decide +kernel)
set_option maxRecDepth 20000 in
theorem gX9_set_X9_highest : GoodIn wsX9_set (va_wsS RX9 89 yX9_highest wsX9_highest) := goodIn_app (goodIn_of _ (by decide +kernel)) ggX9_set_X9_highest
set_option maxRecDepth 20000 in
theorem ggX9_set_X9_save : GoodIn wsX9_set wsX9_save := goodIn_r _ [20, 21, 22, 2, 23, 24, 25, 26, 27, 28, 29, 30, 31, 32, 33, 34, 35, 36, 37] (by decide +kernel) (by decide +kernel)
set_option maxRecDepth 20000 in
theorem gX9_set_X9_save : GoodIn wsX9_set (wsV RX9 79 RX9 yX9_save wsX9_save) := goodIn_app (goodIn_of _ (by decide +kernel)) ggX9_set_X9_save
theorem dX9_set_0 : decode cX9_set 0 = .ok (.aload_n 0, 1) := by decide +kernel
theorem dX9_set_1 : decode cX9_set 1 = .ok (.iconst 0, 1) := by decide +kernel
theorem dX9_set_2 : decode cX9_set 2 = .ok (.putfield 28, 3) := by decide +kernel
theorem dX9_set_5 : decode cX9_set 5 = .ok (.iload_n 1, 1) := by decide +kernel
theorem dX9_set_6 : decode cX9_set 6 = .ok (.iconst 0, 1) := by decide +kernel
theorem dX9_set_7 : decode cX9_set 7 = .ok (.bipush 6, 2) := by decide +kernel
theorem dX9_set_9 : decode cX9_set 9 = .ok (.invokestatic 32, 3) := by decide +kernel
theorem dX9_set_12 : decode cX9_set 12 = .ok (.ifCond .ne 9, 3) := by decide +kernel
theorem dX9_set_15 : decode cX9_set 15 = .ok (.aload_n 0, 1) := by decide +kernel
theorem dX9_set_16 : decode cX9_set 16 = .ok (.iconst 1, 1) := by decide +kernel
theorem dX9_set_17 : decode cX9_set 17 = .ok (.invokevirtual 76, 3) := by decide +kernel
theorem dX9_set_20 : decode cX9_set 20 = .ok (.ireturn, 1) := by decide +kernel
theorem dX9_set_21 : decode cX9_set 21 = .ok (.iload_n 2, 1) := by decide +kernel
theorem dX9_set_22 : decode cX9_set 22 = .ok (.iload_n 1, 1) := by decide +kernel
theorem dX9_set_23 : decode cX9_set 23 = .ok (.invokestatic 86, 3) := by decide +kernel
theorem dX9_set_26 : decode cX9_set 26 = .ok (.iload_n 1, 1) := by decide +kernel
theorem dX9_set_27 : decode cX9_set 27 = .ok (.invokestatic 89, 3) := by decide +kernel
theorem dX9_set_30 : decode cX9_set 30 = .ok (.invokestatic 32, 3) := by decide +kernel
theorem dX9_set_33 : decode cX9_set 33 = .ok (.ifCond .ne 9, 3) := by decide +kernel
theorem dX9_set_36 : decode cX9_set 36 = .ok (.aload_n 0, 1) := by decide +kernel
theorem dX9_set_37 : decode cX9_set 37 = .ok (.iconst 2, 1) := by decide +kernel
theorem dX9_set_38 : decode cX9_set 38 = .ok (.invokevirtual 76, 3) := by decide +kernel
theorem dX9_set_41 : decode cX9_set 41 = .ok (.ireturn, 1) := by decide +kernel
theorem dX9_set_42 : decode cX9_set 42 = .ok (.aload_n 0, 1) := by decide +kernel
theorem dX9_set_43 : decode cX9_set 43 = .ok (.invokevirtual 79, 3) := by decide +kernel
theorem dX9_set_46 : decode cX9_set 46 = .ok (.aload_n 0, 1) := by decide +kernel
theorem dX9_set_47 : decode cX9_set 47 = .ok (.getfield 7, 3) := by decide +kernel
theorem dX9_set_50 : decode cX9_set 50 = .ok (.bipush 71, 2) := by decide +kernel
theorem dX9_set_52 : decode cX9_set 52 = .ok (.iload_n 1, 1) := by decide +kernel
theorem dX9_set_53 : decode cX9_set 53 = .ok (.iadd, 1) := by decide +kernel
theorem dX9_set_54 : decode cX9_set 54 = .ok (.iaload, 1) := by decide +kernel
theorem dX9_set_55 : decode cX9_set 55 = .ok (.istore_n 3, 1) := by decide +kernel
theorem dX9_set_56 : decode cX9_set 56 = .ok (.aload_n 0, 1) := by decide +kernel
theorem dX9_set_57 : decode cX9_set 57 = .ok (.getfield 7, 3) := by decide +kernel
theorem dX9_set_60 : decode cX9_set 60 = .ok (.bipush 71, 2) := by decide +kernel
theorem dX9_set_62 : decode cX9_set 62 = .ok (.iload_n 1, 1) := by decide +kernel
theorem dX9_set_63 : decode cX9_set 63 = .ok (.iadd, 1) := by decide +kernel
theorem dX9_set_64 : decode cX9_set 64 = .ok (.iload_n 2, 1) := by decide +kernel
theorem dX9_set_65 : decode cX9_set 65 = .ok (.iastore, 1) := by decide +kernel
theorem dX9_set_66 : decode cX9_set 66 = .ok (.iload_n 3, 1) := by decide +kernel
theorem dX9_set_67 : decode cX9_set 67 = .ok (.ireturn, 1) := by decide +kernel
theorem dX9_placeOf_0 : decode cX9_placeOf 0 = .ok (.iconst (-1), 1) := by decide +kernel
theorem dX9_placeOf_1 : decode cX9_placeOf 1 = .ok (.istore_n 2, 1) := by decide +kernel
theorem dX9_placeOf_2 : decode cX9_placeOf 2 = .ok (.iconst 0, 1) := by decide +kernel
theorem dX9_placeOf_3 : decode cX9_placeOf 3 = .ok (.istore_n 3, 1) := by decide +kernel
theorem dX9_placeOf_4 : decode cX9_placeOf 4 = .ok (.iload_n 3, 1) := by decide +kernel
theorem dX9_placeOf_5 : decode cX9_placeOf 5 = .ok (.aload_n 0, 1) := by decide +kernel
theorem dX9_placeOf_6 : decode cX9_placeOf 6 = .ok (.getfield 7, 3) := by decide +kernel
theorem dX9_placeOf_9 : decode cX9_placeOf 9 = .ok (.sipush 145, 3) := by decide +kernel
theorem dX9_placeOf_12 : decode cX9_placeOf 12 = .ok (.iaload, 1) := by decide +kernel
theorem dX9_placeOf_13 : decode cX9_placeOf 13 = .ok (.if_icmp .ge 29, 3) := by decide +kernel
theorem dX9_placeOf_16 : decode cX9_placeOf 16 = .ok (.aload_n 0, 1) := by decide +kernel
theorem dX9_placeOf_17 : decode cX9_placeOf 17 = .ok (.getfield 7, 3) := by decide +kernel
theorem dX9_placeOf_20 : decode cX9_placeOf 20 = .ok (.sipush 146, 3) := by decide +kernel
theorem dX9_placeOf_23 : decode cX9_placeOf 23 = .ok (.iload_n 3, 1) := by decide +kernel
theorem dX9_placeOf_24 : decode cX9_placeOf 24 = .ok (.iadd, 1) := by decide +kernel
theorem dX9_placeOf_25 : decode cX9_placeOf 25 = .ok (.iaload, 1) := by decide +kernel
theorem dX9_placeOf_26 : decode cX9_placeOf 26 = .ok (.iload_n 1, 1) := by decide +kernel
theorem dX9_placeOf_27 : decode cX9_placeOf 27 = .ok (.if_icmp .ne 7, 3) := by decide +kernel
theorem dX9_placeOf_30 : decode cX9_placeOf 30 = .ok (.iload_n 3, 1) := by decide +kernel
theorem dX9_placeOf_31 : decode cX9_placeOf 31 = .ok (.goto 4, 3) := by decide +kernel
theorem dX9_placeOf_34 : decode cX9_placeOf 34 = .ok (.iload_n 2, 1) := by decide +kernel
theorem dX9_placeOf_35 : decode cX9_placeOf 35 = .ok (.istore_n 2, 1) := by decide +kernel
theorem dX9_placeOf_36 : decode cX9_placeOf 36 = .ok (.iinc 3 1, 3) := by decide +kernel
theorem dX9_placeOf_39 : decode cX9_placeOf 39 = .ok (.goto (-35), 3) := by decide +kernel
theorem dX9_placeOf_42 : decode cX9_placeOf 42 = .ok (.iload_n 2, 1) := by decide +kernel
theorem dX9_placeOf_43 : decode cX9_placeOf 43 = .ok (.ireturn, 1) := by decide +kernel
set_option maxRecDepth 20000 in
theorem ggX9_plan_X9_isTurbine : GoodIn wsX9_plan wsX9_isTurbine := goodIn_r _ [7, 2, 8, 9, 6, 10, 29, 30, 31, 32, 33, 34, 35, 36, 37, 38, 39, 40, 41, 42, 43] (by decide +kernel) (by decide +kernel)
set_option maxRecDepth 20000 in
theorem gX9_plan_X9_isTurbine : GoodIn wsX9_plan (wsV RX9 82 RX9 yX9_isTurbine wsX9_isTurbine) := goodIn_app (goodIn_of _ (by decide +kernel)) ggX9_plan_X9_isTurbine
set_option maxRecDepth 20000 in
theorem ggX9_plan_X9_fails : GoodIn wsX9_plan wsX9_fails := goodIn_r _ [14, 1, 29, 30, 31, 32, 33, 34, 35, 36, 37, 38, 39, 40, 41, 42, 43] (by decide +kernel) (by decide +kernel)
set_option maxRecDepth 20000 in
theorem gX9_plan_X9_fails : GoodIn wsX9_plan (wsV RX9 76 RX9 yX9_fails wsX9_fails) := goodIn_app (goodIn_of _ (by decide +kernel)) ggX9_plan_X9_fails
set_option maxRecDepth 20000 in
theorem ggX9_plan_X9_placeOf : GoodIn wsX9_plan wsX9_placeOf := goodIn_r _ [18, 2, 29, 30, 31, 32, 33, 34, 35, 36, 37, 38, 39, 40, 41, 42, 43] (by decide +kernel) (by decide +kernel)
set_option maxRecDepth 20000 in
theorem gX9_plan_X9_placeOf : GoodIn wsX9_plan (wsV RX9 92 RX9 yX9_placeOf wsX9_placeOf) := goodIn_app (goodIn_of _ (by decide +kernel)) ggX9_plan_X9_placeOf
set_option maxRecDepth 20000 in
theorem ggX9_plan_X9_within : GoodIn wsX9_plan wsX9_within := goodIn_r _ [10] (by decide +kernel) (by decide +kernel)
set_option maxRecDepth 20000 in
theorem gX9_plan_X9_within : GoodIn wsX9_plan (va_wsS RX9 32 yX9_within wsX9_within) := goodIn_app (goodIn_of _ (by decide +kernel)) ggX9_plan_X9_within
set_option maxRecDepth 20000 in
theorem ggX9_plan_X9_save : GoodIn wsX9_plan wsX9_save := goodIn_r _ [22, 23, 24, 2, 29, 30, 31, 32, 33, 34, 35, 36, 37, 38, 39, 40, 41, 42, 43] (by decide +kernel) (by decide +kernel)
set_option maxRecDepth 20000 in
theorem gX9_plan_X9_save : GoodIn wsX9_plan (wsV RX9 79 RX9 yX9_save wsX9_save) := goodIn_app (goodIn_of _ (by decide +kernel)) ggX9_plan_X9_save
set_option maxRecDepth 20000 in
theorem ggX9_plan_X9_takeOff : GoodIn wsX9_plan wsX9_takeOff := goodIn_r _ [28, 2, 29, 30, 31, 32, 33, 34, 35, 36, 37, 38, 39, 40, 41, 42, 43] (by decide +kernel) (by decide +kernel)
set_option maxRecDepth 20000 in
theorem gX9_plan_X9_takeOff : GoodIn wsX9_plan (wsV RX9 56 RX9 yX9_takeOff wsX9_takeOff) := goodIn_app (goodIn_of _ (by decide +kernel)) ggX9_plan_X9_takeOff
theorem dX9_plan_0 : decode cX9_plan 0 = .ok (.aload_n 0, 1) := by decide +kernel
theorem dX9_plan_1 : decode cX9_plan 1 = .ok (.iconst 0, 1) := by decide +kernel
theorem dX9_plan_2 : decode cX9_plan 2 = .ok (.putfield 28, 3) := by decide +kernel
theorem dX9_plan_5 : decode cX9_plan 5 = .ok (.aload_n 0, 1) := by decide +kernel
theorem dX9_plan_6 : decode cX9_plan 6 = .ok (.iload_n 1, 1) := by decide +kernel
theorem dX9_plan_7 : decode cX9_plan 7 = .ok (.invokevirtual 82, 3) := by decide +kernel
theorem dX9_plan_10 : decode cX9_plan 10 = .ok (.ifCond .ne 9, 3) := by decide +kernel
theorem dX9_plan_13 : decode cX9_plan 13 = .ok (.aload_n 0, 1) := by decide +kernel
theorem dX9_plan_14 : decode cX9_plan 14 = .ok (.iconst 1, 1) := by decide +kernel
theorem dX9_plan_15 : decode cX9_plan 15 = .ok (.invokevirtual 76, 3) := by decide +kernel
theorem dX9_plan_18 : decode cX9_plan 18 = .ok (.ireturn, 1) := by decide +kernel
theorem dX9_plan_19 : decode cX9_plan 19 = .ok (.aload_n 0, 1) := by decide +kernel
theorem dX9_plan_20 : decode cX9_plan 20 = .ok (.iload_n 1, 1) := by decide +kernel
theorem dX9_plan_21 : decode cX9_plan 21 = .ok (.invokevirtual 92, 3) := by decide +kernel
theorem dX9_plan_24 : decode cX9_plan 24 = .ok (.istore_n 3, 1) := by decide +kernel
theorem dX9_plan_25 : decode cX9_plan 25 = .ok (.aload_n 0, 1) := by decide +kernel
theorem dX9_plan_26 : decode cX9_plan 26 = .ok (.getfield 7, 3) := by decide +kernel
theorem dX9_plan_29 : decode cX9_plan 29 = .ok (.sipush 145, 3) := by decide +kernel
theorem dX9_plan_32 : decode cX9_plan 32 = .ok (.iaload, 1) := by decide +kernel
theorem dX9_plan_33 : decode cX9_plan 33 = .ok (.iload_n 3, 1) := by decide +kernel
theorem dX9_plan_34 : decode cX9_plan 34 = .ok (.iconst (-1), 1) := by decide +kernel
theorem dX9_plan_35 : decode cX9_plan 35 = .ok (.if_icmp .ne 7, 3) := by decide +kernel
theorem dX9_plan_38 : decode cX9_plan 38 = .ok (.iconst 0, 1) := by decide +kernel
theorem dX9_plan_39 : decode cX9_plan 39 = .ok (.goto 4, 3) := by decide +kernel
theorem dX9_plan_42 : decode cX9_plan 42 = .ok (.iconst 1, 1) := by decide +kernel
theorem dX9_plan_43 : decode cX9_plan 43 = .ok (.isub, 1) := by decide +kernel
theorem dX9_plan_44 : decode cX9_plan 44 = .ok (.istore 4, 2) := by decide +kernel
theorem dX9_plan_46 : decode cX9_plan 46 = .ok (.iload_n 2, 1) := by decide +kernel
theorem dX9_plan_47 : decode cX9_plan 47 = .ok (.iconst 0, 1) := by decide +kernel
theorem dX9_plan_48 : decode cX9_plan 48 = .ok (.iload 4, 2) := by decide +kernel
theorem dX9_plan_50 : decode cX9_plan 50 = .ok (.invokestatic 32, 3) := by decide +kernel
theorem dX9_plan_53 : decode cX9_plan 53 = .ok (.ifCond .ne 9, 3) := by decide +kernel
theorem dX9_plan_56 : decode cX9_plan 56 = .ok (.aload_n 0, 1) := by decide +kernel
theorem dX9_plan_57 : decode cX9_plan 57 = .ok (.iconst 1, 1) := by decide +kernel
theorem dX9_plan_58 : decode cX9_plan 58 = .ok (.invokevirtual 76, 3) := by decide +kernel
theorem dX9_plan_61 : decode cX9_plan 61 = .ok (.ireturn, 1) := by decide +kernel
theorem dX9_plan_62 : decode cX9_plan 62 = .ok (.aload_n 0, 1) := by decide +kernel
theorem dX9_plan_63 : decode cX9_plan 63 = .ok (.invokevirtual 79, 3) := by decide +kernel
theorem dX9_plan_66 : decode cX9_plan 66 = .ok (.iload_n 3, 1) := by decide +kernel
theorem dX9_plan_67 : decode cX9_plan 67 = .ok (.iconst (-1), 1) := by decide +kernel
theorem dX9_plan_68 : decode cX9_plan 68 = .ok (.if_icmp .eq 8, 3) := by decide +kernel
theorem dX9_plan_71 : decode cX9_plan 71 = .ok (.aload_n 0, 1) := by decide +kernel
theorem dX9_plan_72 : decode cX9_plan 72 = .ok (.iload_n 3, 1) := by decide +kernel
theorem dX9_plan_73 : decode cX9_plan 73 = .ok (.invokevirtual 56, 3) := by decide +kernel
theorem dX9_plan_76 : decode cX9_plan 76 = .ok (.aload_n 0, 1) := by decide +kernel
theorem dX9_plan_77 : decode cX9_plan 77 = .ok (.getfield 7, 3) := by decide +kernel
theorem dX9_plan_80 : decode cX9_plan 80 = .ok (.sipush 145, 3) := by decide +kernel
theorem dX9_plan_83 : decode cX9_plan 83 = .ok (.iaload, 1) := by decide +kernel
theorem dX9_plan_84 : decode cX9_plan 84 = .ok (.istore 5, 2) := by decide +kernel
theorem dX9_plan_86 : decode cX9_plan 86 = .ok (.iload 5, 2) := by decide +kernel
theorem dX9_plan_88 : decode cX9_plan 88 = .ok (.iload_n 2, 1) := by decide +kernel
theorem dX9_plan_89 : decode cX9_plan 89 = .ok (.if_icmp .le 33, 3) := by decide +kernel
theorem dX9_plan_92 : decode cX9_plan 92 = .ok (.aload_n 0, 1) := by decide +kernel
theorem dX9_plan_93 : decode cX9_plan 93 = .ok (.getfield 7, 3) := by decide +kernel
theorem dX9_plan_96 : decode cX9_plan 96 = .ok (.sipush 146, 3) := by decide +kernel
theorem dX9_plan_99 : decode cX9_plan 99 = .ok (.iload 5, 2) := by decide +kernel
theorem dX9_plan_101 : decode cX9_plan 101 = .ok (.iadd, 1) := by decide +kernel
theorem dX9_plan_102 : decode cX9_plan 102 = .ok (.aload_n 0, 1) := by decide +kernel
theorem dX9_plan_103 : decode cX9_plan 103 = .ok (.getfield 7, 3) := by decide +kernel
theorem dX9_plan_106 : decode cX9_plan 106 = .ok (.sipush 146, 3) := by decide +kernel
theorem dX9_plan_109 : decode cX9_plan 109 = .ok (.iload 5, 2) := by decide +kernel
theorem dX9_plan_111 : decode cX9_plan 111 = .ok (.iadd, 1) := by decide +kernel
theorem dX9_plan_112 : decode cX9_plan 112 = .ok (.iconst 1, 1) := by decide +kernel
theorem dX9_plan_113 : decode cX9_plan 113 = .ok (.isub, 1) := by decide +kernel
theorem dX9_plan_114 : decode cX9_plan 114 = .ok (.iaload, 1) := by decide +kernel
theorem dX9_plan_115 : decode cX9_plan 115 = .ok (.iastore, 1) := by decide +kernel
theorem dX9_plan_116 : decode cX9_plan 116 = .ok (.iinc 5 (-1), 3) := by decide +kernel
theorem dX9_plan_119 : decode cX9_plan 119 = .ok (.goto (-33), 3) := by decide +kernel
theorem dX9_plan_122 : decode cX9_plan 122 = .ok (.aload_n 0, 1) := by decide +kernel
theorem dX9_plan_123 : decode cX9_plan 123 = .ok (.getfield 7, 3) := by decide +kernel
theorem dX9_plan_126 : decode cX9_plan 126 = .ok (.sipush 146, 3) := by decide +kernel
theorem dX9_plan_129 : decode cX9_plan 129 = .ok (.iload_n 2, 1) := by decide +kernel
theorem dX9_plan_130 : decode cX9_plan 130 = .ok (.iadd, 1) := by decide +kernel
theorem dX9_plan_131 : decode cX9_plan 131 = .ok (.iload_n 1, 1) := by decide +kernel
theorem dX9_plan_132 : decode cX9_plan 132 = .ok (.iastore, 1) := by decide +kernel
theorem dX9_plan_133 : decode cX9_plan 133 = .ok (.aload_n 0, 1) := by decide +kernel
theorem dX9_plan_134 : decode cX9_plan 134 = .ok (.getfield 7, 3) := by decide +kernel
theorem dX9_plan_137 : decode cX9_plan 137 = .ok (.sipush 145, 3) := by decide +kernel
theorem dX9_plan_140 : decode cX9_plan 140 = .ok (.dup2, 1) := by decide +kernel
theorem dX9_plan_141 : decode cX9_plan 141 = .ok (.iaload, 1) := by decide +kernel
theorem dX9_plan_142 : decode cX9_plan 142 = .ok (.iconst 1, 1) := by decide +kernel
theorem dX9_plan_143 : decode cX9_plan 143 = .ok (.iadd, 1) := by decide +kernel
theorem dX9_plan_144 : decode cX9_plan 144 = .ok (.iastore, 1) := by decide +kernel
theorem dX9_plan_145 : decode cX9_plan 145 = .ok (.aload_n 0, 1) := by decide +kernel
theorem dX9_plan_146 : decode cX9_plan 146 = .ok (.getfield 7, 3) := by decide +kernel
theorem dX9_plan_149 : decode cX9_plan 149 = .ok (.sipush 145, 3) := by decide +kernel
theorem dX9_plan_152 : decode cX9_plan 152 = .ok (.iaload, 1) := by decide +kernel
theorem dX9_plan_153 : decode cX9_plan 153 = .ok (.ireturn, 1) := by decide +kernel
set_option maxRecDepth 20000 in
theorem ggX9_unplan_X9_isTurbine : GoodIn wsX9_unplan wsX9_isTurbine := goodIn_r _ [6, 7, 8, 9, 5, 10, 29, 30, 31, 32, 33, 34, 35, 36, 37, 38, 39, 40, 41, 42, 43] (by decide +kernel) (by decide +kernel)
set_option maxRecDepth 20000 in
theorem gX9_unplan_X9_isTurbine : GoodIn wsX9_unplan (wsV RX9 82 RX9 yX9_isTurbine wsX9_isTurbine) := goodIn_app (goodIn_of _ (by decide +kernel)) ggX9_unplan_X9_isTurbine
set_option maxRecDepth 20000 in
theorem ggX9_unplan_X9_fails : GoodIn wsX9_unplan wsX9_fails := goodIn_r _ [14, 1, 29, 30, 31, 32, 33, 34, 35, 36, 37, 38, 39, 40, 41, 42, 43] (by decide +kernel) (by decide +kernel)
set_option maxRecDepth 20000 in
theorem gX9_unplan_X9_fails : GoodIn wsX9_unplan (wsV RX9 76 RX9 yX9_fails wsX9_fails) := goodIn_app (goodIn_of _ (by decide +kernel)) ggX9_unplan_X9_fails
set_option maxRecDepth 20000 in
theorem ggX9_unplan_X9_placeOf : GoodIn wsX9_unplan wsX9_placeOf := goodIn_r _ [18, 7, 29, 30, 31, 32, 33, 34, 35, 36, 37, 38, 39, 40, 41, 42, 43] (by decide +kernel) (by decide +kernel)
set_option maxRecDepth 20000 in
theorem gX9_unplan_X9_placeOf : GoodIn wsX9_unplan (wsV RX9 92 RX9 yX9_placeOf wsX9_placeOf) := goodIn_app (goodIn_of _ (by decide +kernel)) ggX9_unplan_X9_placeOf
set_option maxRecDepth 20000 in
theorem ggX9_unplan_X9_save : GoodIn wsX9_unplan wsX9_save := goodIn_r _ [22, 23, 24, 7, 29, 30, 31, 32, 33, 34, 35, 36, 37, 38, 39, 40, 41, 42, 43] (by decide +kernel) (by decide +kernel)
set_option maxRecDepth 20000 in
theorem gX9_unplan_X9_save : GoodIn wsX9_unplan (wsV RX9 79 RX9 yX9_save wsX9_save) := goodIn_app (goodIn_of _ (by decide +kernel)) ggX9_unplan_X9_save
set_option maxRecDepth 20000 in
theorem ggX9_unplan_X9_takeOff : GoodIn wsX9_unplan wsX9_takeOff := goodIn_r _ [28, 7, 29, 30, 31, 32, 33, 34, 35, 36, 37, 38, 39, 40, 41, 42, 43] (by decide +kernel) (by decide +kernel)
set_option maxRecDepth 20000 in
theorem gX9_unplan_X9_takeOff : GoodIn wsX9_unplan (wsV RX9 56 RX9 yX9_takeOff wsX9_takeOff) := goodIn_app (goodIn_of _ (by decide +kernel)) ggX9_unplan_X9_takeOff
theorem dX9_unplan_0 : decode cX9_unplan 0 = .ok (.aload_n 0, 1) := by decide +kernel
theorem dX9_unplan_1 : decode cX9_unplan 1 = .ok (.iconst 0, 1) := by decide +kernel
theorem dX9_unplan_2 : decode cX9_unplan 2 = .ok (.putfield 28, 3) := by decide +kernel
theorem dX9_unplan_5 : decode cX9_unplan 5 = .ok (.aload_n 0, 1) := by decide +kernel
theorem dX9_unplan_6 : decode cX9_unplan 6 = .ok (.iload_n 1, 1) := by decide +kernel
theorem dX9_unplan_7 : decode cX9_unplan 7 = .ok (.invokevirtual 82, 3) := by decide +kernel
theorem dX9_unplan_10 : decode cX9_unplan 10 = .ok (.ifCond .ne 9, 3) := by decide +kernel
theorem dX9_unplan_13 : decode cX9_unplan 13 = .ok (.aload_n 0, 1) := by decide +kernel
theorem dX9_unplan_14 : decode cX9_unplan 14 = .ok (.iconst 1, 1) := by decide +kernel
theorem dX9_unplan_15 : decode cX9_unplan 15 = .ok (.invokevirtual 76, 3) := by decide +kernel
theorem dX9_unplan_18 : decode cX9_unplan 18 = .ok (.ireturn, 1) := by decide +kernel
theorem dX9_unplan_19 : decode cX9_unplan 19 = .ok (.aload_n 0, 1) := by decide +kernel
theorem dX9_unplan_20 : decode cX9_unplan 20 = .ok (.iload_n 1, 1) := by decide +kernel
theorem dX9_unplan_21 : decode cX9_unplan 21 = .ok (.invokevirtual 92, 3) := by decide +kernel
theorem dX9_unplan_24 : decode cX9_unplan 24 = .ok (.istore_n 2, 1) := by decide +kernel
theorem dX9_unplan_25 : decode cX9_unplan 25 = .ok (.iload_n 2, 1) := by decide +kernel
theorem dX9_unplan_26 : decode cX9_unplan 26 = .ok (.iconst (-1), 1) := by decide +kernel
theorem dX9_unplan_27 : decode cX9_unplan 27 = .ok (.if_icmp .ne 9, 3) := by decide +kernel
theorem dX9_unplan_30 : decode cX9_unplan 30 = .ok (.aload_n 0, 1) := by decide +kernel
theorem dX9_unplan_31 : decode cX9_unplan 31 = .ok (.iconst 2, 1) := by decide +kernel
theorem dX9_unplan_32 : decode cX9_unplan 32 = .ok (.invokevirtual 76, 3) := by decide +kernel
theorem dX9_unplan_35 : decode cX9_unplan 35 = .ok (.ireturn, 1) := by decide +kernel
theorem dX9_unplan_36 : decode cX9_unplan 36 = .ok (.aload_n 0, 1) := by decide +kernel
theorem dX9_unplan_37 : decode cX9_unplan 37 = .ok (.invokevirtual 79, 3) := by decide +kernel
theorem dX9_unplan_40 : decode cX9_unplan 40 = .ok (.aload_n 0, 1) := by decide +kernel
theorem dX9_unplan_41 : decode cX9_unplan 41 = .ok (.iload_n 2, 1) := by decide +kernel
theorem dX9_unplan_42 : decode cX9_unplan 42 = .ok (.invokevirtual 56, 3) := by decide +kernel
theorem dX9_unplan_45 : decode cX9_unplan 45 = .ok (.iload_n 2, 1) := by decide +kernel
theorem dX9_unplan_46 : decode cX9_unplan 46 = .ok (.ireturn, 1) := by decide +kernel
set_option maxRecDepth 20000 in
theorem ggX9_orderBlade_X9_isTurbine : GoodIn wsX9_orderBlade wsX9_isTurbine := goodIn_r _ [7, 2, 8, 9, 6, 10, 21, 22, 23, 24, 25, 26, 27, 28, 29, 30, 31, 32, 33, 34, 35] (by decide +kernel) (by decide +kernel)
set_option maxRecDepth 20000 in
theorem gX9_orderBlade_X9_isTurbine : GoodIn wsX9_orderBlade (wsV RX9 82 RX9 yX9_isTurbine wsX9_isTurbine) := goodIn_app (goodIn_of _ (by decide +kernel)) ggX9_orderBlade_X9_isTurbine
set_option maxRecDepth 20000 in
theorem ggX9_orderBlade_X9_fails : GoodIn wsX9_orderBlade wsX9_fails := goodIn_r _ [14, 1, 21, 22, 23, 24, 25, 26, 27, 28, 29, 30, 31, 32, 33, 34, 35] (by decide +kernel) (by decide +kernel)
set_option maxRecDepth 20000 in
theorem gX9_orderBlade_X9_fails : GoodIn wsX9_orderBlade (wsV RX9 76 RX9 yX9_fails wsX9_fails) := goodIn_app (goodIn_of _ (by decide +kernel)) ggX9_orderBlade_X9_fails
set_option maxRecDepth 20000 in
theorem ggX9_orderBlade_X9_save : GoodIn wsX9_orderBlade wsX9_save := goodIn_r _ [18, 19, 20, 2, 21, 22, 23, 24, 25, 26, 27, 28, 29, 30, 31, 32, 33, 34, 35] (by decide +kernel) (by decide +kernel)
set_option maxRecDepth 20000 in
theorem gX9_orderBlade_X9_save : GoodIn wsX9_orderBlade (wsV RX9 79 RX9 yX9_save wsX9_save) := goodIn_app (goodIn_of _ (by decide +kernel)) ggX9_orderBlade_X9_save
theorem dX9_orderBlade_0 : decode cX9_orderBlade 0 = .ok (.aload_n 0, 1) := by decide +kernel
theorem dX9_orderBlade_1 : decode cX9_orderBlade 1 = .ok (.iconst 0, 1) := by decide +kernel
theorem dX9_orderBlade_2 : decode cX9_orderBlade 2 = .ok (.putfield 28, 3) := by decide +kernel
theorem dX9_orderBlade_5 : decode cX9_orderBlade 5 = .ok (.aload_n 0, 1) := by decide +kernel
theorem dX9_orderBlade_6 : decode cX9_orderBlade 6 = .ok (.iload_n 1, 1) := by decide +kernel
theorem dX9_orderBlade_7 : decode cX9_orderBlade 7 = .ok (.invokevirtual 82, 3) := by decide +kernel
theorem dX9_orderBlade_10 : decode cX9_orderBlade 10 = .ok (.ifCond .ne 9, 3) := by decide +kernel
theorem dX9_orderBlade_13 : decode cX9_orderBlade 13 = .ok (.aload_n 0, 1) := by decide +kernel
theorem dX9_orderBlade_14 : decode cX9_orderBlade 14 = .ok (.iconst 1, 1) := by decide +kernel
theorem dX9_orderBlade_15 : decode cX9_orderBlade 15 = .ok (.invokevirtual 76, 3) := by decide +kernel
theorem dX9_orderBlade_18 : decode cX9_orderBlade 18 = .ok (.ireturn, 1) := by decide +kernel
theorem dX9_orderBlade_19 : decode cX9_orderBlade 19 = .ok (.aload_n 0, 1) := by decide +kernel
theorem dX9_orderBlade_20 : decode cX9_orderBlade 20 = .ok (.getfield 7, 3) := by decide +kernel
theorem dX9_orderBlade_23 : decode cX9_orderBlade 23 = .ok (.sipush 156, 3) := by decide +kernel
theorem dX9_orderBlade_26 : decode cX9_orderBlade 26 = .ok (.iaload, 1) := by decide +kernel
theorem dX9_orderBlade_27 : decode cX9_orderBlade 27 = .ok (.bipush 10, 2) := by decide +kernel
theorem dX9_orderBlade_29 : decode cX9_orderBlade 29 = .ok (.if_icmp .ne 9, 3) := by decide +kernel
theorem dX9_orderBlade_32 : decode cX9_orderBlade 32 = .ok (.aload_n 0, 1) := by decide +kernel
theorem dX9_orderBlade_33 : decode cX9_orderBlade 33 = .ok (.iconst 2, 1) := by decide +kernel
theorem dX9_orderBlade_34 : decode cX9_orderBlade 34 = .ok (.invokevirtual 76, 3) := by decide +kernel
theorem dX9_orderBlade_37 : decode cX9_orderBlade 37 = .ok (.ireturn, 1) := by decide +kernel
theorem dX9_orderBlade_38 : decode cX9_orderBlade 38 = .ok (.aload_n 0, 1) := by decide +kernel
theorem dX9_orderBlade_39 : decode cX9_orderBlade 39 = .ok (.invokevirtual 79, 3) := by decide +kernel
theorem dX9_orderBlade_42 : decode cX9_orderBlade 42 = .ok (.aload_n 0, 1) := by decide +kernel
theorem dX9_orderBlade_43 : decode cX9_orderBlade 43 = .ok (.getfield 7, 3) := by decide +kernel
theorem dX9_orderBlade_46 : decode cX9_orderBlade 46 = .ok (.sipush 157, 3) := by decide +kernel
theorem dX9_orderBlade_49 : decode cX9_orderBlade 49 = .ok (.aload_n 0, 1) := by decide +kernel
theorem dX9_orderBlade_50 : decode cX9_orderBlade 50 = .ok (.getfield 7, 3) := by decide +kernel
theorem dX9_orderBlade_53 : decode cX9_orderBlade 53 = .ok (.sipush 156, 3) := by decide +kernel
theorem dX9_orderBlade_56 : decode cX9_orderBlade 56 = .ok (.iaload, 1) := by decide +kernel
theorem dX9_orderBlade_57 : decode cX9_orderBlade 57 = .ok (.iadd, 1) := by decide +kernel
theorem dX9_orderBlade_58 : decode cX9_orderBlade 58 = .ok (.iload_n 1, 1) := by decide +kernel
theorem dX9_orderBlade_59 : decode cX9_orderBlade 59 = .ok (.iastore, 1) := by decide +kernel
theorem dX9_orderBlade_60 : decode cX9_orderBlade 60 = .ok (.aload_n 0, 1) := by decide +kernel
theorem dX9_orderBlade_61 : decode cX9_orderBlade 61 = .ok (.getfield 7, 3) := by decide +kernel
theorem dX9_orderBlade_64 : decode cX9_orderBlade 64 = .ok (.sipush 167, 3) := by decide +kernel
theorem dX9_orderBlade_67 : decode cX9_orderBlade 67 = .ok (.aload_n 0, 1) := by decide +kernel
theorem dX9_orderBlade_68 : decode cX9_orderBlade 68 = .ok (.getfield 7, 3) := by decide +kernel
theorem dX9_orderBlade_71 : decode cX9_orderBlade 71 = .ok (.sipush 156, 3) := by decide +kernel
theorem dX9_orderBlade_74 : decode cX9_orderBlade 74 = .ok (.iaload, 1) := by decide +kernel
theorem dX9_orderBlade_75 : decode cX9_orderBlade 75 = .ok (.iadd, 1) := by decide +kernel
theorem dX9_orderBlade_76 : decode cX9_orderBlade 76 = .ok (.aload_n 0, 1) := by decide +kernel
theorem dX9_orderBlade_77 : decode cX9_orderBlade 77 = .ok (.getfield 7, 3) := by decide +kernel
theorem dX9_orderBlade_80 : decode cX9_orderBlade 80 = .ok (.bipush 10, 2) := by decide +kernel
theorem dX9_orderBlade_82 : decode cX9_orderBlade 82 = .ok (.iload_n 1, 1) := by decide +kernel
theorem dX9_orderBlade_83 : decode cX9_orderBlade 83 = .ok (.iadd, 1) := by decide +kernel
theorem dX9_orderBlade_84 : decode cX9_orderBlade 84 = .ok (.iaload, 1) := by decide +kernel
theorem dX9_orderBlade_85 : decode cX9_orderBlade 85 = .ok (.bipush 10, 2) := by decide +kernel
theorem dX9_orderBlade_87 : decode cX9_orderBlade 87 = .ok (.idiv, 1) := by decide +kernel
theorem dX9_orderBlade_88 : decode cX9_orderBlade 88 = .ok (.iastore, 1) := by decide +kernel
theorem dX9_orderBlade_89 : decode cX9_orderBlade 89 = .ok (.aload_n 0, 1) := by decide +kernel
theorem dX9_orderBlade_90 : decode cX9_orderBlade 90 = .ok (.getfield 7, 3) := by decide +kernel
theorem dX9_orderBlade_93 : decode cX9_orderBlade 93 = .ok (.sipush 156, 3) := by decide +kernel
theorem dX9_orderBlade_96 : decode cX9_orderBlade 96 = .ok (.dup2, 1) := by decide +kernel
theorem dX9_orderBlade_97 : decode cX9_orderBlade 97 = .ok (.iaload, 1) := by decide +kernel
theorem dX9_orderBlade_98 : decode cX9_orderBlade 98 = .ok (.iconst 1, 1) := by decide +kernel
theorem dX9_orderBlade_99 : decode cX9_orderBlade 99 = .ok (.iadd, 1) := by decide +kernel
theorem dX9_orderBlade_100 : decode cX9_orderBlade 100 = .ok (.iastore, 1) := by decide +kernel
theorem dX9_orderBlade_101 : decode cX9_orderBlade 101 = .ok (.aload_n 0, 1) := by decide +kernel
theorem dX9_orderBlade_102 : decode cX9_orderBlade 102 = .ok (.getfield 7, 3) := by decide +kernel
theorem dX9_orderBlade_105 : decode cX9_orderBlade 105 = .ok (.sipush 156, 3) := by decide +kernel
theorem dX9_orderBlade_108 : decode cX9_orderBlade 108 = .ok (.iaload, 1) := by decide +kernel
theorem dX9_orderBlade_109 : decode cX9_orderBlade 109 = .ok (.ireturn, 1) := by decide +kernel
set_option maxRecDepth 20000 in
theorem ggX9_pass_X9_within : GoodIn wsX9_pass wsX9_within := goodIn_r _ [6] (by decide +kernel) (by decide +kernel)
set_option maxRecDepth 20000 in
theorem gX9_pass_X9_within : GoodIn wsX9_pass (va_wsS RX9 32 yX9_within wsX9_within) := goodIn_app (goodIn_of _ (by decide +kernel)) ggX9_pass_X9_within
set_option maxRecDepth 20000 in
theorem ggX9_pass_X9_fails : GoodIn wsX9_pass wsX9_fails := goodIn_r _ [10, 1, 65, 66, 67, 68, 69, 70, 71, 72, 73, 74, 75, 76, 77, 78, 79] (by decide +kernel) (by decide +kernel)
set_option maxRecDepth 20000 in
theorem gX9_pass_X9_fails : GoodIn wsX9_pass (wsV RX9 76 RX9 yX9_fails wsX9_fails) := goodIn_app (goodIn_of _ (by decide +kernel)) ggX9_pass_X9_fails
set_option maxRecDepth 20000 in
theorem ggX9_pass_X9_save : GoodIn wsX9_pass wsX9_save := goodIn_r _ [14, 15, 16, 2, 65, 66, 67, 68, 69, 70, 71, 72, 73, 74, 75, 76, 77, 78, 79] (by decide +kernel) (by decide +kernel)
set_option maxRecDepth 20000 in
theorem gX9_pass_X9_save : GoodIn wsX9_pass (wsV RX9 79 RX9 yX9_save wsX9_save) := goodIn_app (goodIn_of _ (by decide +kernel)) ggX9_pass_X9_save
set_option maxRecDepth 20000 in
theorem ggX9_pass_X9_goHours : GoodIn wsX9_pass wsX9_goHours := goodIn_r _ [20, 21, 22, 23, 5, 24, 2, 25, 26, 27, 28, 29, 30, 31, 32, 33, 34, 35, 36, 37, 38, 39, 40, 41, 42, 43, 44, 45, 46, 47, 48, 49, 50, 51, 52, 53, 54, 55, 56, 57, 58, 59, 60, 61, 62, 63, 64, 3, 4, 6, 65, 66, 67, 68, 69, 70, 71, 72, 73, 74, 75, 76, 77, 78, 79] (by decide +kernel) (by decide +kernel)
set_option maxRecDepth 20000 in
theorem gX9_pass_X9_goHours : GoodIn wsX9_pass (wsV RX9 95 RX9 yX9_goHours wsX9_goHours) := goodIn_app (goodIn_of _ (by decide +kernel)) ggX9_pass_X9_goHours
theorem dX9_pass_0 : decode cX9_pass 0 = .ok (.aload_n 0, 1) := by decide +kernel
theorem dX9_pass_1 : decode cX9_pass 1 = .ok (.iconst 0, 1) := by decide +kernel
theorem dX9_pass_2 : decode cX9_pass 2 = .ok (.putfield 28, 3) := by decide +kernel
theorem dX9_pass_5 : decode cX9_pass 5 = .ok (.iload_n 1, 1) := by decide +kernel
theorem dX9_pass_6 : decode cX9_pass 6 = .ok (.iconst 1, 1) := by decide +kernel
theorem dX9_pass_7 : decode cX9_pass 7 = .ok (.sipush 200, 3) := by decide +kernel
theorem dX9_pass_10 : decode cX9_pass 10 = .ok (.invokestatic 32, 3) := by decide +kernel
theorem dX9_pass_13 : decode cX9_pass 13 = .ok (.ifCond .ne 9, 3) := by decide +kernel
theorem dX9_pass_16 : decode cX9_pass 16 = .ok (.aload_n 0, 1) := by decide +kernel
theorem dX9_pass_17 : decode cX9_pass 17 = .ok (.iconst 1, 1) := by decide +kernel
theorem dX9_pass_18 : decode cX9_pass 18 = .ok (.invokevirtual 76, 3) := by decide +kernel
theorem dX9_pass_21 : decode cX9_pass 21 = .ok (.ireturn, 1) := by decide +kernel
theorem dX9_pass_22 : decode cX9_pass 22 = .ok (.aload_n 0, 1) := by decide +kernel
theorem dX9_pass_23 : decode cX9_pass 23 = .ok (.getfield 7, 3) := by decide +kernel
theorem dX9_pass_26 : decode cX9_pass 26 = .ok (.sipush 182, 3) := by decide +kernel
theorem dX9_pass_29 : decode cX9_pass 29 = .ok (.iaload, 1) := by decide +kernel
theorem dX9_pass_30 : decode cX9_pass 30 = .ok (.iload_n 1, 1) := by decide +kernel
theorem dX9_pass_31 : decode cX9_pass 31 = .ok (.iadd, 1) := by decide +kernel
theorem dX9_pass_32 : decode cX9_pass 32 = .ok (.sipush 10000, 3) := by decide +kernel
theorem dX9_pass_35 : decode cX9_pass 35 = .ok (.if_icmp .le 9, 3) := by decide +kernel
theorem dX9_pass_38 : decode cX9_pass 38 = .ok (.aload_n 0, 1) := by decide +kernel
theorem dX9_pass_39 : decode cX9_pass 39 = .ok (.iconst 2, 1) := by decide +kernel
theorem dX9_pass_40 : decode cX9_pass 40 = .ok (.invokevirtual 76, 3) := by decide +kernel
theorem dX9_pass_43 : decode cX9_pass 43 = .ok (.ireturn, 1) := by decide +kernel
theorem dX9_pass_44 : decode cX9_pass 44 = .ok (.aload_n 0, 1) := by decide +kernel
theorem dX9_pass_45 : decode cX9_pass 45 = .ok (.invokevirtual 79, 3) := by decide +kernel
theorem dX9_pass_48 : decode cX9_pass 48 = .ok (.aload_n 0, 1) := by decide +kernel
theorem dX9_pass_49 : decode cX9_pass 49 = .ok (.iload_n 1, 1) := by decide +kernel
theorem dX9_pass_50 : decode cX9_pass 50 = .ok (.invokevirtual 95, 3) := by decide +kernel
theorem dX9_pass_53 : decode cX9_pass 53 = .ok (.ireturn, 1) := by decide +kernel
set_option maxRecDepth 20000 in
theorem ggX9_append_X9_within : GoodIn wsX9_append wsX9_within := goodIn_r _ [7] (by decide +kernel) (by decide +kernel)
set_option maxRecDepth 20000 in
theorem gX9_append_X9_within : GoodIn wsX9_append (va_wsS RX9 32 yX9_within wsX9_within) := goodIn_app (goodIn_of _ (by decide +kernel)) ggX9_append_X9_within
set_option maxRecDepth 20000 in
theorem ggX9_append_X9_fails : GoodIn wsX9_append wsX9_fails := goodIn_r _ [11, 1, 12, 13, 14, 15, 16, 17, 18, 19, 20, 21, 22, 23, 24, 25, 26] (by decide +kernel) (by decide +kernel)
set_option maxRecDepth 20000 in
theorem gX9_append_X9_fails : GoodIn wsX9_append (wsV RX9 76 RX9 yX9_fails wsX9_fails) := goodIn_app (goodIn_of _ (by decide +kernel)) ggX9_append_X9_fails
theorem dX9_append_0 : decode cX9_append 0 = .ok (.aload_n 0, 1) := by decide +kernel
theorem dX9_append_1 : decode cX9_append 1 = .ok (.iconst 0, 1) := by decide +kernel
theorem dX9_append_2 : decode cX9_append 2 = .ok (.putfield 28, 3) := by decide +kernel
theorem dX9_append_5 : decode cX9_append 5 = .ok (.iload_n 1, 1) := by decide +kernel
theorem dX9_append_6 : decode cX9_append 6 = .ok (.bipush 33, 2) := by decide +kernel
theorem dX9_append_8 : decode cX9_append 8 = .ok (.bipush 126, 2) := by decide +kernel
theorem dX9_append_10 : decode cX9_append 10 = .ok (.invokestatic 32, 3) := by decide +kernel
theorem dX9_append_13 : decode cX9_append 13 = .ok (.ifCond .ne 9, 3) := by decide +kernel
theorem dX9_append_16 : decode cX9_append 16 = .ok (.aload_n 0, 1) := by decide +kernel
theorem dX9_append_17 : decode cX9_append 17 = .ok (.iconst 1, 1) := by decide +kernel
theorem dX9_append_18 : decode cX9_append 18 = .ok (.invokevirtual 76, 3) := by decide +kernel
theorem dX9_append_21 : decode cX9_append 21 = .ok (.ireturn, 1) := by decide +kernel
theorem dX9_append_22 : decode cX9_append 22 = .ok (.aload_n 0, 1) := by decide +kernel
theorem dX9_append_23 : decode cX9_append 23 = .ok (.getfield 98, 3) := by decide +kernel
theorem dX9_append_26 : decode cX9_append 26 = .ok (.bipush 60, 2) := by decide +kernel
theorem dX9_append_28 : decode cX9_append 28 = .ok (.if_icmp .ne 9, 3) := by decide +kernel
theorem dX9_append_31 : decode cX9_append 31 = .ok (.aload_n 0, 1) := by decide +kernel
theorem dX9_append_32 : decode cX9_append 32 = .ok (.iconst 2, 1) := by decide +kernel
theorem dX9_append_33 : decode cX9_append 33 = .ok (.invokevirtual 76, 3) := by decide +kernel
theorem dX9_append_36 : decode cX9_append 36 = .ok (.ireturn, 1) := by decide +kernel
theorem dX9_append_37 : decode cX9_append 37 = .ok (.aload_n 0, 1) := by decide +kernel
theorem dX9_append_38 : decode cX9_append 38 = .ok (.getfield 19, 3) := by decide +kernel
theorem dX9_append_41 : decode cX9_append 41 = .ok (.aload_n 0, 1) := by decide +kernel
theorem dX9_append_42 : decode cX9_append 42 = .ok (.getfield 98, 3) := by decide +kernel
theorem dX9_append_45 : decode cX9_append 45 = .ok (.iload_n 1, 1) := by decide +kernel
theorem dX9_append_46 : decode cX9_append 46 = .ok (.iastore, 1) := by decide +kernel
theorem dX9_append_47 : decode cX9_append 47 = .ok (.aload_n 0, 1) := by decide +kernel
theorem dX9_append_48 : decode cX9_append 48 = .ok (.dup, 1) := by decide +kernel
theorem dX9_append_49 : decode cX9_append 49 = .ok (.getfield 98, 3) := by decide +kernel
theorem dX9_append_52 : decode cX9_append 52 = .ok (.iconst 1, 1) := by decide +kernel
theorem dX9_append_53 : decode cX9_append 53 = .ok (.iadd, 1) := by decide +kernel
theorem dX9_append_54 : decode cX9_append 54 = .ok (.putfield 98, 3) := by decide +kernel
theorem dX9_append_57 : decode cX9_append 57 = .ok (.aload_n 0, 1) := by decide +kernel
theorem dX9_append_58 : decode cX9_append 58 = .ok (.getfield 98, 3) := by decide +kernel
theorem dX9_append_61 : decode cX9_append 61 = .ok (.ireturn, 1) := by decide +kernel
theorem dX9_clearBuffer_0 : decode cX9_clearBuffer 0 = .ok (.aload_n 0, 1) := by decide +kernel
theorem dX9_clearBuffer_1 : decode cX9_clearBuffer 1 = .ok (.iconst 0, 1) := by decide +kernel
theorem dX9_clearBuffer_2 : decode cX9_clearBuffer 2 = .ok (.putfield 28, 3) := by decide +kernel
theorem dX9_clearBuffer_5 : decode cX9_clearBuffer 5 = .ok (.aload_n 0, 1) := by decide +kernel
theorem dX9_clearBuffer_6 : decode cX9_clearBuffer 6 = .ok (.getfield 98, 3) := by decide +kernel
theorem dX9_clearBuffer_9 : decode cX9_clearBuffer 9 = .ok (.istore_n 1, 1) := by decide +kernel
theorem dX9_clearBuffer_10 : decode cX9_clearBuffer 10 = .ok (.aload_n 0, 1) := by decide +kernel
theorem dX9_clearBuffer_11 : decode cX9_clearBuffer 11 = .ok (.iconst 0, 1) := by decide +kernel
theorem dX9_clearBuffer_12 : decode cX9_clearBuffer 12 = .ok (.putfield 98, 3) := by decide +kernel
theorem dX9_clearBuffer_15 : decode cX9_clearBuffer 15 = .ok (.iload_n 1, 1) := by decide +kernel
theorem dX9_clearBuffer_16 : decode cX9_clearBuffer 16 = .ok (.ireturn, 1) := by decide +kernel
theorem dX9_close_0 : decode cX9_close 0 = .ok (.iconst 0, 1) := by decide +kernel
theorem dX9_close_1 : decode cX9_close 1 = .ok (.istore_n 1, 1) := by decide +kernel
theorem dX9_close_2 : decode cX9_close 2 = .ok (.iload_n 1, 1) := by decide +kernel
theorem dX9_close_3 : decode cX9_close 3 = .ok (.aload_n 0, 1) := by decide +kernel
theorem dX9_close_4 : decode cX9_close 4 = .ok (.getfield 101, 3) := by decide +kernel
theorem dX9_close_7 : decode cX9_close 7 = .ok (.if_icmp .ge 41, 3) := by decide +kernel
theorem dX9_close_10 : decode cX9_close 10 = .ok (.aload_n 0, 1) := by decide +kernel
theorem dX9_close_11 : decode cX9_close 11 = .ok (.getfield 104, 3) := by decide +kernel
theorem dX9_close_14 : decode cX9_close 14 = .ok (.bipush 48, 2) := by decide +kernel
theorem dX9_close_16 : decode cX9_close 16 = .ok (.if_icmp .ge 16, 3) := by decide +kernel
theorem dX9_close_19 : decode cX9_close 19 = .ok (.aload_n 0, 1) := by decide +kernel
theorem dX9_close_20 : decode cX9_close 20 = .ok (.getfield 25, 3) := by decide +kernel
theorem dX9_close_23 : decode cX9_close 23 = .ok (.aload_n 0, 1) := by decide +kernel
theorem dX9_close_24 : decode cX9_close 24 = .ok (.getfield 104, 3) := by decide +kernel
theorem dX9_close_27 : decode cX9_close 27 = .ok (.aload_n 0, 1) := by decide +kernel
theorem dX9_close_28 : decode cX9_close 28 = .ok (.getfield 107, 3) := by decide +kernel
theorem dX9_close_31 : decode cX9_close 31 = .ok (.iastore, 1) := by decide +kernel
