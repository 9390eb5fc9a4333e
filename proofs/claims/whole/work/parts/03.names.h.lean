theorem dX9_close_32 : decode cX9_close 32 = .ok (.aload_n 0, 1) := by decide +kernel
theorem dX9_close_33 : decode cX9_close 33 = .ok (.dup, 1) := by decide +kernel
theorem dX9_close_34 : decode cX9_close 34 = .ok (.getfield 104, 3) := by decide +kernel
theorem dX9_close_37 : decode cX9_close 37 = .ok (.iconst 1, 1) := by decide +kernel
theorem dX9_close_38 : decode cX9_close 38 = .ok (.iadd, 1) := by decide +kernel
theorem dX9_close_39 : decode cX9_close 39 = .ok (.putfield 104, 3) := by decide +kernel
theorem dX9_close_42 : decode cX9_close 42 = .ok (.iinc 1 1, 3) := by decide +kernel
theorem dX9_close_45 : decode cX9_close 45 = .ok (.goto (-43), 3) := by decide +kernel
theorem dX9_close_48 : decode cX9_close 48 = .ok (.return_, 1) := by decide +kernel
set_option maxRecDepth 20000 in
theorem ggX9_first_X9_within : GoodIn wsX9_first wsX9_within := goodIn_r _ [7] (by decide +kernel) (by decide +kernel)
set_option maxRecDepth 20000 in
theorem gX9_first_X9_within : GoodIn wsX9_first (va_wsS RX9 32 yX9_within wsX9_within) := goodIn_app (goodIn_of _ (by decide +kernel)) ggX9_first_X9_within
theorem dX9_first_0 : decode cX9_first 0 = .ok (.aload_n 0, 1) := by decide +kernel
theorem dX9_first_1 : decode cX9_first 1 = .ok (.iload_n 1, 1) := by decide +kernel
theorem dX9_first_2 : decode cX9_first 2 = .ok (.putfield 107, 3) := by decide +kernel
theorem dX9_first_5 : decode cX9_first 5 = .ok (.aload_n 0, 1) := by decide +kernel
theorem dX9_first_6 : decode cX9_first 6 = .ok (.iconst 1, 1) := by decide +kernel
theorem dX9_first_7 : decode cX9_first 7 = .ok (.putfield 101, 3) := by decide +kernel
theorem dX9_first_10 : decode cX9_first 10 = .ok (.aload_n 0, 1) := by decide +kernel
theorem dX9_first_11 : decode cX9_first 11 = .ok (.iload_n 1, 1) := by decide +kernel
theorem dX9_first_12 : decode cX9_first 12 = .ok (.ifCond .eq 8, 3) := by decide +kernel
theorem dX9_first_15 : decode cX9_first 15 = .ok (.iload_n 1, 1) := by decide +kernel
theorem dX9_first_16 : decode cX9_first 16 = .ok (.iconst 3, 1) := by decide +kernel
theorem dX9_first_17 : decode cX9_first 17 = .ok (.if_icmp .le 7, 3) := by decide +kernel
theorem dX9_first_20 : decode cX9_first 20 = .ok (.iconst 3, 1) := by decide +kernel
theorem dX9_first_21 : decode cX9_first 21 = .ok (.goto 13, 3) := by decide +kernel
theorem dX9_first_24 : decode cX9_first 24 = .ok (.iload_n 1, 1) := by decide +kernel
theorem dX9_first_25 : decode cX9_first 25 = .ok (.iconst 3, 1) := by decide +kernel
theorem dX9_first_26 : decode cX9_first 26 = .ok (.if_icmp .ne 7, 3) := by decide +kernel
theorem dX9_first_29 : decode cX9_first 29 = .ok (.iconst 2, 1) := by decide +kernel
theorem dX9_first_30 : decode cX9_first 30 = .ok (.goto 4, 3) := by decide +kernel
theorem dX9_first_33 : decode cX9_first 33 = .ok (.iconst 1, 1) := by decide +kernel
theorem dX9_first_34 : decode cX9_first 34 = .ok (.putfield 110, 3) := by decide +kernel
theorem dX9_first_37 : decode cX9_first 37 = .ok (.iload_n 1, 1) := by decide +kernel
theorem dX9_first_38 : decode cX9_first 38 = .ok (.iconst 0, 1) := by decide +kernel
theorem dX9_first_39 : decode cX9_first 39 = .ok (.bipush 9, 2) := by decide +kernel
theorem dX9_first_41 : decode cX9_first 41 = .ok (.invokestatic 32, 3) := by decide +kernel
theorem dX9_first_44 : decode cX9_first 44 = .ok (.ireturn, 1) := by decide +kernel
theorem dX9_second_0 : decode cX9_second 0 = .ok (.aload_n 0, 1) := by decide +kernel
theorem dX9_second_1 : decode cX9_second 1 = .ok (.bipush 10, 2) := by decide +kernel
theorem dX9_second_3 : decode cX9_second 3 = .ok (.aload_n 0, 1) := by decide +kernel
theorem dX9_second_4 : decode cX9_second 4 = .ok (.getfield 107, 3) := by decide +kernel
theorem dX9_second_7 : decode cX9_second 7 = .ok (.imul, 1) := by decide +kernel
theorem dX9_second_8 : decode cX9_second 8 = .ok (.iload_n 1, 1) := by decide +kernel
theorem dX9_second_9 : decode cX9_second 9 = .ok (.iadd, 1) := by decide +kernel
theorem dX9_second_10 : decode cX9_second 10 = .ok (.putfield 107, 3) := by decide +kernel
theorem dX9_second_13 : decode cX9_second 13 = .ok (.aload_n 0, 1) := by decide +kernel
theorem dX9_second_14 : decode cX9_second 14 = .ok (.iconst 3, 1) := by decide +kernel
theorem dX9_second_15 : decode cX9_second 15 = .ok (.putfield 110, 3) := by decide +kernel
theorem dX9_second_18 : decode cX9_second 18 = .ok (.iconst 1, 1) := by decide +kernel
theorem dX9_second_19 : decode cX9_second 19 = .ok (.ireturn, 1) := by decide +kernel
set_option maxRecDepth 20000 in
theorem ggX9_ends_X9_close : GoodIn wsX9_ends wsX9_close := goodIn_r _ [6, 7, 8, 9, 10, 11, 12, 13, 14, 15, 16, 17, 18, 19, 20, 21, 22, 23, 24, 25] (by decide +kernel) (by decide +kernel)
set_option maxRecDepth 20000 in
theorem gX9_ends_X9_close : GoodIn wsX9_ends (wsV RX9 113 RX9 yX9_close wsX9_close) := goodIn_app (goodIn_of _ (by decide +kernel)) ggX9_ends_X9_close
theorem dX9_ends_0 : decode cX9_ends 0 = .ok (.aload_n 0, 1) := by decide +kernel
theorem dX9_ends_1 : decode cX9_ends 1 = .ok (.iload_n 1, 1) := by decide +kernel
theorem dX9_ends_2 : decode cX9_ends 2 = .ok (.bipush 44, 2) := by decide +kernel
theorem dX9_ends_4 : decode cX9_ends 4 = .ok (.if_icmp .ne 7, 3) := by decide +kernel
theorem dX9_ends_7 : decode cX9_ends 7 = .ok (.iconst 0, 1) := by decide +kernel
theorem dX9_ends_8 : decode cX9_ends 8 = .ok (.goto 4, 3) := by decide +kernel
theorem dX9_ends_11 : decode cX9_ends 11 = .ok (.iconst 4, 1) := by decide +kernel
theorem dX9_ends_12 : decode cX9_ends 12 = .ok (.putfield 110, 3) := by decide +kernel
theorem dX9_ends_15 : decode cX9_ends 15 = .ok (.iload_n 1, 1) := by decide +kernel
theorem dX9_ends_16 : decode cX9_ends 16 = .ok (.bipush 44, 2) := by decide +kernel
theorem dX9_ends_18 : decode cX9_ends 18 = .ok (.if_icmp .ne 7, 3) := by decide +kernel
theorem dX9_ends_21 : decode cX9_ends 21 = .ok (.aload_n 0, 1) := by decide +kernel
theorem dX9_ends_22 : decode cX9_ends 22 = .ok (.invokevirtual 113, 3) := by decide +kernel
theorem dX9_ends_25 : decode cX9_ends 25 = .ok (.iload_n 1, 1) := by decide +kernel
theorem dX9_ends_26 : decode cX9_ends 26 = .ok (.bipush 44, 2) := by decide +kernel
theorem dX9_ends_28 : decode cX9_ends 28 = .ok (.if_icmp .eq 9, 3) := by decide +kernel
theorem dX9_ends_31 : decode cX9_ends 31 = .ok (.iload_n 1, 1) := by decide +kernel
theorem dX9_ends_32 : decode cX9_ends 32 = .ok (.bipush 42, 2) := by decide +kernel
theorem dX9_ends_34 : decode cX9_ends 34 = .ok (.if_icmp .ne 7, 3) := by decide +kernel
theorem dX9_ends_37 : decode cX9_ends 37 = .ok (.iconst 1, 1) := by decide +kernel
theorem dX9_ends_38 : decode cX9_ends 38 = .ok (.goto 4, 3) := by decide +kernel
theorem dX9_ends_41 : decode cX9_ends 41 = .ok (.iconst 0, 1) := by decide +kernel
theorem dX9_ends_42 : decode cX9_ends 42 = .ok (.ireturn, 1) := by decide +kernel
set_option maxRecDepth 20000 in
theorem ggX9_often_X9_within : GoodIn wsX9_often wsX9_within := goodIn_r _ [6] (by decide +kernel) (by decide +kernel)
set_option maxRecDepth 20000 in
theorem gX9_often_X9_within : GoodIn wsX9_often (va_wsS RX9 32 yX9_within wsX9_within) := goodIn_app (goodIn_of _ (by decide +kernel)) ggX9_often_X9_within
theorem dX9_often_0 : decode cX9_often 0 = .ok (.aload_n 0, 1) := by decide +kernel
theorem dX9_often_1 : decode cX9_often 1 = .ok (.iload_n 1, 1) := by decide +kernel
theorem dX9_often_2 : decode cX9_often 2 = .ok (.putfield 101, 3) := by decide +kernel
theorem dX9_often_5 : decode cX9_often 5 = .ok (.aload_n 0, 1) := by decide +kernel
theorem dX9_often_6 : decode cX9_often 6 = .ok (.iload_n 1, 1) := by decide +kernel
theorem dX9_often_7 : decode cX9_often 7 = .ok (.iconst 1, 1) := by decide +kernel
theorem dX9_often_8 : decode cX9_often 8 = .ok (.if_icmp .ne 7, 3) := by decide +kernel
theorem dX9_often_11 : decode cX9_often 11 = .ok (.iconst 5, 1) := by decide +kernel
theorem dX9_often_12 : decode cX9_often 12 = .ok (.goto 25, 3) := by decide +kernel
theorem dX9_often_15 : decode cX9_often 15 = .ok (.iload_n 1, 1) := by decide +kernel
theorem dX9_often_16 : decode cX9_often 16 = .ok (.iconst 4, 1) := by decide +kernel
theorem dX9_often_17 : decode cX9_often 17 = .ok (.if_icmp .ge 8, 3) := by decide +kernel
theorem dX9_often_20 : decode cX9_often 20 = .ok (.bipush 6, 2) := by decide +kernel
theorem dX9_often_22 : decode cX9_often 22 = .ok (.goto 15, 3) := by decide +kernel
theorem dX9_often_25 : decode cX9_often 25 = .ok (.iload_n 1, 1) := by decide +kernel
theorem dX9_often_26 : decode cX9_often 26 = .ok (.iconst 4, 1) := by decide +kernel
theorem dX9_often_27 : decode cX9_often 27 = .ok (.if_icmp .ne 8, 3) := by decide +kernel
theorem dX9_often_30 : decode cX9_often 30 = .ok (.bipush 7, 2) := by decide +kernel
theorem dX9_often_32 : decode cX9_often 32 = .ok (.goto 5, 3) := by decide +kernel
theorem dX9_often_35 : decode cX9_often 35 = .ok (.bipush 8, 2) := by decide +kernel
theorem dX9_often_37 : decode cX9_often 37 = .ok (.putfield 110, 3) := by decide +kernel
theorem dX9_often_40 : decode cX9_often 40 = .ok (.iload_n 1, 1) := by decide +kernel
theorem dX9_often_41 : decode cX9_often 41 = .ok (.iconst 1, 1) := by decide +kernel
theorem dX9_often_42 : decode cX9_often 42 = .ok (.bipush 9, 2) := by decide +kernel
theorem dX9_often_44 : decode cX9_often 44 = .ok (.invokestatic 32, 3) := by decide +kernel
theorem dX9_often_47 : decode cX9_often 47 = .ok (.ireturn, 1) := by decide +kernel
theorem dX9_more_0 : decode cX9_more 0 = .ok (.aload_n 0, 1) := by decide +kernel
theorem dX9_more_1 : decode cX9_more 1 = .ok (.bipush 10, 2) := by decide +kernel
theorem dX9_more_3 : decode cX9_more 3 = .ok (.aload_n 0, 1) := by decide +kernel
theorem dX9_more_4 : decode cX9_more 4 = .ok (.getfield 101, 3) := by decide +kernel
theorem dX9_more_7 : decode cX9_more 7 = .ok (.imul, 1) := by decide +kernel
theorem dX9_more_8 : decode cX9_more 8 = .ok (.iload_n 1, 1) := by decide +kernel
theorem dX9_more_9 : decode cX9_more 9 = .ok (.iadd, 1) := by decide +kernel
theorem dX9_more_10 : decode cX9_more 10 = .ok (.putfield 101, 3) := by decide +kernel
theorem dX9_more_13 : decode cX9_more 13 = .ok (.aload_n 0, 1) := by decide +kernel
theorem dX9_more_14 : decode cX9_more 14 = .ok (.bipush 8, 2) := by decide +kernel
theorem dX9_more_16 : decode cX9_more 16 = .ok (.putfield 110, 3) := by decide +kernel
theorem dX9_more_19 : decode cX9_more 19 = .ok (.iconst 1, 1) := by decide +kernel
theorem dX9_more_20 : decode cX9_more 20 = .ok (.ireturn, 1) := by decide +kernel
set_option maxRecDepth 20000 in
theorem ggX9_goes_X9_within : GoodIn wsX9_goes wsX9_within := goodIn_r _ [5] (by decide +kernel) (by decide +kernel)
set_option maxRecDepth 20000 in
theorem gX9_goes_X9_within : GoodIn wsX9_goes (va_wsS RX9 32 yX9_within wsX9_within) := goodIn_app (goodIn_of _ (by decide +kernel)) ggX9_goes_X9_within
set_option maxRecDepth 20000 in
theorem ggX9_goes_X9_first : GoodIn wsX9_goes wsX9_first := goodIn_r _ [9, 10, 11, 1, 2, 3, 4, 5, 34, 35, 36, 37, 38, 39, 40, 41, 42, 43, 44, 45, 46, 47, 48] (by decide +kernel) (by decide +kernel)
set_option maxRecDepth 20000 in
theorem gX9_goes_X9_first : GoodIn wsX9_goes (wsV RX9 116 RX9 yX9_first wsX9_first) := goodIn_app (goodIn_of _ (by decide +kernel)) ggX9_goes_X9_first
set_option maxRecDepth 20000 in
theorem ggX9_goes_X9_second : GoodIn wsX9_goes wsX9_second := goodIn_r _ [15, 10, 1, 34, 35, 36, 37, 38, 39, 40, 41, 42, 43, 44, 45, 46, 47, 48] (by decide +kernel) (by decide +kernel)
set_option maxRecDepth 20000 in
theorem gX9_goes_X9_second : GoodIn wsX9_goes (wsV RX9 119 RX9 yX9_second wsX9_second) := goodIn_app (goodIn_of _ (by decide +kernel)) ggX9_goes_X9_second
set_option maxRecDepth 20000 in
theorem ggX9_goes_X9_ends : GoodIn wsX9_goes wsX9_ends := goodIn_r _ [19, 1, 20, 21, 22, 4, 23, 11, 24, 25, 10, 34, 35, 36, 37, 38, 39, 40, 41, 42, 43, 44, 45, 46, 47, 48] (by decide +kernel) (by decide +kernel)
set_option maxRecDepth 20000 in
theorem gX9_goes_X9_ends : GoodIn wsX9_goes (wsV RX9 122 RX9 yX9_ends wsX9_ends) := goodIn_app (goodIn_of _ (by decide +kernel)) ggX9_goes_X9_ends
set_option maxRecDepth 20000 in
theorem ggX9_goes_X9_often : GoodIn wsX9_goes wsX9_often := goodIn_r _ [29, 11, 1, 2, 3, 4, 5, 34, 35, 36, 37, 38, 39, 40, 41, 42, 43, 44, 45, 46, 47, 48] (by decide +kernel) (by decide +kernel)
set_option maxRecDepth 20000 in
theorem gX9_goes_X9_often : GoodIn wsX9_goes (wsV RX9 125 RX9 yX9_often wsX9_often) := goodIn_app (goodIn_of _ (by decide +kernel)) ggX9_goes_X9_often
set_option maxRecDepth 20000 in
theorem ggX9_goes_X9_more : GoodIn wsX9_goes wsX9_more := goodIn_r _ [33, 11, 1, 34, 35, 36, 37, 38, 39, 40, 41, 42, 43, 44, 45, 46, 47, 48] (by decide +kernel) (by decide +kernel)
set_option maxRecDepth 20000 in
theorem gX9_goes_X9_more : GoodIn wsX9_goes (wsV RX9 128 RX9 yX9_more wsX9_more) := goodIn_app (goodIn_of _ (by decide +kernel)) ggX9_goes_X9_more
theorem dX9_goes_0 : decode cX9_goes 0 = .ok (.iload_n 1, 1) := by decide +kernel
theorem dX9_goes_1 : decode cX9_goes 1 = .ok (.bipush 48, 2) := by decide +kernel
theorem dX9_goes_3 : decode cX9_goes 3 = .ok (.isub, 1) := by decide +kernel
theorem dX9_goes_4 : decode cX9_goes 4 = .ok (.istore_n 2, 1) := by decide +kernel
theorem dX9_goes_5 : decode cX9_goes 5 = .ok (.iload_n 2, 1) := by decide +kernel
theorem dX9_goes_6 : decode cX9_goes 6 = .ok (.iconst 0, 1) := by decide +kernel
theorem dX9_goes_7 : decode cX9_goes 7 = .ok (.bipush 9, 2) := by decide +kernel
theorem dX9_goes_9 : decode cX9_goes 9 = .ok (.invokestatic 32, 3) := by decide +kernel
theorem dX9_goes_12 : decode cX9_goes 12 = .ok (.istore_n 3, 1) := by decide +kernel
theorem dX9_goes_13 : decode cX9_goes 13 = .ok (.aload_n 0, 1) := by decide +kernel
theorem dX9_goes_14 : decode cX9_goes 14 = .ok (.getfield 110, 3) := by decide +kernel
theorem dX9_goes_17 : decode cX9_goes 17 = .ok (.tableswitch 189 0 7 #[47, 53, 71, 89, 95, 101, 119, 151], 47) := by decide +kernel
theorem dX9_goes_64 : decode cX9_goes 64 = .ok (.aload_n 0, 1) := by decide +kernel
theorem dX9_goes_65 : decode cX9_goes 65 = .ok (.iload_n 2, 1) := by decide +kernel
theorem dX9_goes_66 : decode cX9_goes 66 = .ok (.invokevirtual 116, 3) := by decide +kernel
theorem dX9_goes_69 : decode cX9_goes 69 = .ok (.ireturn, 1) := by decide +kernel
theorem dX9_goes_70 : decode cX9_goes 70 = .ok (.iload_n 3, 1) := by decide +kernel
theorem dX9_goes_71 : decode cX9_goes 71 = .ok (.ifCond .eq 11, 3) := by decide +kernel
theorem dX9_goes_74 : decode cX9_goes 74 = .ok (.aload_n 0, 1) := by decide +kernel
theorem dX9_goes_75 : decode cX9_goes 75 = .ok (.iload_n 2, 1) := by decide +kernel
theorem dX9_goes_76 : decode cX9_goes 76 = .ok (.invokevirtual 119, 3) := by decide +kernel
theorem dX9_goes_79 : decode cX9_goes 79 = .ok (.goto 8, 3) := by decide +kernel
theorem dX9_goes_82 : decode cX9_goes 82 = .ok (.aload_n 0, 1) := by decide +kernel
theorem dX9_goes_83 : decode cX9_goes 83 = .ok (.iload_n 1, 1) := by decide +kernel
theorem dX9_goes_84 : decode cX9_goes 84 = .ok (.invokevirtual 122, 3) := by decide +kernel
theorem dX9_goes_87 : decode cX9_goes 87 = .ok (.ireturn, 1) := by decide +kernel
theorem dX9_goes_88 : decode cX9_goes 88 = .ok (.iload_n 2, 1) := by decide +kernel
theorem dX9_goes_89 : decode cX9_goes 89 = .ok (.ifCond .ne 11, 3) := by decide +kernel
theorem dX9_goes_92 : decode cX9_goes 92 = .ok (.aload_n 0, 1) := by decide +kernel
theorem dX9_goes_93 : decode cX9_goes 93 = .ok (.iload_n 2, 1) := by decide +kernel
theorem dX9_goes_94 : decode cX9_goes 94 = .ok (.invokevirtual 119, 3) := by decide +kernel
theorem dX9_goes_97 : decode cX9_goes 97 = .ok (.goto 8, 3) := by decide +kernel
theorem dX9_goes_100 : decode cX9_goes 100 = .ok (.aload_n 0, 1) := by decide +kernel
theorem dX9_goes_101 : decode cX9_goes 101 = .ok (.iload_n 1, 1) := by decide +kernel
theorem dX9_goes_102 : decode cX9_goes 102 = .ok (.invokevirtual 122, 3) := by decide +kernel
theorem dX9_goes_105 : decode cX9_goes 105 = .ok (.ireturn, 1) := by decide +kernel
theorem dX9_goes_106 : decode cX9_goes 106 = .ok (.aload_n 0, 1) := by decide +kernel
theorem dX9_goes_107 : decode cX9_goes 107 = .ok (.iload_n 1, 1) := by decide +kernel
theorem dX9_goes_108 : decode cX9_goes 108 = .ok (.invokevirtual 122, 3) := by decide +kernel
theorem dX9_goes_111 : decode cX9_goes 111 = .ok (.ireturn, 1) := by decide +kernel
theorem dX9_goes_112 : decode cX9_goes 112 = .ok (.aload_n 0, 1) := by decide +kernel
theorem dX9_goes_113 : decode cX9_goes 113 = .ok (.iload_n 2, 1) := by decide +kernel
theorem dX9_goes_114 : decode cX9_goes 114 = .ok (.invokevirtual 125, 3) := by decide +kernel
theorem dX9_goes_117 : decode cX9_goes 117 = .ok (.ireturn, 1) := by decide +kernel
theorem dX9_goes_118 : decode cX9_goes 118 = .ok (.iload_n 3, 1) := by decide +kernel
theorem dX9_goes_119 : decode cX9_goes 119 = .ok (.ifCond .eq 15, 3) := by decide +kernel
theorem dX9_goes_122 : decode cX9_goes 122 = .ok (.aload_n 0, 1) := by decide +kernel
theorem dX9_goes_123 : decode cX9_goes 123 = .ok (.iload_n 2, 1) := by decide +kernel
theorem dX9_goes_124 : decode cX9_goes 124 = .ok (.invokevirtual 128, 3) := by decide +kernel
theorem dX9_goes_127 : decode cX9_goes 127 = .ok (.ifCond .eq 7, 3) := by decide +kernel
theorem dX9_goes_130 : decode cX9_goes 130 = .ok (.iconst 1, 1) := by decide +kernel
theorem dX9_goes_131 : decode cX9_goes 131 = .ok (.goto 4, 3) := by decide +kernel
theorem dX9_goes_134 : decode cX9_goes 134 = .ok (.iconst 0, 1) := by decide +kernel
theorem dX9_goes_135 : decode cX9_goes 135 = .ok (.ireturn, 1) := by decide +kernel
theorem dX9_goes_136 : decode cX9_goes 136 = .ok (.iload_n 3, 1) := by decide +kernel
theorem dX9_goes_137 : decode cX9_goes 137 = .ok (.ifCond .eq 11, 3) := by decide +kernel
theorem dX9_goes_140 : decode cX9_goes 140 = .ok (.aload_n 0, 1) := by decide +kernel
theorem dX9_goes_141 : decode cX9_goes 141 = .ok (.iload_n 2, 1) := by decide +kernel
theorem dX9_goes_142 : decode cX9_goes 142 = .ok (.invokevirtual 128, 3) := by decide +kernel
theorem dX9_goes_145 : decode cX9_goes 145 = .ok (.goto 22, 3) := by decide +kernel
theorem dX9_goes_148 : decode cX9_goes 148 = .ok (.iload_n 1, 1) := by decide +kernel
theorem dX9_goes_149 : decode cX9_goes 149 = .ok (.bipush 44, 2) := by decide +kernel
theorem dX9_goes_151 : decode cX9_goes 151 = .ok (.if_icmp .ne 15, 3) := by decide +kernel
theorem dX9_goes_154 : decode cX9_goes 154 = .ok (.aload_n 0, 1) := by decide +kernel
theorem dX9_goes_155 : decode cX9_goes 155 = .ok (.iload_n 1, 1) := by decide +kernel
theorem dX9_goes_156 : decode cX9_goes 156 = .ok (.invokevirtual 122, 3) := by decide +kernel
theorem dX9_goes_159 : decode cX9_goes 159 = .ok (.ifCond .eq 7, 3) := by decide +kernel
theorem dX9_goes_162 : decode cX9_goes 162 = .ok (.iconst 1, 1) := by decide +kernel
theorem dX9_goes_163 : decode cX9_goes 163 = .ok (.goto 4, 3) := by decide +kernel
theorem dX9_goes_166 : decode cX9_goes 166 = .ok (.iconst 0, 1) := by decide +kernel
theorem dX9_goes_167 : decode cX9_goes 167 = .ok (.ireturn, 1) := by decide +kernel
theorem dX9_goes_168 : decode cX9_goes 168 = .ok (.iload_n 2, 1) := by decide +kernel
theorem dX9_goes_169 : decode cX9_goes 169 = .ok (.iconst 0, 1) := by decide +kernel
theorem dX9_goes_170 : decode cX9_goes 170 = .ok (.bipush 8, 2) := by decide +kernel
theorem dX9_goes_172 : decode cX9_goes 172 = .ok (.invokestatic 32, 3) := by decide +kernel
theorem dX9_goes_175 : decode cX9_goes 175 = .ok (.ifCond .eq 11, 3) := by decide +kernel
theorem dX9_goes_178 : decode cX9_goes 178 = .ok (.aload_n 0, 1) := by decide +kernel
theorem dX9_goes_179 : decode cX9_goes 179 = .ok (.iload_n 2, 1) := by decide +kernel
theorem dX9_goes_180 : decode cX9_goes 180 = .ok (.invokevirtual 128, 3) := by decide +kernel
theorem dX9_goes_183 : decode cX9_goes 183 = .ok (.goto 22, 3) := by decide +kernel
theorem dX9_goes_186 : decode cX9_goes 186 = .ok (.iload_n 1, 1) := by decide +kernel
theorem dX9_goes_187 : decode cX9_goes 187 = .ok (.bipush 44, 2) := by decide +kernel
theorem dX9_goes_189 : decode cX9_goes 189 = .ok (.if_icmp .ne 15, 3) := by decide +kernel
theorem dX9_goes_192 : decode cX9_goes 192 = .ok (.aload_n 0, 1) := by decide +kernel
theorem dX9_goes_193 : decode cX9_goes 193 = .ok (.iload_n 1, 1) := by decide +kernel
theorem dX9_goes_194 : decode cX9_goes 194 = .ok (.invokevirtual 122, 3) := by decide +kernel
theorem dX9_goes_197 : decode cX9_goes 197 = .ok (.ifCond .eq 7, 3) := by decide +kernel
theorem dX9_goes_200 : decode cX9_goes 200 = .ok (.iconst 1, 1) := by decide +kernel
theorem dX9_goes_201 : decode cX9_goes 201 = .ok (.goto 4, 3) := by decide +kernel
theorem dX9_goes_204 : decode cX9_goes 204 = .ok (.iconst 0, 1) := by decide +kernel
theorem dX9_goes_205 : decode cX9_goes 205 = .ok (.ireturn, 1) := by decide +kernel
theorem dX9_goes_206 : decode cX9_goes 206 = .ok (.iload_n 1, 1) := by decide +kernel
theorem dX9_goes_207 : decode cX9_goes 207 = .ok (.bipush 44, 2) := by decide +kernel
theorem dX9_goes_209 : decode cX9_goes 209 = .ok (.if_icmp .ne 15, 3) := by decide +kernel
theorem dX9_goes_212 : decode cX9_goes 212 = .ok (.aload_n 0, 1) := by decide +kernel
theorem dX9_goes_213 : decode cX9_goes 213 = .ok (.iload_n 1, 1) := by decide +kernel
theorem dX9_goes_214 : decode cX9_goes 214 = .ok (.invokevirtual 122, 3) := by decide +kernel
theorem dX9_goes_217 : decode cX9_goes 217 = .ok (.ifCond .eq 7, 3) := by decide +kernel
theorem dX9_goes_220 : decode cX9_goes 220 = .ok (.iconst 1, 1) := by decide +kernel
theorem dX9_goes_221 : decode cX9_goes 221 = .ok (.goto 4, 3) := by decide +kernel
theorem dX9_goes_224 : decode cX9_goes 224 = .ok (.iconst 0, 1) := by decide +kernel
theorem dX9_goes_225 : decode cX9_goes 225 = .ok (.ireturn, 1) := by decide +kernel
set_option maxRecDepth 20000 in
theorem ggX9_readText_X9_goes : GoodIn wsX9_readText wsX9_goes := goodIn_r _ [10, 1, 11, 12, 9, 13, 14, 15, 16, 17, 18, 19, 20, 21, 22, 23, 24, 25, 26, 27, 28, 29, 30, 31, 2, 32, 33, 34, 35, 36, 37, 38, 39, 40, 41, 42, 43, 44, 45, 46, 47, 48, 49, 50, 51, 52, 53, 54, 55] (by decide +kernel) (by decide +kernel)
set_option maxRecDepth 20000 in
theorem gX9_readText_X9_goes : GoodIn wsX9_readText (wsV RX9 135 RX9 yX9_goes wsX9_goes) := goodIn_app (goodIn_of _ (by decide +kernel)) ggX9_readText_X9_goes
set_option maxRecDepth 20000 in
theorem ggX9_readText_X9_close : GoodIn wsX9_readText wsX9_close := goodIn_r _ [31, 19, 2, 32, 18, 41, 42, 43, 44, 45, 46, 47, 48, 49, 50, 51, 52, 53, 54, 55] (by decide +kernel) (by decide +kernel)
set_option maxRecDepth 20000 in
theorem gX9_readText_X9_close : GoodIn wsX9_readText (wsV RX9 113 RX9 yX9_close wsX9_close) := goodIn_app (goodIn_of _ (by decide +kernel)) ggX9_readText_X9_close
theorem dX9_readText_0 : decode cX9_readText 0 = .ok (.aload_n 0, 1) := by decide +kernel
theorem dX9_readText_1 : decode cX9_readText 1 = .ok (.iconst 0, 1) := by decide +kernel
theorem dX9_readText_2 : decode cX9_readText 2 = .ok (.putfield 110, 3) := by decide +kernel
theorem dX9_readText_5 : decode cX9_readText 5 = .ok (.aload_n 0, 1) := by decide +kernel
theorem dX9_readText_6 : decode cX9_readText 6 = .ok (.iconst 0, 1) := by decide +kernel
theorem dX9_readText_7 : decode cX9_readText 7 = .ok (.putfield 104, 3) := by decide +kernel
theorem dX9_readText_10 : decode cX9_readText 10 = .ok (.aload_n 0, 1) := by decide +kernel
theorem dX9_readText_11 : decode cX9_readText 11 = .ok (.iconst 0, 1) := by decide +kernel
theorem dX9_readText_12 : decode cX9_readText 12 = .ok (.putfield 131, 3) := by decide +kernel
theorem dX9_readText_15 : decode cX9_readText 15 = .ok (.iconst 0, 1) := by decide +kernel
theorem dX9_readText_16 : decode cX9_readText 16 = .ok (.istore_n 1, 1) := by decide +kernel
theorem dX9_readText_17 : decode cX9_readText 17 = .ok (.iload_n 1, 1) := by decide +kernel
theorem dX9_readText_18 : decode cX9_readText 18 = .ok (.aload_n 0, 1) := by decide +kernel
theorem dX9_readText_19 : decode cX9_readText 19 = .ok (.getfield 98, 3) := by decide +kernel
theorem dX9_readText_22 : decode cX9_readText 22 = .ok (.if_icmp .ge 24, 3) := by decide +kernel
theorem dX9_readText_25 : decode cX9_readText 25 = .ok (.aload_n 0, 1) := by decide +kernel
theorem dX9_readText_26 : decode cX9_readText 26 = .ok (.aload_n 0, 1) := by decide +kernel
theorem dX9_readText_27 : decode cX9_readText 27 = .ok (.getfield 19, 3) := by decide +kernel
theorem dX9_readText_30 : decode cX9_readText 30 = .ok (.iload_n 1, 1) := by decide +kernel
theorem dX9_readText_31 : decode cX9_readText 31 = .ok (.iaload, 1) := by decide +kernel
theorem dX9_readText_32 : decode cX9_readText 32 = .ok (.invokevirtual 135, 3) := by decide +kernel
theorem dX9_readText_35 : decode cX9_readText 35 = .ok (.ifCond .ne 5, 3) := by decide +kernel
theorem dX9_readText_38 : decode cX9_readText 38 = .ok (.iload_n 1, 1) := by decide +kernel
theorem dX9_readText_39 : decode cX9_readText 39 = .ok (.ireturn, 1) := by decide +kernel
theorem dX9_readText_40 : decode cX9_readText 40 = .ok (.iinc 1 1, 3) := by decide +kernel
theorem dX9_readText_43 : decode cX9_readText 43 = .ok (.goto (-26), 3) := by decide +kernel
theorem dX9_readText_46 : decode cX9_readText 46 = .ok (.aload_n 0, 1) := by decide +kernel
theorem dX9_readText_47 : decode cX9_readText 47 = .ok (.aload_n 0, 1) := by decide +kernel
theorem dX9_readText_48 : decode cX9_readText 48 = .ok (.getfield 110, 3) := by decide +kernel
theorem dX9_readText_51 : decode cX9_readText 51 = .ok (.ifCond .eq 23, 3) := by decide +kernel
theorem dX9_readText_54 : decode cX9_readText 54 = .ok (.aload_n 0, 1) := by decide +kernel
theorem dX9_readText_55 : decode cX9_readText 55 = .ok (.getfield 110, 3) := by decide +kernel
theorem dX9_readText_58 : decode cX9_readText 58 = .ok (.iconst 4, 1) := by decide +kernel
theorem dX9_readText_59 : decode cX9_readText 59 = .ok (.if_icmp .eq 15, 3) := by decide +kernel
theorem dX9_readText_62 : decode cX9_readText 62 = .ok (.aload_n 0, 1) := by decide +kernel
theorem dX9_readText_63 : decode cX9_readText 63 = .ok (.getfield 110, 3) := by decide +kernel
theorem dX9_readText_66 : decode cX9_readText 66 = .ok (.iconst 5, 1) := by decide +kernel
theorem dX9_readText_67 : decode cX9_readText 67 = .ok (.if_icmp .eq 7, 3) := by decide +kernel
theorem dX9_readText_70 : decode cX9_readText 70 = .ok (.iconst 1, 1) := by decide +kernel
theorem dX9_readText_71 : decode cX9_readText 71 = .ok (.goto 4, 3) := by decide +kernel
theorem dX9_readText_74 : decode cX9_readText 74 = .ok (.iconst 0, 1) := by decide +kernel
theorem dX9_readText_75 : decode cX9_readText 75 = .ok (.putfield 131, 3) := by decide +kernel
theorem dX9_readText_78 : decode cX9_readText 78 = .ok (.aload_n 0, 1) := by decide +kernel
theorem dX9_readText_79 : decode cX9_readText 79 = .ok (.getfield 131, 3) := by decide +kernel
theorem dX9_readText_82 : decode cX9_readText 82 = .ok (.ifCond .eq 7, 3) := by decide +kernel
theorem dX9_readText_85 : decode cX9_readText 85 = .ok (.aload_n 0, 1) := by decide +kernel
theorem dX9_readText_86 : decode cX9_readText 86 = .ok (.invokevirtual 113, 3) := by decide +kernel
theorem dX9_readText_89 : decode cX9_readText 89 = .ok (.aload_n 0, 1) := by decide +kernel
theorem dX9_readText_90 : decode cX9_readText 90 = .ok (.getfield 98, 3) := by decide +kernel
theorem dX9_readText_93 : decode cX9_readText 93 = .ok (.ireturn, 1) := by decide +kernel
set_option maxRecDepth 20000 in
theorem ggX9_firstError_X9_readText : GoodIn wsX9_firstError wsX9_readText := goodIn_r _ [6, 7, 8, 9, 10, 11, 12, 13, 14, 5, 15, 16, 17, 18, 19, 20, 21, 22, 23, 24, 25, 26, 27, 28, 29, 30, 31, 32, 33, 34, 35, 36, 37, 38, 39, 40, 41, 42, 43, 44, 45, 46, 47, 48, 49, 50, 51, 52, 53, 54, 55, 56, 57, 58, 59, 60] (by decide +kernel) (by decide +kernel)
set_option maxRecDepth 20000 in
theorem gX9_firstError_X9_readText : GoodIn wsX9_firstError (wsV RX9 138 RX9 yX9_readText wsX9_readText) := goodIn_app (goodIn_of _ (by decide +kernel)) ggX9_firstError_X9_readText
theorem dX9_firstError_0 : decode cX9_firstError 0 = .ok (.aload_n 0, 1) := by decide +kernel
theorem dX9_firstError_1 : decode cX9_firstError 1 = .ok (.iconst 0, 1) := by decide +kernel
theorem dX9_firstError_2 : decode cX9_firstError 2 = .ok (.putfield 28, 3) := by decide +kernel
theorem dX9_firstError_5 : decode cX9_firstError 5 = .ok (.aload_n 0, 1) := by decide +kernel
theorem dX9_firstError_6 : decode cX9_firstError 6 = .ok (.invokevirtual 138, 3) := by decide +kernel
theorem dX9_firstError_9 : decode cX9_firstError 9 = .ok (.ireturn, 1) := by decide +kernel
set_option maxRecDepth 20000 in
theorem ggX9_load_X9_readText : GoodIn wsX9_load wsX9_readText := goodIn_r _ [11, 12, 3, 2, 4, 13, 14, 15, 16, 10, 17, 18, 19, 20, 21, 22, 23, 24, 25, 26, 27, 28, 29, 30, 31, 32, 33, 34, 35, 36, 37, 38, 6, 39, 40, 41, 42, 43, 44, 45, 46, 57, 58, 59, 60, 61, 62, 63, 64, 65, 66, 67, 68, 69, 70, 71] (by decide +kernel) (by decide +kernel)
set_option maxRecDepth 20000 in
theorem gX9_load_X9_readText : GoodIn wsX9_load (wsV RX9 138 RX9 yX9_readText wsX9_readText) := goodIn_app (goodIn_of _ (by decide +kernel)) ggX9_load_X9_readText
set_option maxRecDepth 20000 in
theorem ggX9_load_X9_fails : GoodIn wsX9_load wsX9_fails := goodIn_r _ [50, 1, 57, 58, 59, 60, 61, 62, 63, 64, 65, 66, 67, 68, 69, 70, 71] (by decide +kernel) (by decide +kernel)
set_option maxRecDepth 20000 in
theorem gX9_load_X9_fails : GoodIn wsX9_load (wsV RX9 76 RX9 yX9_fails wsX9_fails) := goodIn_app (goodIn_of _ (by decide +kernel)) ggX9_load_X9_fails
set_option maxRecDepth 20000 in
theorem ggX9_load_X9_save : GoodIn wsX9_load wsX9_save := goodIn_r _ [54, 55, 56, 5, 57, 58, 59, 60, 61, 62, 63, 64, 65, 66, 67, 68, 69, 70, 71] (by decide +kernel) (by decide +kernel)
set_option maxRecDepth 20000 in
theorem gX9_load_X9_save : GoodIn wsX9_load (wsV RX9 79 RX9 yX9_save wsX9_save) := goodIn_app (goodIn_of _ (by decide +kernel)) ggX9_load_X9_save
theorem dX9_load_0 : decode cX9_load 0 = .ok (.aload_n 0, 1) := by decide +kernel
theorem dX9_load_1 : decode cX9_load 1 = .ok (.iconst 0, 1) := by decide +kernel
theorem dX9_load_2 : decode cX9_load 2 = .ok (.putfield 28, 3) := by decide +kernel
theorem dX9_load_5 : decode cX9_load 5 = .ok (.aload_n 0, 1) := by decide +kernel
theorem dX9_load_6 : decode cX9_load 6 = .ok (.invokevirtual 138, 3) := by decide +kernel
theorem dX9_load_9 : decode cX9_load 9 = .ok (.pop, 1) := by decide +kernel
theorem dX9_load_10 : decode cX9_load 10 = .ok (.aload_n 0, 1) := by decide +kernel
theorem dX9_load_11 : decode cX9_load 11 = .ok (.getfield 131, 3) := by decide +kernel
theorem dX9_load_14 : decode cX9_load 14 = .ok (.ifCond .ne 9, 3) := by decide +kernel
theorem dX9_load_17 : decode cX9_load 17 = .ok (.aload_n 0, 1) := by decide +kernel
theorem dX9_load_18 : decode cX9_load 18 = .ok (.iconst 1, 1) := by decide +kernel
theorem dX9_load_19 : decode cX9_load 19 = .ok (.invokevirtual 76, 3) := by decide +kernel
theorem dX9_load_22 : decode cX9_load 22 = .ok (.ireturn, 1) := by decide +kernel
theorem dX9_load_23 : decode cX9_load 23 = .ok (.aload_n 0, 1) := by decide +kernel
theorem dX9_load_24 : decode cX9_load 24 = .ok (.getfield 104, 3) := by decide +kernel
theorem dX9_load_27 : decode cX9_load 27 = .ok (.bipush 48, 2) := by decide +kernel
theorem dX9_load_29 : decode cX9_load 29 = .ok (.if_icmp .le 9, 3) := by decide +kernel
theorem dX9_load_32 : decode cX9_load 32 = .ok (.aload_n 0, 1) := by decide +kernel
theorem dX9_load_33 : decode cX9_load 33 = .ok (.iconst 2, 1) := by decide +kernel
theorem dX9_load_34 : decode cX9_load 34 = .ok (.invokevirtual 76, 3) := by decide +kernel
theorem dX9_load_37 : decode cX9_load 37 = .ok (.ireturn, 1) := by decide +kernel
theorem dX9_load_38 : decode cX9_load 38 = .ok (.aload_n 0, 1) := by decide +kernel
theorem dX9_load_39 : decode cX9_load 39 = .ok (.invokevirtual 79, 3) := by decide +kernel
theorem dX9_load_42 : decode cX9_load 42 = .ok (.aload_n 0, 1) := by decide +kernel
theorem dX9_load_43 : decode cX9_load 43 = .ok (.iconst 0, 1) := by decide +kernel
theorem dX9_load_44 : decode cX9_load 44 = .ok (.putfield 98, 3) := by decide +kernel
theorem dX9_load_47 : decode cX9_load 47 = .ok (.aload_n 0, 1) := by decide +kernel
theorem dX9_load_48 : decode cX9_load 48 = .ok (.getfield 7, 3) := by decide +kernel
theorem dX9_load_51 : decode cX9_load 51 = .ok (.bipush 78, 2) := by decide +kernel
theorem dX9_load_53 : decode cX9_load 53 = .ok (.aload_n 0, 1) := by decide +kernel
theorem dX9_load_54 : decode cX9_load 54 = .ok (.getfield 104, 3) := by decide +kernel
theorem dX9_load_57 : decode cX9_load 57 = .ok (.iastore, 1) := by decide +kernel
theorem dX9_load_58 : decode cX9_load 58 = .ok (.iconst 0, 1) := by decide +kernel
theorem dX9_load_59 : decode cX9_load 59 = .ok (.istore_n 1, 1) := by decide +kernel
theorem dX9_load_60 : decode cX9_load 60 = .ok (.iload_n 1, 1) := by decide +kernel
theorem dX9_load_61 : decode cX9_load 61 = .ok (.bipush 48, 2) := by decide +kernel
theorem dX9_load_63 : decode cX9_load 63 = .ok (.if_icmp .ge 36, 3) := by decide +kernel
theorem dX9_load_66 : decode cX9_load 66 = .ok (.aload_n 0, 1) := by decide +kernel
theorem dX9_load_67 : decode cX9_load 67 = .ok (.getfield 7, 3) := by decide +kernel
theorem dX9_load_70 : decode cX9_load 70 = .ok (.bipush 79, 2) := by decide +kernel
theorem dX9_load_72 : decode cX9_load 72 = .ok (.iload_n 1, 1) := by decide +kernel
theorem dX9_load_73 : decode cX9_load 73 = .ok (.iadd, 1) := by decide +kernel
theorem dX9_load_74 : decode cX9_load 74 = .ok (.iload_n 1, 1) := by decide +kernel
theorem dX9_load_75 : decode cX9_load 75 = .ok (.aload_n 0, 1) := by decide +kernel
theorem dX9_load_76 : decode cX9_load 76 = .ok (.getfield 104, 3) := by decide +kernel
theorem dX9_load_79 : decode cX9_load 79 = .ok (.if_icmp .ge 12, 3) := by decide +kernel
theorem dX9_load_82 : decode cX9_load 82 = .ok (.aload_n 0, 1) := by decide +kernel
theorem dX9_load_83 : decode cX9_load 83 = .ok (.getfield 25, 3) := by decide +kernel
theorem dX9_load_86 : decode cX9_load 86 = .ok (.iload_n 1, 1) := by decide +kernel
theorem dX9_load_87 : decode cX9_load 87 = .ok (.iaload, 1) := by decide +kernel
theorem dX9_load_88 : decode cX9_load 88 = .ok (.goto 4, 3) := by decide +kernel
theorem dX9_load_91 : decode cX9_load 91 = .ok (.iconst 0, 1) := by decide +kernel
theorem dX9_load_92 : decode cX9_load 92 = .ok (.iastore, 1) := by decide +kernel
theorem dX9_load_93 : decode cX9_load 93 = .ok (.iinc 1 1, 3) := by decide +kernel
theorem dX9_load_96 : decode cX9_load 96 = .ok (.goto (-36), 3) := by decide +kernel
theorem dX9_load_99 : decode cX9_load 99 = .ok (.aload_n 0, 1) := by decide +kernel
theorem dX9_load_100 : decode cX9_load 100 = .ok (.getfield 104, 3) := by decide +kernel
theorem dX9_load_103 : decode cX9_load 103 = .ok (.ireturn, 1) := by decide +kernel
set_option maxRecDepth 20000 in
theorem ggX9_undo_X9_fails : GoodIn wsX9_undo wsX9_fails := goodIn_r _ [9, 1, 10, 11, 12, 13, 14, 15, 16, 17, 18, 19, 20, 21, 22, 23, 24] (by decide +kernel) (by decide +kernel)
set_option maxRecDepth 20000 in
theorem gX9_undo_X9_fails : GoodIn wsX9_undo (wsV RX9 76 RX9 yX9_fails wsX9_fails) := goodIn_app (goodIn_of _ (by decide +kernel)) ggX9_undo_X9_fails
theorem dX9_undo_0 : decode cX9_undo 0 = .ok (.aload_n 0, 1) := by decide +kernel
theorem dX9_undo_1 : decode cX9_undo 1 = .ok (.iconst 0, 1) := by decide +kernel
theorem dX9_undo_2 : decode cX9_undo 2 = .ok (.putfield 28, 3) := by decide +kernel
theorem dX9_undo_5 : decode cX9_undo 5 = .ok (.aload_n 0, 1) := by decide +kernel
theorem dX9_undo_6 : decode cX9_undo 6 = .ok (.getfield 36, 3) := by decide +kernel
theorem dX9_undo_9 : decode cX9_undo 9 = .ok (.ifCond .ne 9, 3) := by decide +kernel
theorem dX9_undo_12 : decode cX9_undo 12 = .ok (.aload_n 0, 1) := by decide +kernel
theorem dX9_undo_13 : decode cX9_undo 13 = .ok (.iconst 1, 1) := by decide +kernel
theorem dX9_undo_14 : decode cX9_undo 14 = .ok (.invokevirtual 76, 3) := by decide +kernel
theorem dX9_undo_17 : decode cX9_undo 17 = .ok (.ireturn, 1) := by decide +kernel
theorem dX9_undo_18 : decode cX9_undo 18 = .ok (.aload_n 0, 1) := by decide +kernel
theorem dX9_undo_19 : decode cX9_undo 19 = .ok (.dup, 1) := by decide +kernel
theorem dX9_undo_20 : decode cX9_undo 20 = .ok (.getfield 36, 3) := by decide +kernel
theorem dX9_undo_23 : decode cX9_undo 23 = .ok (.iconst 1, 1) := by decide +kernel
theorem dX9_undo_24 : decode cX9_undo 24 = .ok (.isub, 1) := by decide +kernel
theorem dX9_undo_25 : decode cX9_undo 25 = .ok (.putfield 36, 3) := by decide +kernel
theorem dX9_undo_28 : decode cX9_undo 28 = .ok (.iconst 0, 1) := by decide +kernel
theorem dX9_undo_29 : decode cX9_undo 29 = .ok (.istore_n 1, 1) := by decide +kernel
theorem dX9_undo_30 : decode cX9_undo 30 = .ok (.iload_n 1, 1) := by decide +kernel
theorem dX9_undo_31 : decode cX9_undo 31 = .ok (.sipush 184, 3) := by decide +kernel
theorem dX9_undo_34 : decode cX9_undo 34 = .ok (.if_icmp .ge 30, 3) := by decide +kernel
theorem dX9_undo_37 : decode cX9_undo 37 = .ok (.aload_n 0, 1) := by decide +kernel
theorem dX9_undo_38 : decode cX9_undo 38 = .ok (.getfield 7, 3) := by decide +kernel
theorem dX9_undo_41 : decode cX9_undo 41 = .ok (.iload_n 1, 1) := by decide +kernel
theorem dX9_undo_42 : decode cX9_undo 42 = .ok (.aload_n 0, 1) := by decide +kernel
theorem dX9_undo_43 : decode cX9_undo 43 = .ok (.getfield 16, 3) := by decide +kernel
theorem dX9_undo_46 : decode cX9_undo 46 = .ok (.sipush 184, 3) := by decide +kernel
theorem dX9_undo_49 : decode cX9_undo 49 = .ok (.aload_n 0, 1) := by decide +kernel
theorem dX9_undo_50 : decode cX9_undo 50 = .ok (.getfield 36, 3) := by decide +kernel
theorem dX9_undo_53 : decode cX9_undo 53 = .ok (.imul, 1) := by decide +kernel
theorem dX9_undo_54 : decode cX9_undo 54 = .ok (.iload_n 1, 1) := by decide +kernel
theorem dX9_undo_55 : decode cX9_undo 55 = .ok (.iadd, 1) := by decide +kernel
theorem dX9_undo_56 : decode cX9_undo 56 = .ok (.iaload, 1) := by decide +kernel
theorem dX9_undo_57 : decode cX9_undo 57 = .ok (.iastore, 1) := by decide +kernel
theorem dX9_undo_58 : decode cX9_undo 58 = .ok (.iinc 1 1, 3) := by decide +kernel
theorem dX9_undo_61 : decode cX9_undo 61 = .ok (.goto (-31), 3) := by decide +kernel
theorem dX9_undo_64 : decode cX9_undo 64 = .ok (.aload_n 0, 1) := by decide +kernel
theorem dX9_undo_65 : decode cX9_undo 65 = .ok (.getfield 36, 3) := by decide +kernel
theorem dX9_undo_68 : decode cX9_undo 68 = .ok (.ireturn, 1) := by decide +kernel
set_option maxRecDepth 20000 in
theorem ggX9_turbineNow_X9_limitOf : GoodIn wsX9_turbineNow wsX9_limitOf := goodIn_r _ [6, 1, 23, 24, 25, 26, 27, 28, 29, 30, 31, 32, 33, 34, 35, 36, 37] (by decide +kernel) (by decide +kernel)
set_option maxRecDepth 20000 in
theorem gX9_turbineNow_X9_limitOf : GoodIn wsX9_turbineNow (wsV RX9 47 RX9 yX9_limitOf wsX9_limitOf) := goodIn_app (goodIn_of _ (by decide +kernel)) ggX9_turbineNow_X9_limitOf
set_option maxRecDepth 20000 in
theorem ggX9_turbineNow_X9_placeOf : GoodIn wsX9_turbineNow wsX9_placeOf := goodIn_r _ [10, 1, 23, 24, 25, 26, 27, 28, 29, 30, 31, 32, 33, 34, 35, 36, 37] (by decide +kernel) (by decide +kernel)
set_option maxRecDepth 20000 in
theorem gX9_turbineNow_X9_placeOf : GoodIn wsX9_turbineNow (wsV RX9 92 RX9 yX9_placeOf wsX9_placeOf) := goodIn_app (goodIn_of _ (by decide +kernel)) ggX9_turbineNow_X9_placeOf
set_option maxRecDepth 20000 in
theorem ggX9_turbineNow_X9_ashore : GoodIn wsX9_turbineNow wsX9_ashore := goodIn_r _ [14, 1, 23, 24, 25, 26, 27, 28, 29, 30, 31, 32, 33, 34, 35, 36, 37] (by decide +kernel) (by decide +kernel)
set_option maxRecDepth 20000 in
theorem gX9_turbineNow_X9_ashore : GoodIn wsX9_turbineNow (wsV RX9 141 RX9 yX9_ashore wsX9_ashore) := goodIn_app (goodIn_of _ (by decide +kernel)) ggX9_turbineNow_X9_ashore
set_option maxRecDepth 20000 in
theorem ggX9_turbineNow_X9_windAt : GoodIn wsX9_turbineNow wsX9_windAt := goodIn_r _ [18, 1, 23, 24, 25, 26, 27, 28, 29, 30, 31, 32, 33, 34, 35, 36, 37] (by decide +kernel) (by decide +kernel)
set_option maxRecDepth 20000 in
theorem gX9_turbineNow_X9_windAt : GoodIn wsX9_turbineNow (wsV RX9 60 RX9 yX9_windAt wsX9_windAt) := goodIn_app (goodIn_of _ (by decide +kernel)) ggX9_turbineNow_X9_windAt
set_option maxRecDepth 20000 in
theorem ggX9_turbineNow_X9_full : GoodIn wsX9_turbineNow wsX9_full := goodIn_r _ [22, 1, 23, 24, 25, 26, 27, 28, 29, 30, 31, 32, 33, 34, 35, 36, 37] (by decide +kernel) (by decide +kernel)
set_option maxRecDepth 20000 in
theorem gX9_turbineNow_X9_full : GoodIn wsX9_turbineNow (wsV RX9 66 RX9 yX9_full wsX9_full) := goodIn_app (goodIn_of _ (by decide +kernel)) ggX9_turbineNow_X9_full
theorem dX9_turbineNow_0 : decode cX9_turbineNow 0 = .ok (.iload_n 2, 1) := by decide +kernel
theorem dX9_turbineNow_1 : decode cX9_turbineNow 1 = .ok (.tableswitch 142 0 9 #[55, 64, 74, 84, 94, 104, 110, 116, 122, 132], 55) := by decide +kernel
theorem dX9_turbineNow_56 : decode cX9_turbineNow 56 = .ok (.aload_n 0, 1) := by decide +kernel
theorem dX9_turbineNow_57 : decode cX9_turbineNow 57 = .ok (.getfield 7, 3) := by decide +kernel
theorem dX9_turbineNow_60 : decode cX9_turbineNow 60 = .ok (.iconst 0, 1) := by decide +kernel
theorem dX9_turbineNow_61 : decode cX9_turbineNow 61 = .ok (.iload_n 1, 1) := by decide +kernel
theorem dX9_turbineNow_62 : decode cX9_turbineNow 62 = .ok (.iadd, 1) := by decide +kernel
theorem dX9_turbineNow_63 : decode cX9_turbineNow 63 = .ok (.iaload, 1) := by decide +kernel
theorem dX9_turbineNow_64 : decode cX9_turbineNow 64 = .ok (.ireturn, 1) := by decide +kernel
theorem dX9_turbineNow_65 : decode cX9_turbineNow 65 = .ok (.aload_n 0, 1) := by decide +kernel
theorem dX9_turbineNow_66 : decode cX9_turbineNow 66 = .ok (.getfield 7, 3) := by decide +kernel
theorem dX9_turbineNow_69 : decode cX9_turbineNow 69 = .ok (.bipush 10, 2) := by decide +kernel
theorem dX9_turbineNow_71 : decode cX9_turbineNow 71 = .ok (.iload_n 1, 1) := by decide +kernel
theorem dX9_turbineNow_72 : decode cX9_turbineNow 72 = .ok (.iadd, 1) := by decide +kernel
theorem dX9_turbineNow_73 : decode cX9_turbineNow 73 = .ok (.iaload, 1) := by decide +kernel
theorem dX9_turbineNow_74 : decode cX9_turbineNow 74 = .ok (.ireturn, 1) := by decide +kernel
theorem dX9_turbineNow_75 : decode cX9_turbineNow 75 = .ok (.aload_n 0, 1) := by decide +kernel
theorem dX9_turbineNow_76 : decode cX9_turbineNow 76 = .ok (.getfield 7, 3) := by decide +kernel
theorem dX9_turbineNow_79 : decode cX9_turbineNow 79 = .ok (.bipush 20, 2) := by decide +kernel
theorem dX9_turbineNow_81 : decode cX9_turbineNow 81 = .ok (.iload_n 1, 1) := by decide +kernel
theorem dX9_turbineNow_82 : decode cX9_turbineNow 82 = .ok (.iadd, 1) := by decide +kernel
theorem dX9_turbineNow_83 : decode cX9_turbineNow 83 = .ok (.iaload, 1) := by decide +kernel
theorem dX9_turbineNow_84 : decode cX9_turbineNow 84 = .ok (.ireturn, 1) := by decide +kernel
theorem dX9_turbineNow_85 : decode cX9_turbineNow 85 = .ok (.aload_n 0, 1) := by decide +kernel
theorem dX9_turbineNow_86 : decode cX9_turbineNow 86 = .ok (.getfield 7, 3) := by decide +kernel
theorem dX9_turbineNow_89 : decode cX9_turbineNow 89 = .ok (.bipush 30, 2) := by decide +kernel
theorem dX9_turbineNow_91 : decode cX9_turbineNow 91 = .ok (.iload_n 1, 1) := by decide +kernel
theorem dX9_turbineNow_92 : decode cX9_turbineNow 92 = .ok (.iadd, 1) := by decide +kernel
theorem dX9_turbineNow_93 : decode cX9_turbineNow 93 = .ok (.iaload, 1) := by decide +kernel
theorem dX9_turbineNow_94 : decode cX9_turbineNow 94 = .ok (.ireturn, 1) := by decide +kernel
theorem dX9_turbineNow_95 : decode cX9_turbineNow 95 = .ok (.aload_n 0, 1) := by decide +kernel
theorem dX9_turbineNow_96 : decode cX9_turbineNow 96 = .ok (.getfield 7, 3) := by decide +kernel
theorem dX9_turbineNow_99 : decode cX9_turbineNow 99 = .ok (.bipush 40, 2) := by decide +kernel
theorem dX9_turbineNow_101 : decode cX9_turbineNow 101 = .ok (.iload_n 1, 1) := by decide +kernel
theorem dX9_turbineNow_102 : decode cX9_turbineNow 102 = .ok (.iadd, 1) := by decide +kernel
theorem dX9_turbineNow_103 : decode cX9_turbineNow 103 = .ok (.iaload, 1) := by decide +kernel
theorem dX9_turbineNow_104 : decode cX9_turbineNow 104 = .ok (.ireturn, 1) := by decide +kernel
theorem dX9_turbineNow_105 : decode cX9_turbineNow 105 = .ok (.aload_n 0, 1) := by decide +kernel
theorem dX9_turbineNow_106 : decode cX9_turbineNow 106 = .ok (.iload_n 1, 1) := by decide +kernel
theorem dX9_turbineNow_107 : decode cX9_turbineNow 107 = .ok (.invokevirtual 47, 3) := by decide +kernel
theorem dX9_turbineNow_110 : decode cX9_turbineNow 110 = .ok (.ireturn, 1) := by decide +kernel
theorem dX9_turbineNow_111 : decode cX9_turbineNow 111 = .ok (.aload_n 0, 1) := by decide +kernel
theorem dX9_turbineNow_112 : decode cX9_turbineNow 112 = .ok (.iload_n 1, 1) := by decide +kernel
theorem dX9_turbineNow_113 : decode cX9_turbineNow 113 = .ok (.invokevirtual 92, 3) := by decide +kernel
theorem dX9_turbineNow_116 : decode cX9_turbineNow 116 = .ok (.ireturn, 1) := by decide +kernel
theorem dX9_turbineNow_117 : decode cX9_turbineNow 117 = .ok (.aload_n 0, 1) := by decide +kernel
theorem dX9_turbineNow_118 : decode cX9_turbineNow 118 = .ok (.iload_n 1, 1) := by decide +kernel
theorem dX9_turbineNow_119 : decode cX9_turbineNow 119 = .ok (.invokevirtual 141, 3) := by decide +kernel
theorem dX9_turbineNow_122 : decode cX9_turbineNow 122 = .ok (.ireturn, 1) := by decide +kernel
theorem dX9_turbineNow_123 : decode cX9_turbineNow 123 = .ok (.aload_n 0, 1) := by decide +kernel
theorem dX9_turbineNow_124 : decode cX9_turbineNow 124 = .ok (.getfield 7, 3) := by decide +kernel
theorem dX9_turbineNow_127 : decode cX9_turbineNow 127 = .ok (.bipush 50, 2) := by decide +kernel
theorem dX9_turbineNow_129 : decode cX9_turbineNow 129 = .ok (.iload_n 1, 1) := by decide +kernel
theorem dX9_turbineNow_130 : decode cX9_turbineNow 130 = .ok (.iadd, 1) := by decide +kernel
theorem dX9_turbineNow_131 : decode cX9_turbineNow 131 = .ok (.iaload, 1) := by decide +kernel
theorem dX9_turbineNow_132 : decode cX9_turbineNow 132 = .ok (.ireturn, 1) := by decide +kernel
theorem dX9_turbineNow_133 : decode cX9_turbineNow 133 = .ok (.aload_n 0, 1) := by decide +kernel
theorem dX9_turbineNow_134 : decode cX9_turbineNow 134 = .ok (.getfield 7, 3) := by decide +kernel
theorem dX9_turbineNow_137 : decode cX9_turbineNow 137 = .ok (.bipush 60, 2) := by decide +kernel
theorem dX9_turbineNow_139 : decode cX9_turbineNow 139 = .ok (.iload_n 1, 1) := by decide +kernel
theorem dX9_turbineNow_140 : decode cX9_turbineNow 140 = .ok (.iadd, 1) := by decide +kernel
theorem dX9_turbineNow_141 : decode cX9_turbineNow 141 = .ok (.iaload, 1) := by decide +kernel
theorem dX9_turbineNow_142 : decode cX9_turbineNow 142 = .ok (.ireturn, 1) := by decide +kernel
theorem dX9_turbineNow_143 : decode cX9_turbineNow 143 = .ok (.aload_n 0, 1) := by decide +kernel
theorem dX9_turbineNow_144 : decode cX9_turbineNow 144 = .ok (.iload_n 1, 1) := by decide +kernel
theorem dX9_turbineNow_145 : decode cX9_turbineNow 145 = .ok (.aload_n 0, 1) := by decide +kernel
theorem dX9_turbineNow_146 : decode cX9_turbineNow 146 = .ok (.aload_n 0, 1) := by decide +kernel
theorem dX9_turbineNow_147 : decode cX9_turbineNow 147 = .ok (.getfield 7, 3) := by decide +kernel
theorem dX9_turbineNow_150 : decode cX9_turbineNow 150 = .ok (.sipush 182, 3) := by decide +kernel
theorem dX9_turbineNow_153 : decode cX9_turbineNow 153 = .ok (.iaload, 1) := by decide +kernel
theorem dX9_turbineNow_154 : decode cX9_turbineNow 154 = .ok (.invokevirtual 60, 3) := by decide +kernel
theorem dX9_turbineNow_157 : decode cX9_turbineNow 157 = .ok (.invokevirtual 66, 3) := by decide +kernel
theorem dX9_turbineNow_160 : decode cX9_turbineNow 160 = .ok (.ireturn, 1) := by decide +kernel
theorem dX9_ashore_0 : decode cX9_ashore 0 = .ok (.iconst 0, 1) := by decide +kernel
theorem dX9_ashore_1 : decode cX9_ashore 1 = .ok (.istore_n 2, 1) := by decide +kernel
theorem dX9_ashore_2 : decode cX9_ashore 2 = .ok (.iconst 0, 1) := by decide +kernel
theorem dX9_ashore_3 : decode cX9_ashore 3 = .ok (.istore_n 3, 1) := by decide +kernel
theorem dX9_ashore_4 : decode cX9_ashore 4 = .ok (.iload_n 3, 1) := by decide +kernel
theorem dX9_ashore_5 : decode cX9_ashore 5 = .ok (.aload_n 0, 1) := by decide +kernel
theorem dX9_ashore_6 : decode cX9_ashore 6 = .ok (.getfield 7, 3) := by decide +kernel
theorem dX9_ashore_9 : decode cX9_ashore 9 = .ok (.sipush 156, 3) := by decide +kernel
theorem dX9_ashore_12 : decode cX9_ashore 12 = .ok (.iaload, 1) := by decide +kernel
theorem dX9_ashore_13 : decode cX9_ashore 13 = .ok (.if_icmp .ge 44, 3) := by decide +kernel
theorem dX9_ashore_16 : decode cX9_ashore 16 = .ok (.iload_n 2, 1) := by decide +kernel
theorem dX9_ashore_17 : decode cX9_ashore 17 = .ok (.aload_n 0, 1) := by decide +kernel
theorem dX9_ashore_18 : decode cX9_ashore 18 = .ok (.getfield 7, 3) := by decide +kernel
theorem dX9_ashore_21 : decode cX9_ashore 21 = .ok (.sipush 157, 3) := by decide +kernel
theorem dX9_ashore_24 : decode cX9_ashore 24 = .ok (.iload_n 3, 1) := by decide +kernel
theorem dX9_ashore_25 : decode cX9_ashore 25 = .ok (.iadd, 1) := by decide +kernel
theorem dX9_ashore_26 : decode cX9_ashore 26 = .ok (.iaload, 1) := by decide +kernel
theorem dX9_ashore_27 : decode cX9_ashore 27 = .ok (.iload_n 1, 1) := by decide +kernel
theorem dX9_ashore_28 : decode cX9_ashore 28 = .ok (.if_icmp .ne 20, 3) := by decide +kernel
theorem dX9_ashore_31 : decode cX9_ashore 31 = .ok (.aload_n 0, 1) := by decide +kernel
theorem dX9_ashore_32 : decode cX9_ashore 32 = .ok (.getfield 7, 3) := by decide +kernel
theorem dX9_ashore_35 : decode cX9_ashore 35 = .ok (.sipush 167, 3) := by decide +kernel
theorem dX9_ashore_38 : decode cX9_ashore 38 = .ok (.iload_n 3, 1) := by decide +kernel
theorem dX9_ashore_39 : decode cX9_ashore 39 = .ok (.iadd, 1) := by decide +kernel
theorem dX9_ashore_40 : decode cX9_ashore 40 = .ok (.iaload, 1) := by decide +kernel
theorem dX9_ashore_41 : decode cX9_ashore 41 = .ok (.ifCond .ne 7, 3) := by decide +kernel
theorem dX9_ashore_44 : decode cX9_ashore 44 = .ok (.iconst 1, 1) := by decide +kernel
theorem dX9_ashore_45 : decode cX9_ashore 45 = .ok (.goto 4, 3) := by decide +kernel
theorem dX9_ashore_48 : decode cX9_ashore 48 = .ok (.iconst 0, 1) := by decide +kernel
theorem dX9_ashore_49 : decode cX9_ashore 49 = .ok (.iadd, 1) := by decide +kernel
theorem dX9_ashore_50 : decode cX9_ashore 50 = .ok (.istore_n 2, 1) := by decide +kernel
theorem dX9_ashore_51 : decode cX9_ashore 51 = .ok (.iinc 3 1, 3) := by decide +kernel
theorem dX9_ashore_54 : decode cX9_ashore 54 = .ok (.goto (-50), 3) := by decide +kernel
theorem dX9_ashore_57 : decode cX9_ashore 57 = .ok (.iload_n 2, 1) := by decide +kernel
theorem dX9_ashore_58 : decode cX9_ashore 58 = .ok (.ireturn, 1) := by decide +kernel
set_option maxRecDepth 20000 in
theorem ggX9_turbine_X9_isTurbine : GoodIn wsX9_turbine wsX9_isTurbine := goodIn_r _ [6, 7, 8, 9, 5, 10, 39, 40, 41, 42, 43, 44, 45, 46, 47, 48, 49, 50, 51, 52, 53] (by decide +kernel) (by decide +kernel)
set_option maxRecDepth 20000 in
theorem gX9_turbine_X9_isTurbine : GoodIn wsX9_turbine (wsV RX9 82 RX9 yX9_isTurbine wsX9_isTurbine) := goodIn_app (goodIn_of _ (by decide +kernel)) ggX9_turbine_X9_isTurbine
set_option maxRecDepth 20000 in
theorem ggX9_turbine_X9_fails : GoodIn wsX9_turbine wsX9_fails := goodIn_r _ [14, 1, 39, 40, 41, 42, 43, 44, 45, 46, 47, 48, 49, 50, 51, 52, 53] (by decide +kernel) (by decide +kernel)
set_option maxRecDepth 20000 in
theorem gX9_turbine_X9_fails : GoodIn wsX9_turbine (wsV RX9 76 RX9 yX9_fails wsX9_fails) := goodIn_app (goodIn_of _ (by decide +kernel)) ggX9_turbine_X9_fails
set_option maxRecDepth 20000 in
theorem ggX9_turbine_X9_within : GoodIn wsX9_turbine wsX9_within := goodIn_r _ [10] (by decide +kernel) (by decide +kernel)
set_option maxRecDepth 20000 in
theorem gX9_turbine_X9_within : GoodIn wsX9_turbine (va_wsS RX9 32 yX9_within wsX9_within) := goodIn_app (goodIn_of _ (by decide +kernel)) ggX9_turbine_X9_within
set_option maxRecDepth 20000 in
theorem ggX9_turbine_X9_turbineNow : GoodIn wsX9_turbine wsX9_turbineNow := goodIn_r _ [18, 7, 19, 20, 21, 5, 22, 23, 24, 25, 26, 27, 28, 29, 30, 31, 32, 33, 34, 35, 36, 37, 38, 39, 40, 41, 42, 43, 44, 45, 46, 47, 48, 49, 50, 51, 52, 53] (by decide +kernel) (by decide +kernel)
set_option maxRecDepth 20000 in
theorem gX9_turbine_X9_turbineNow : GoodIn wsX9_turbine (wsV RX9 144 RX9 yX9_turbineNow wsX9_turbineNow) := goodIn_app (goodIn_of _ (by decide +kernel)) ggX9_turbine_X9_turbineNow
theorem dX9_turbine_0 : decode cX9_turbine 0 = .ok (.aload_n 0, 1) := by decide +kernel
theorem dX9_turbine_1 : decode cX9_turbine 1 = .ok (.iconst 0, 1) := by decide +kernel
theorem dX9_turbine_2 : decode cX9_turbine 2 = .ok (.putfield 28, 3) := by decide +kernel
theorem dX9_turbine_5 : decode cX9_turbine 5 = .ok (.aload_n 0, 1) := by decide +kernel
theorem dX9_turbine_6 : decode cX9_turbine 6 = .ok (.iload_n 1, 1) := by decide +kernel
theorem dX9_turbine_7 : decode cX9_turbine 7 = .ok (.invokevirtual 82, 3) := by decide +kernel
theorem dX9_turbine_10 : decode cX9_turbine 10 = .ok (.ifCond .ne 9, 3) := by decide +kernel
theorem dX9_turbine_13 : decode cX9_turbine 13 = .ok (.aload_n 0, 1) := by decide +kernel
theorem dX9_turbine_14 : decode cX9_turbine 14 = .ok (.iconst 1, 1) := by decide +kernel
theorem dX9_turbine_15 : decode cX9_turbine 15 = .ok (.invokevirtual 76, 3) := by decide +kernel
theorem dX9_turbine_18 : decode cX9_turbine 18 = .ok (.ireturn, 1) := by decide +kernel
theorem dX9_turbine_19 : decode cX9_turbine 19 = .ok (.iload_n 2, 1) := by decide +kernel
theorem dX9_turbine_20 : decode cX9_turbine 20 = .ok (.iconst 0, 1) := by decide +kernel
theorem dX9_turbine_21 : decode cX9_turbine 21 = .ok (.bipush 10, 2) := by decide +kernel
theorem dX9_turbine_23 : decode cX9_turbine 23 = .ok (.invokestatic 32, 3) := by decide +kernel
theorem dX9_turbine_26 : decode cX9_turbine 26 = .ok (.ifCond .eq 12, 3) := by decide +kernel
theorem dX9_turbine_29 : decode cX9_turbine 29 = .ok (.aload_n 0, 1) := by decide +kernel
theorem dX9_turbine_30 : decode cX9_turbine 30 = .ok (.iload_n 1, 1) := by decide +kernel
theorem dX9_turbine_31 : decode cX9_turbine 31 = .ok (.iload_n 2, 1) := by decide +kernel
theorem dX9_turbine_32 : decode cX9_turbine 32 = .ok (.invokevirtual 144, 3) := by decide +kernel
theorem dX9_turbine_35 : decode cX9_turbine 35 = .ok (.goto 8, 3) := by decide +kernel
theorem dX9_turbine_38 : decode cX9_turbine 38 = .ok (.aload_n 0, 1) := by decide +kernel
theorem dX9_turbine_39 : decode cX9_turbine 39 = .ok (.iconst 2, 1) := by decide +kernel
theorem dX9_turbine_40 : decode cX9_turbine 40 = .ok (.invokevirtual 76, 3) := by decide +kernel
theorem dX9_turbine_43 : decode cX9_turbine 43 = .ok (.ireturn, 1) := by decide +kernel
set_option maxRecDepth 20000 in
theorem ggX9_blade_X9_within : GoodIn wsX9_blade wsX9_within := goodIn_r _ [6] (by decide +kernel) (by decide +kernel)
set_option maxRecDepth 20000 in
theorem gX9_blade_X9_within : GoodIn wsX9_blade (va_wsS RX9 32 yX9_within wsX9_within) := goodIn_app (goodIn_of _ (by decide +kernel)) ggX9_blade_X9_within
set_option maxRecDepth 20000 in
theorem ggX9_blade_X9_fails : GoodIn wsX9_blade wsX9_fails := goodIn_r _ [10, 1, 11, 12, 13, 14, 15, 16, 17, 18, 19, 20, 21, 22, 23, 24, 25] (by decide +kernel) (by decide +kernel)
set_option maxRecDepth 20000 in
theorem gX9_blade_X9_fails : GoodIn wsX9_blade (wsV RX9 76 RX9 yX9_fails wsX9_fails) := goodIn_app (goodIn_of _ (by decide +kernel)) ggX9_blade_X9_fails
theorem dX9_blade_0 : decode cX9_blade 0 = .ok (.aload_n 0, 1) := by decide +kernel
theorem dX9_blade_1 : decode cX9_blade 1 = .ok (.iconst 0, 1) := by decide +kernel
theorem dX9_blade_2 : decode cX9_blade 2 = .ok (.putfield 28, 3) := by decide +kernel
theorem dX9_blade_5 : decode cX9_blade 5 = .ok (.iload_n 1, 1) := by decide +kernel
theorem dX9_blade_6 : decode cX9_blade 6 = .ok (.iconst 0, 1) := by decide +kernel
theorem dX9_blade_7 : decode cX9_blade 7 = .ok (.aload_n 0, 1) := by decide +kernel
theorem dX9_blade_8 : decode cX9_blade 8 = .ok (.getfield 7, 3) := by decide +kernel
theorem dX9_blade_11 : decode cX9_blade 11 = .ok (.sipush 156, 3) := by decide +kernel
theorem dX9_blade_14 : decode cX9_blade 14 = .ok (.iaload, 1) := by decide +kernel
theorem dX9_blade_15 : decode cX9_blade 15 = .ok (.iconst 1, 1) := by decide +kernel
theorem dX9_blade_16 : decode cX9_blade 16 = .ok (.isub, 1) := by decide +kernel
theorem dX9_blade_17 : decode cX9_blade 17 = .ok (.invokestatic 32, 3) := by decide +kernel
theorem dX9_blade_20 : decode cX9_blade 20 = .ok (.ifCond .ne 9, 3) := by decide +kernel
theorem dX9_blade_23 : decode cX9_blade 23 = .ok (.aload_n 0, 1) := by decide +kernel
theorem dX9_blade_24 : decode cX9_blade 24 = .ok (.iconst 1, 1) := by decide +kernel
theorem dX9_blade_25 : decode cX9_blade 25 = .ok (.invokevirtual 76, 3) := by decide +kernel
theorem dX9_blade_28 : decode cX9_blade 28 = .ok (.ireturn, 1) := by decide +kernel
theorem dX9_blade_29 : decode cX9_blade 29 = .ok (.iload_n 2, 1) := by decide +kernel
theorem dX9_blade_30 : decode cX9_blade 30 = .ok (.iconst 0, 1) := by decide +kernel
theorem dX9_blade_31 : decode cX9_blade 31 = .ok (.iconst 1, 1) := by decide +kernel
theorem dX9_blade_32 : decode cX9_blade 32 = .ok (.invokestatic 32, 3) := by decide +kernel
theorem dX9_blade_35 : decode cX9_blade 35 = .ok (.ifCond .eq 26, 3) := by decide +kernel
theorem dX9_blade_38 : decode cX9_blade 38 = .ok (.aload_n 0, 1) := by decide +kernel
theorem dX9_blade_39 : decode cX9_blade 39 = .ok (.getfield 7, 3) := by decide +kernel
theorem dX9_blade_42 : decode cX9_blade 42 = .ok (.iload_n 2, 1) := by decide +kernel
theorem dX9_blade_43 : decode cX9_blade 43 = .ok (.ifCond .ne 9, 3) := by decide +kernel
theorem dX9_blade_46 : decode cX9_blade 46 = .ok (.sipush 157, 3) := by decide +kernel
theorem dX9_blade_49 : decode cX9_blade 49 = .ok (.goto 6, 3) := by decide +kernel
theorem dX9_blade_52 : decode cX9_blade 52 = .ok (.sipush 167, 3) := by decide +kernel
theorem dX9_blade_55 : decode cX9_blade 55 = .ok (.iload_n 1, 1) := by decide +kernel
theorem dX9_blade_56 : decode cX9_blade 56 = .ok (.iadd, 1) := by decide +kernel
theorem dX9_blade_57 : decode cX9_blade 57 = .ok (.iaload, 1) := by decide +kernel
theorem dX9_blade_58 : decode cX9_blade 58 = .ok (.goto 8, 3) := by decide +kernel
theorem dX9_blade_61 : decode cX9_blade 61 = .ok (.aload_n 0, 1) := by decide +kernel
theorem dX9_blade_62 : decode cX9_blade 62 = .ok (.iconst 2, 1) := by decide +kernel
theorem dX9_blade_63 : decode cX9_blade 63 = .ok (.invokevirtual 76, 3) := by decide +kernel
theorem dX9_blade_66 : decode cX9_blade 66 = .ok (.ireturn, 1) := by decide +kernel
set_option maxRecDepth 20000 in
theorem ggX9_bog_X9_within : GoodIn wsX9_bog wsX9_within := goodIn_r _ [6] (by decide +kernel) (by decide +kernel)
set_option maxRecDepth 20000 in
theorem gX9_bog_X9_within : GoodIn wsX9_bog (va_wsS RX9 32 yX9_within wsX9_within) := goodIn_app (goodIn_of _ (by decide +kernel)) ggX9_bog_X9_within
set_option maxRecDepth 20000 in
theorem ggX9_bog_X9_fails : GoodIn wsX9_bog wsX9_fails := goodIn_r _ [10, 1, 11, 12, 13, 14, 15, 16, 17, 18, 19, 20, 21, 22, 23, 24, 25] (by decide +kernel) (by decide +kernel)
set_option maxRecDepth 20000 in
theorem gX9_bog_X9_fails : GoodIn wsX9_bog (wsV RX9 76 RX9 yX9_fails wsX9_fails) := goodIn_app (goodIn_of _ (by decide +kernel)) ggX9_bog_X9_fails
theorem dX9_bog_0 : decode cX9_bog 0 = .ok (.aload_n 0, 1) := by decide +kernel
theorem dX9_bog_1 : decode cX9_bog 1 = .ok (.iconst 0, 1) := by decide +kernel
theorem dX9_bog_2 : decode cX9_bog 2 = .ok (.putfield 28, 3) := by decide +kernel
theorem dX9_bog_5 : decode cX9_bog 5 = .ok (.iload_n 1, 1) := by decide +kernel
theorem dX9_bog_6 : decode cX9_bog 6 = .ok (.iconst 0, 1) := by decide +kernel
theorem dX9_bog_7 : decode cX9_bog 7 = .ok (.aload_n 0, 1) := by decide +kernel
theorem dX9_bog_8 : decode cX9_bog 8 = .ok (.getfield 7, 3) := by decide +kernel
theorem dX9_bog_11 : decode cX9_bog 11 = .ok (.bipush 127, 2) := by decide +kernel
theorem dX9_bog_13 : decode cX9_bog 13 = .ok (.iaload, 1) := by decide +kernel
theorem dX9_bog_14 : decode cX9_bog 14 = .ok (.iconst 1, 1) := by decide +kernel
theorem dX9_bog_15 : decode cX9_bog 15 = .ok (.isub, 1) := by decide +kernel
theorem dX9_bog_16 : decode cX9_bog 16 = .ok (.invokestatic 32, 3) := by decide +kernel
theorem dX9_bog_19 : decode cX9_bog 19 = .ok (.ifCond .ne 9, 3) := by decide +kernel
theorem dX9_bog_22 : decode cX9_bog 22 = .ok (.aload_n 0, 1) := by decide +kernel
theorem dX9_bog_23 : decode cX9_bog 23 = .ok (.iconst 1, 1) := by decide +kernel
theorem dX9_bog_24 : decode cX9_bog 24 = .ok (.invokevirtual 76, 3) := by decide +kernel
theorem dX9_bog_27 : decode cX9_bog 27 = .ok (.ireturn, 1) := by decide +kernel
theorem dX9_bog_28 : decode cX9_bog 28 = .ok (.iload_n 2, 1) := by decide +kernel
theorem dX9_bog_29 : decode cX9_bog 29 = .ok (.iconst 0, 1) := by decide +kernel
theorem dX9_bog_30 : decode cX9_bog 30 = .ok (.iconst 1, 1) := by decide +kernel
theorem dX9_bog_31 : decode cX9_bog 31 = .ok (.invokestatic 32, 3) := by decide +kernel
theorem dX9_bog_34 : decode cX9_bog 34 = .ok (.ifCond .eq 26, 3) := by decide +kernel
theorem dX9_bog_37 : decode cX9_bog 37 = .ok (.aload_n 0, 1) := by decide +kernel
theorem dX9_bog_38 : decode cX9_bog 38 = .ok (.getfield 7, 3) := by decide +kernel
theorem dX9_bog_41 : decode cX9_bog 41 = .ok (.iload_n 2, 1) := by decide +kernel
theorem dX9_bog_42 : decode cX9_bog 42 = .ok (.ifCond .ne 9, 3) := by decide +kernel
theorem dX9_bog_45 : decode cX9_bog 45 = .ok (.sipush 128, 3) := by decide +kernel
theorem dX9_bog_48 : decode cX9_bog 48 = .ok (.goto 6, 3) := by decide +kernel
theorem dX9_bog_51 : decode cX9_bog 51 = .ok (.sipush 134, 3) := by decide +kernel
theorem dX9_bog_54 : decode cX9_bog 54 = .ok (.iload_n 1, 1) := by decide +kernel
theorem dX9_bog_55 : decode cX9_bog 55 = .ok (.iadd, 1) := by decide +kernel
theorem dX9_bog_56 : decode cX9_bog 56 = .ok (.iaload, 1) := by decide +kernel
theorem dX9_bog_57 : decode cX9_bog 57 = .ok (.goto 8, 3) := by decide +kernel
theorem dX9_bog_60 : decode cX9_bog 60 = .ok (.aload_n 0, 1) := by decide +kernel
theorem dX9_bog_61 : decode cX9_bog 61 = .ok (.iconst 2, 1) := by decide +kernel
theorem dX9_bog_62 : decode cX9_bog 62 = .ok (.invokevirtual 76, 3) := by decide +kernel
theorem dX9_bog_65 : decode cX9_bog 65 = .ok (.ireturn, 1) := by decide +kernel
set_option maxRecDepth 20000 in
theorem ggX9_claims_X9_within : GoodIn wsX9_claims wsX9_within := goodIn_r _ [6] (by decide +kernel) (by decide +kernel)
set_option maxRecDepth 20000 in
theorem gX9_claims_X9_within : GoodIn wsX9_claims (va_wsS RX9 32 yX9_within wsX9_within) := goodIn_app (goodIn_of _ (by decide +kernel)) ggX9_claims_X9_within
set_option maxRecDepth 20000 in
theorem ggX9_claims_X9_fails : GoodIn wsX9_claims wsX9_fails := goodIn_r _ [10, 1, 11, 12, 13, 14, 15, 16, 17, 18, 19, 20, 21, 22, 23, 24, 25] (by decide +kernel) (by decide +kernel)
set_option maxRecDepth 20000 in
theorem gX9_claims_X9_fails : GoodIn wsX9_claims (wsV RX9 76 RX9 yX9_fails wsX9_fails) := goodIn_app (goodIn_of _ (by decide +kernel)) ggX9_claims_X9_fails
theorem dX9_claims_0 : decode cX9_claims 0 = .ok (.aload_n 0, 1) := by decide +kernel
theorem dX9_claims_1 : decode cX9_claims 1 = .ok (.iconst 0, 1) := by decide +kernel
theorem dX9_claims_2 : decode cX9_claims 2 = .ok (.putfield 28, 3) := by decide +kernel
theorem dX9_claims_5 : decode cX9_claims 5 = .ok (.iload_n 1, 1) := by decide +kernel
theorem dX9_claims_6 : decode cX9_claims 6 = .ok (.iconst 0, 1) := by decide +kernel
theorem dX9_claims_7 : decode cX9_claims 7 = .ok (.iconst 4, 1) := by decide +kernel
theorem dX9_claims_8 : decode cX9_claims 8 = .ok (.invokestatic 32, 3) := by decide +kernel
theorem dX9_claims_11 : decode cX9_claims 11 = .ok (.ifCond .eq 16, 3) := by decide +kernel
theorem dX9_claims_14 : decode cX9_claims 14 = .ok (.aload_n 0, 1) := by decide +kernel
theorem dX9_claims_15 : decode cX9_claims 15 = .ok (.getfield 7, 3) := by decide +kernel
theorem dX9_claims_18 : decode cX9_claims 18 = .ok (.sipush 177, 3) := by decide +kernel
theorem dX9_claims_21 : decode cX9_claims 21 = .ok (.iload_n 1, 1) := by decide +kernel
theorem dX9_claims_22 : decode cX9_claims 22 = .ok (.iadd, 1) := by decide +kernel
theorem dX9_claims_23 : decode cX9_claims 23 = .ok (.iaload, 1) := by decide +kernel
theorem dX9_claims_24 : decode cX9_claims 24 = .ok (.goto 8, 3) := by decide +kernel
theorem dX9_claims_27 : decode cX9_claims 27 = .ok (.aload_n 0, 1) := by decide +kernel
theorem dX9_claims_28 : decode cX9_claims 28 = .ok (.iconst 1, 1) := by decide +kernel
theorem dX9_claims_29 : decode cX9_claims 29 = .ok (.invokevirtual 76, 3) := by decide +kernel
theorem dX9_claims_32 : decode cX9_claims 32 = .ok (.ireturn, 1) := by decide +kernel
theorem dX9_faulty_0 : decode cX9_faulty 0 = .ok (.iconst 0, 1) := by decide +kernel
theorem dX9_faulty_1 : decode cX9_faulty 1 = .ok (.istore_n 1, 1) := by decide +kernel
theorem dX9_faulty_2 : decode cX9_faulty 2 = .ok (.iconst 0, 1) := by decide +kernel
theorem dX9_faulty_3 : decode cX9_faulty 3 = .ok (.istore_n 2, 1) := by decide +kernel
theorem dX9_faulty_4 : decode cX9_faulty 4 = .ok (.iload_n 2, 1) := by decide +kernel
theorem dX9_faulty_5 : decode cX9_faulty 5 = .ok (.aload_n 0, 1) := by decide +kernel
theorem dX9_faulty_6 : decode cX9_faulty 6 = .ok (.getfield 7, 3) := by decide +kernel
theorem dX9_faulty_9 : decode cX9_faulty 9 = .ok (.bipush 70, 2) := by decide +kernel
theorem dX9_faulty_11 : decode cX9_faulty 11 = .ok (.iaload, 1) := by decide +kernel
theorem dX9_faulty_12 : decode cX9_faulty 12 = .ok (.if_icmp .ge 29, 3) := by decide +kernel
theorem dX9_faulty_15 : decode cX9_faulty 15 = .ok (.iload_n 1, 1) := by decide +kernel
theorem dX9_faulty_16 : decode cX9_faulty 16 = .ok (.aload_n 0, 1) := by decide +kernel
theorem dX9_faulty_17 : decode cX9_faulty 17 = .ok (.getfield 7, 3) := by decide +kernel
theorem dX9_faulty_20 : decode cX9_faulty 20 = .ok (.bipush 30, 2) := by decide +kernel
theorem dX9_faulty_22 : decode cX9_faulty 22 = .ok (.iload_n 2, 1) := by decide +kernel
theorem dX9_faulty_23 : decode cX9_faulty 23 = .ok (.iadd, 1) := by decide +kernel
theorem dX9_faulty_24 : decode cX9_faulty 24 = .ok (.iaload, 1) := by decide +kernel
theorem dX9_faulty_25 : decode cX9_faulty 25 = .ok (.ifCond .le 7, 3) := by decide +kernel
theorem dX9_faulty_28 : decode cX9_faulty 28 = .ok (.iconst 1, 1) := by decide +kernel
theorem dX9_faulty_29 : decode cX9_faulty 29 = .ok (.goto 4, 3) := by decide +kernel
theorem dX9_faulty_32 : decode cX9_faulty 32 = .ok (.iconst 0, 1) := by decide +kernel
theorem dX9_faulty_33 : decode cX9_faulty 33 = .ok (.iadd, 1) := by decide +kernel
theorem dX9_faulty_34 : decode cX9_faulty 34 = .ok (.istore_n 1, 1) := by decide +kernel
theorem dX9_faulty_35 : decode cX9_faulty 35 = .ok (.iinc 2 1, 3) := by decide +kernel
theorem dX9_faulty_38 : decode cX9_faulty 38 = .ok (.goto (-34), 3) := by decide +kernel
theorem dX9_faulty_41 : decode cX9_faulty 41 = .ok (.iload_n 1, 1) := by decide +kernel
theorem dX9_faulty_42 : decode cX9_faulty 42 = .ok (.ireturn, 1) := by decide +kernel
theorem dX9_sum_0 : decode cX9_sum 0 = .ok (.iconst 0, 1) := by decide +kernel
theorem dX9_sum_1 : decode cX9_sum 1 = .ok (.istore_n 2, 1) := by decide +kernel
theorem dX9_sum_2 : decode cX9_sum 2 = .ok (.iconst 0, 1) := by decide +kernel
theorem dX9_sum_3 : decode cX9_sum 3 = .ok (.istore_n 3, 1) := by decide +kernel
theorem dX9_sum_4 : decode cX9_sum 4 = .ok (.iload_n 3, 1) := by decide +kernel
theorem dX9_sum_5 : decode cX9_sum 5 = .ok (.aload_n 0, 1) := by decide +kernel
theorem dX9_sum_6 : decode cX9_sum 6 = .ok (.getfield 7, 3) := by decide +kernel
theorem dX9_sum_9 : decode cX9_sum 9 = .ok (.bipush 70, 2) := by decide +kernel
theorem dX9_sum_11 : decode cX9_sum 11 = .ok (.iaload, 1) := by decide +kernel
theorem dX9_sum_12 : decode cX9_sum 12 = .ok (.if_icmp .ge 20, 3) := by decide +kernel
theorem dX9_sum_15 : decode cX9_sum 15 = .ok (.iload_n 2, 1) := by decide +kernel
theorem dX9_sum_16 : decode cX9_sum 16 = .ok (.aload_n 0, 1) := by decide +kernel
theorem dX9_sum_17 : decode cX9_sum 17 = .ok (.getfield 7, 3) := by decide +kernel
theorem dX9_sum_20 : decode cX9_sum 20 = .ok (.iload_n 1, 1) := by decide +kernel
theorem dX9_sum_21 : decode cX9_sum 21 = .ok (.iload_n 3, 1) := by decide +kernel
theorem dX9_sum_22 : decode cX9_sum 22 = .ok (.iadd, 1) := by decide +kernel
theorem dX9_sum_23 : decode cX9_sum 23 = .ok (.iaload, 1) := by decide +kernel
theorem dX9_sum_24 : decode cX9_sum 24 = .ok (.iadd, 1) := by decide +kernel
theorem dX9_sum_25 : decode cX9_sum 25 = .ok (.istore_n 2, 1) := by decide +kernel
theorem dX9_sum_26 : decode cX9_sum 26 = .ok (.iinc 3 1, 3) := by decide +kernel
theorem dX9_sum_29 : decode cX9_sum 29 = .ok (.goto (-25), 3) := by decide +kernel
theorem dX9_sum_32 : decode cX9_sum 32 = .ok (.iload_n 2, 1) := by decide +kernel
theorem dX9_sum_33 : decode cX9_sum 33 = .ok (.ireturn, 1) := by decide +kernel
set_option maxRecDepth 20000 in
theorem ggX9_counted_X9_faulty : GoodIn wsX9_counted wsX9_faulty := goodIn_r _ [7, 1, 16, 17, 18, 19, 20, 21, 22, 23, 24, 25, 26, 27, 28, 29, 30] (by decide +kernel) (by decide +kernel)
set_option maxRecDepth 20000 in
theorem gX9_counted_X9_faulty : GoodIn wsX9_counted (wsV RX9 147 RX9 yX9_faulty wsX9_faulty) := goodIn_app (goodIn_of _ (by decide +kernel)) ggX9_counted_X9_faulty
set_option maxRecDepth 20000 in
theorem ggX9_counted_X9_windAt : GoodIn wsX9_counted wsX9_windAt := goodIn_r _ [11, 1, 16, 17, 18, 19, 20, 21, 22, 23, 24, 25, 26, 27, 28, 29, 30] (by decide +kernel) (by decide +kernel)
set_option maxRecDepth 20000 in
theorem gX9_counted_X9_windAt : GoodIn wsX9_counted (wsV RX9 60 RX9 yX9_windAt wsX9_windAt) := goodIn_app (goodIn_of _ (by decide +kernel)) ggX9_counted_X9_windAt
set_option maxRecDepth 20000 in
theorem ggX9_counted_X9_sum : GoodIn wsX9_counted wsX9_sum := goodIn_r _ [15, 1, 16, 17, 18, 19, 20, 21, 22, 23, 24, 25, 26, 27, 28, 29, 30] (by decide +kernel) (by decide +kernel)
set_option maxRecDepth 20000 in
theorem gX9_counted_X9_sum : GoodIn wsX9_counted (wsV RX9 150 RX9 yX9_sum wsX9_sum) := goodIn_app (goodIn_of _ (by decide +kernel)) ggX9_counted_X9_sum
theorem dX9_counted_0 : decode cX9_counted 0 = .ok (.iload_n 1, 1) := by decide +kernel
theorem dX9_counted_1 : decode cX9_counted 1 = .ok (.tableswitch 256 0 13 #[71, 79, 84, 93, 106, 114, 123, 147, 156, 181, 190, 233, 240, 247], 71) := by decide +kernel
theorem dX9_counted_72 : decode cX9_counted 72 = .ok (.aload_n 0, 1) := by decide +kernel
theorem dX9_counted_73 : decode cX9_counted 73 = .ok (.getfield 7, 3) := by decide +kernel
theorem dX9_counted_76 : decode cX9_counted 76 = .ok (.bipush 70, 2) := by decide +kernel
theorem dX9_counted_78 : decode cX9_counted 78 = .ok (.iaload, 1) := by decide +kernel
theorem dX9_counted_79 : decode cX9_counted 79 = .ok (.ireturn, 1) := by decide +kernel
theorem dX9_counted_80 : decode cX9_counted 80 = .ok (.aload_n 0, 1) := by decide +kernel
theorem dX9_counted_81 : decode cX9_counted 81 = .ok (.invokevirtual 147, 3) := by decide +kernel
theorem dX9_counted_84 : decode cX9_counted 84 = .ok (.ireturn, 1) := by decide +kernel
theorem dX9_counted_85 : decode cX9_counted 85 = .ok (.aload_n 0, 1) := by decide +kernel
theorem dX9_counted_86 : decode cX9_counted 86 = .ok (.getfield 7, 3) := by decide +kernel
theorem dX9_counted_89 : decode cX9_counted 89 = .ok (.sipush 182, 3) := by decide +kernel
theorem dX9_counted_92 : decode cX9_counted 92 = .ok (.iaload, 1) := by decide +kernel
theorem dX9_counted_93 : decode cX9_counted 93 = .ok (.ireturn, 1) := by decide +kernel
theorem dX9_counted_94 : decode cX9_counted 94 = .ok (.aload_n 0, 1) := by decide +kernel
theorem dX9_counted_95 : decode cX9_counted 95 = .ok (.aload_n 0, 1) := by decide +kernel
theorem dX9_counted_96 : decode cX9_counted 96 = .ok (.getfield 7, 3) := by decide +kernel
theorem dX9_counted_99 : decode cX9_counted 99 = .ok (.sipush 182, 3) := by decide +kernel
theorem dX9_counted_102 : decode cX9_counted 102 = .ok (.iaload, 1) := by decide +kernel
theorem dX9_counted_103 : decode cX9_counted 103 = .ok (.invokevirtual 60, 3) := by decide +kernel
theorem dX9_counted_106 : decode cX9_counted 106 = .ok (.ireturn, 1) := by decide +kernel
theorem dX9_counted_107 : decode cX9_counted 107 = .ok (.aload_n 0, 1) := by decide +kernel
theorem dX9_counted_108 : decode cX9_counted 108 = .ok (.getfield 7, 3) := by decide +kernel
theorem dX9_counted_111 : decode cX9_counted 111 = .ok (.bipush 78, 2) := by decide +kernel
theorem dX9_counted_113 : decode cX9_counted 113 = .ok (.iaload, 1) := by decide +kernel
theorem dX9_counted_114 : decode cX9_counted 114 = .ok (.ireturn, 1) := by decide +kernel
theorem dX9_counted_115 : decode cX9_counted 115 = .ok (.aload_n 0, 1) := by decide +kernel
theorem dX9_counted_116 : decode cX9_counted 116 = .ok (.getfield 7, 3) := by decide +kernel
theorem dX9_counted_119 : decode cX9_counted 119 = .ok (.sipush 145, 3) := by decide +kernel
theorem dX9_counted_122 : decode cX9_counted 122 = .ok (.iaload, 1) := by decide +kernel
theorem dX9_counted_123 : decode cX9_counted 123 = .ok (.ireturn, 1) := by decide +kernel
theorem dX9_counted_124 : decode cX9_counted 124 = .ok (.aload_n 0, 1) := by decide +kernel
theorem dX9_counted_125 : decode cX9_counted 125 = .ok (.getfield 7, 3) := by decide +kernel
theorem dX9_counted_128 : decode cX9_counted 128 = .ok (.sipush 145, 3) := by decide +kernel
theorem dX9_counted_131 : decode cX9_counted 131 = .ok (.iaload, 1) := by decide +kernel
theorem dX9_counted_132 : decode cX9_counted 132 = .ok (.ifCond .ne 7, 3) := by decide +kernel
theorem dX9_counted_135 : decode cX9_counted 135 = .ok (.iconst (-1), 1) := by decide +kernel
theorem dX9_counted_136 : decode cX9_counted 136 = .ok (.goto 11, 3) := by decide +kernel
theorem dX9_counted_139 : decode cX9_counted 139 = .ok (.aload_n 0, 1) := by decide +kernel
theorem dX9_counted_140 : decode cX9_counted 140 = .ok (.getfield 7, 3) := by decide +kernel
theorem dX9_counted_143 : decode cX9_counted 143 = .ok (.sipush 146, 3) := by decide +kernel
theorem dX9_counted_146 : decode cX9_counted 146 = .ok (.iaload, 1) := by decide +kernel
theorem dX9_counted_147 : decode cX9_counted 147 = .ok (.ireturn, 1) := by decide +kernel
theorem dX9_counted_148 : decode cX9_counted 148 = .ok (.aload_n 0, 1) := by decide +kernel
theorem dX9_counted_149 : decode cX9_counted 149 = .ok (.getfield 7, 3) := by decide +kernel
theorem dX9_counted_152 : decode cX9_counted 152 = .ok (.sipush 140, 3) := by decide +kernel
theorem dX9_counted_155 : decode cX9_counted 155 = .ok (.iaload, 1) := by decide +kernel
theorem dX9_counted_156 : decode cX9_counted 156 = .ok (.ireturn, 1) := by decide +kernel
theorem dX9_counted_157 : decode cX9_counted 157 = .ok (.aload_n 0, 1) := by decide +kernel
theorem dX9_counted_158 : decode cX9_counted 158 = .ok (.getfield 7, 3) := by decide +kernel
theorem dX9_counted_161 : decode cX9_counted 161 = .ok (.sipush 141, 3) := by decide +kernel
theorem dX9_counted_164 : decode cX9_counted 164 = .ok (.iaload, 1) := by decide +kernel
theorem dX9_counted_165 : decode cX9_counted 165 = .ok (.iconst (-1), 1) := by decide +kernel
theorem dX9_counted_166 : decode cX9_counted 166 = .ok (.if_icmp .ne 7, 3) := by decide +kernel
theorem dX9_counted_169 : decode cX9_counted 169 = .ok (.iconst 0, 1) := by decide +kernel
theorem dX9_counted_170 : decode cX9_counted 170 = .ok (.goto 11, 3) := by decide +kernel
theorem dX9_counted_173 : decode cX9_counted 173 = .ok (.aload_n 0, 1) := by decide +kernel
theorem dX9_counted_174 : decode cX9_counted 174 = .ok (.getfield 7, 3) := by decide +kernel
theorem dX9_counted_177 : decode cX9_counted 177 = .ok (.sipush 142, 3) := by decide +kernel
theorem dX9_counted_180 : decode cX9_counted 180 = .ok (.iaload, 1) := by decide +kernel
theorem dX9_counted_181 : decode cX9_counted 181 = .ok (.ireturn, 1) := by decide +kernel
theorem dX9_counted_182 : decode cX9_counted 182 = .ok (.aload_n 0, 1) := by decide +kernel
theorem dX9_counted_183 : decode cX9_counted 183 = .ok (.getfield 7, 3) := by decide +kernel
theorem dX9_counted_186 : decode cX9_counted 186 = .ok (.sipush 141, 3) := by decide +kernel
theorem dX9_counted_189 : decode cX9_counted 189 = .ok (.iaload, 1) := by decide +kernel
theorem dX9_counted_190 : decode cX9_counted 190 = .ok (.ireturn, 1) := by decide +kernel
theorem dX9_counted_191 : decode cX9_counted 191 = .ok (.aload_n 0, 1) := by decide +kernel
theorem dX9_counted_192 : decode cX9_counted 192 = .ok (.getfield 7, 3) := by decide +kernel
theorem dX9_counted_195 : decode cX9_counted 195 = .ok (.sipush 145, 3) := by decide +kernel
theorem dX9_counted_198 : decode cX9_counted 198 = .ok (.iaload, 1) := by decide +kernel
theorem dX9_counted_199 : decode cX9_counted 199 = .ok (.ifCond .le 33, 3) := by decide +kernel
theorem dX9_counted_202 : decode cX9_counted 202 = .ok (.aload_n 0, 1) := by decide +kernel
theorem dX9_counted_203 : decode cX9_counted 203 = .ok (.getfield 7, 3) := by decide +kernel
theorem dX9_counted_206 : decode cX9_counted 206 = .ok (.sipush 146, 3) := by decide +kernel
theorem dX9_counted_209 : decode cX9_counted 209 = .ok (.iaload, 1) := by decide +kernel
theorem dX9_counted_210 : decode cX9_counted 210 = .ok (.aload_n 0, 1) := by decide +kernel
theorem dX9_counted_211 : decode cX9_counted 211 = .ok (.getfield 7, 3) := by decide +kernel
theorem dX9_counted_214 : decode cX9_counted 214 = .ok (.sipush 144, 3) := by decide +kernel
theorem dX9_counted_217 : decode cX9_counted 217 = .ok (.iaload, 1) := by decide +kernel
theorem dX9_counted_218 : decode cX9_counted 218 = .ok (.if_icmp .ne 14, 3) := by decide +kernel
theorem dX9_counted_221 : decode cX9_counted 221 = .ok (.aload_n 0, 1) := by decide +kernel
theorem dX9_counted_222 : decode cX9_counted 222 = .ok (.getfield 7, 3) := by decide +kernel
theorem dX9_counted_225 : decode cX9_counted 225 = .ok (.sipush 143, 3) := by decide +kernel
theorem dX9_counted_228 : decode cX9_counted 228 = .ok (.iaload, 1) := by decide +kernel
theorem dX9_counted_229 : decode cX9_counted 229 = .ok (.goto 4, 3) := by decide +kernel
theorem dX9_counted_232 : decode cX9_counted 232 = .ok (.iconst 0, 1) := by decide +kernel
theorem dX9_counted_233 : decode cX9_counted 233 = .ok (.ireturn, 1) := by decide +kernel
theorem dX9_counted_234 : decode cX9_counted 234 = .ok (.aload_n 0, 1) := by decide +kernel
theorem dX9_counted_235 : decode cX9_counted 235 = .ok (.bipush 50, 2) := by decide +kernel
theorem dX9_counted_237 : decode cX9_counted 237 = .ok (.invokevirtual 150, 3) := by decide +kernel
theorem dX9_counted_240 : decode cX9_counted 240 = .ok (.ireturn, 1) := by decide +kernel
theorem dX9_counted_241 : decode cX9_counted 241 = .ok (.aload_n 0, 1) := by decide +kernel
theorem dX9_counted_242 : decode cX9_counted 242 = .ok (.bipush 60, 2) := by decide +kernel
theorem dX9_counted_244 : decode cX9_counted 244 = .ok (.invokevirtual 150, 3) := by decide +kernel
theorem dX9_counted_247 : decode cX9_counted 247 = .ok (.ireturn, 1) := by decide +kernel
theorem dX9_counted_248 : decode cX9_counted 248 = .ok (.aload_n 0, 1) := by decide +kernel
theorem dX9_counted_249 : decode cX9_counted 249 = .ok (.getfield 7, 3) := by decide +kernel
theorem dX9_counted_252 : decode cX9_counted 252 = .ok (.sipush 156, 3) := by decide +kernel
theorem dX9_counted_255 : decode cX9_counted 255 = .ok (.iaload, 1) := by decide +kernel
theorem dX9_counted_256 : decode cX9_counted 256 = .ok (.ireturn, 1) := by decide +kernel
theorem dX9_counted_257 : decode cX9_counted 257 = .ok (.aload_n 0, 1) := by decide +kernel
theorem dX9_counted_258 : decode cX9_counted 258 = .ok (.getfield 36, 3) := by decide +kernel
theorem dX9_counted_261 : decode cX9_counted 261 = .ok (.ireturn, 1) := by decide +kernel
set_option maxRecDepth 20000 in
theorem ggX9_count_X9_within : GoodIn wsX9_count wsX9_within := goodIn_r _ [5] (by decide +kernel) (by decide +kernel)
set_option maxRecDepth 20000 in
theorem gX9_count_X9_within : GoodIn wsX9_count (va_wsS RX9 32 yX9_within wsX9_within) := goodIn_app (goodIn_of _ (by decide +kernel)) ggX9_count_X9_within
set_option maxRecDepth 20000 in
theorem ggX9_count_X9_counted : GoodIn wsX9_count wsX9_counted := goodIn_r _ [9, 10, 11, 12, 13, 14, 4, 15, 16, 17, 18, 19, 20, 21, 22, 23, 28, 29, 30, 31, 32, 33, 34, 35, 36, 37, 38, 39, 40, 41, 42] (by decide +kernel) (by decide +kernel)
set_option maxRecDepth 20000 in
theorem gX9_count_X9_counted : GoodIn wsX9_count (wsV RX9 153 RX9 yX9_counted wsX9_counted) := goodIn_app (goodIn_of _ (by decide +kernel)) ggX9_count_X9_counted
set_option maxRecDepth 20000 in
theorem ggX9_count_X9_fails : GoodIn wsX9_count wsX9_fails := goodIn_r _ [27, 1, 28, 29, 30, 31, 32, 33, 34, 35, 36, 37, 38, 39, 40, 41, 42] (by decide +kernel) (by decide +kernel)
set_option maxRecDepth 20000 in
theorem gX9_count_X9_fails : GoodIn wsX9_count (wsV RX9 76 RX9 yX9_fails wsX9_fails) := goodIn_app (goodIn_of _ (by decide +kernel)) ggX9_count_X9_fails
theorem dX9_count_0 : decode cX9_count 0 = .ok (.aload_n 0, 1) := by decide +kernel
theorem dX9_count_1 : decode cX9_count 1 = .ok (.iconst 0, 1) := by decide +kernel
theorem dX9_count_2 : decode cX9_count 2 = .ok (.putfield 28, 3) := by decide +kernel
theorem dX9_count_5 : decode cX9_count 5 = .ok (.iload_n 1, 1) := by decide +kernel
theorem dX9_count_6 : decode cX9_count 6 = .ok (.iconst 0, 1) := by decide +kernel
theorem dX9_count_7 : decode cX9_count 7 = .ok (.bipush 14, 2) := by decide +kernel
theorem dX9_count_9 : decode cX9_count 9 = .ok (.invokestatic 32, 3) := by decide +kernel
