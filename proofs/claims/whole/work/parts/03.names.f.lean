theorem dX9_init_0 : decode cX9_init 0 = .ok (.aload_n 0, 1) := by decide +kernel
theorem dX9_init_1 : decode cX9_init 1 = .ok (.invokespecial 1, 3) := by decide +kernel
theorem dX9_init_4 : decode cX9_init 4 = .ok (.aload_n 0, 1) := by decide +kernel
theorem dX9_init_5 : decode cX9_init 5 = .ok (.sipush 184, 3) := by decide +kernel
theorem dX9_init_8 : decode cX9_init 8 = .ok (.newarray .int, 2) := by decide +kernel
theorem dX9_init_10 : decode cX9_init 10 = .ok (.putfield 7, 3) := by decide +kernel
theorem dX9_init_13 : decode cX9_init 13 = .ok (.aload_n 0, 1) := by decide +kernel
theorem dX9_init_14 : decode cX9_init 14 = .ok (.sipush 184, 3) := by decide +kernel
theorem dX9_init_17 : decode cX9_init 17 = .ok (.newarray .int, 2) := by decide +kernel
theorem dX9_init_19 : decode cX9_init 19 = .ok (.putfield 13, 3) := by decide +kernel
theorem dX9_init_22 : decode cX9_init 22 = .ok (.aload_n 0, 1) := by decide +kernel
theorem dX9_init_23 : decode cX9_init 23 = .ok (.sipush 1104, 3) := by decide +kernel
theorem dX9_init_26 : decode cX9_init 26 = .ok (.newarray .int, 2) := by decide +kernel
theorem dX9_init_28 : decode cX9_init 28 = .ok (.putfield 16, 3) := by decide +kernel
theorem dX9_init_31 : decode cX9_init 31 = .ok (.aload_n 0, 1) := by decide +kernel
theorem dX9_init_32 : decode cX9_init 32 = .ok (.bipush 60, 2) := by decide +kernel
theorem dX9_init_34 : decode cX9_init 34 = .ok (.newarray .int, 2) := by decide +kernel
theorem dX9_init_36 : decode cX9_init 36 = .ok (.putfield 19, 3) := by decide +kernel
theorem dX9_init_39 : decode cX9_init 39 = .ok (.aload_n 0, 1) := by decide +kernel
theorem dX9_init_40 : decode cX9_init 40 = .ok (.bipush 10, 2) := by decide +kernel
theorem dX9_init_42 : decode cX9_init 42 = .ok (.newarray .int, 2) := by decide +kernel
theorem dX9_init_44 : decode cX9_init 44 = .ok (.putfield 22, 3) := by decide +kernel
theorem dX9_init_47 : decode cX9_init 47 = .ok (.aload_n 0, 1) := by decide +kernel
theorem dX9_init_48 : decode cX9_init 48 = .ok (.bipush 48, 2) := by decide +kernel
theorem dX9_init_50 : decode cX9_init 50 = .ok (.newarray .int, 2) := by decide +kernel
theorem dX9_init_52 : decode cX9_init 52 = .ok (.putfield 25, 3) := by decide +kernel
theorem dX9_init_55 : decode cX9_init 55 = .ok (.aload_n 0, 1) := by decide +kernel
theorem dX9_init_56 : decode cX9_init 56 = .ok (.getfield 7, 3) := by decide +kernel
theorem dX9_init_59 : decode cX9_init 59 = .ok (.bipush 71, 2) := by decide +kernel
theorem dX9_init_61 : decode cX9_init 61 = .ok (.bipush 16, 2) := by decide +kernel
theorem dX9_init_63 : decode cX9_init 63 = .ok (.iastore, 1) := by decide +kernel
theorem dX9_init_64 : decode cX9_init 64 = .ok (.aload_n 0, 1) := by decide +kernel
theorem dX9_init_65 : decode cX9_init 65 = .ok (.getfield 7, 3) := by decide +kernel
theorem dX9_init_68 : decode cX9_init 68 = .ok (.bipush 72, 2) := by decide +kernel
theorem dX9_init_70 : decode cX9_init 70 = .ok (.iconst 5, 1) := by decide +kernel
theorem dX9_init_71 : decode cX9_init 71 = .ok (.iastore, 1) := by decide +kernel
theorem dX9_init_72 : decode cX9_init 72 = .ok (.aload_n 0, 1) := by decide +kernel
theorem dX9_init_73 : decode cX9_init 73 = .ok (.getfield 7, 3) := by decide +kernel
theorem dX9_init_76 : decode cX9_init 76 = .ok (.bipush 73, 2) := by decide +kernel
theorem dX9_init_78 : decode cX9_init 78 = .ok (.iconst 3, 1) := by decide +kernel
theorem dX9_init_79 : decode cX9_init 79 = .ok (.iastore, 1) := by decide +kernel
theorem dX9_init_80 : decode cX9_init 80 = .ok (.aload_n 0, 1) := by decide +kernel
theorem dX9_init_81 : decode cX9_init 81 = .ok (.getfield 7, 3) := by decide +kernel
theorem dX9_init_84 : decode cX9_init 84 = .ok (.bipush 74, 2) := by decide +kernel
theorem dX9_init_86 : decode cX9_init 86 = .ok (.bipush 24, 2) := by decide +kernel
theorem dX9_init_88 : decode cX9_init 88 = .ok (.iastore, 1) := by decide +kernel
theorem dX9_init_89 : decode cX9_init 89 = .ok (.aload_n 0, 1) := by decide +kernel
theorem dX9_init_90 : decode cX9_init 90 = .ok (.getfield 7, 3) := by decide +kernel
theorem dX9_init_93 : decode cX9_init 93 = .ok (.bipush 75, 2) := by decide +kernel
theorem dX9_init_95 : decode cX9_init 95 = .ok (.iconst 2, 1) := by decide +kernel
theorem dX9_init_96 : decode cX9_init 96 = .ok (.iastore, 1) := by decide +kernel
theorem dX9_init_97 : decode cX9_init 97 = .ok (.aload_n 0, 1) := by decide +kernel
theorem dX9_init_98 : decode cX9_init 98 = .ok (.getfield 7, 3) := by decide +kernel
theorem dX9_init_101 : decode cX9_init 101 = .ok (.bipush 76, 2) := by decide +kernel
theorem dX9_init_103 : decode cX9_init 103 = .ok (.bipush 10, 2) := by decide +kernel
theorem dX9_init_105 : decode cX9_init 105 = .ok (.iastore, 1) := by decide +kernel
theorem dX9_init_106 : decode cX9_init 106 = .ok (.aload_n 0, 1) := by decide +kernel
theorem dX9_init_107 : decode cX9_init 107 = .ok (.getfield 7, 3) := by decide +kernel
theorem dX9_init_110 : decode cX9_init 110 = .ok (.sipush 141, 3) := by decide +kernel
theorem dX9_init_113 : decode cX9_init 113 = .ok (.iconst (-1), 1) := by decide +kernel
theorem dX9_init_114 : decode cX9_init 114 = .ok (.iastore, 1) := by decide +kernel
theorem dX9_init_115 : decode cX9_init 115 = .ok (.aload_n 0, 1) := by decide +kernel
theorem dX9_init_116 : decode cX9_init 116 = .ok (.getfield 7, 3) := by decide +kernel
theorem dX9_init_119 : decode cX9_init 119 = .ok (.sipush 144, 3) := by decide +kernel
theorem dX9_init_122 : decode cX9_init 122 = .ok (.iconst (-1), 1) := by decide +kernel
theorem dX9_init_123 : decode cX9_init 123 = .ok (.iastore, 1) := by decide +kernel
theorem dX9_init_124 : decode cX9_init 124 = .ok (.return_, 1) := by decide +kernel
theorem dX9_thrown_0 : decode cX9_thrown 0 = .ok (.aload_n 0, 1) := by decide +kernel
theorem dX9_thrown_1 : decode cX9_thrown 1 = .ok (.getfield 28, 3) := by decide +kernel
theorem dX9_thrown_4 : decode cX9_thrown 4 = .ok (.ireturn, 1) := by decide +kernel
theorem dX9_fails_0 : decode cX9_fails 0 = .ok (.aload_n 0, 1) := by decide +kernel
theorem dX9_fails_1 : decode cX9_fails 1 = .ok (.iload_n 1, 1) := by decide +kernel
theorem dX9_fails_2 : decode cX9_fails 2 = .ok (.putfield 28, 3) := by decide +kernel
theorem dX9_fails_5 : decode cX9_fails 5 = .ok (.iconst 0, 1) := by decide +kernel
theorem dX9_fails_6 : decode cX9_fails 6 = .ok (.ireturn, 1) := by decide +kernel
theorem dX9_within_0 : decode cX9_within 0 = .ok (.iload_n 0, 1) := by decide +kernel
theorem dX9_within_1 : decode cX9_within 1 = .ok (.iload_n 1, 1) := by decide +kernel
theorem dX9_within_2 : decode cX9_within 2 = .ok (.if_icmp .lt 12, 3) := by decide +kernel
theorem dX9_within_5 : decode cX9_within 5 = .ok (.iload_n 0, 1) := by decide +kernel
theorem dX9_within_6 : decode cX9_within 6 = .ok (.iload_n 2, 1) := by decide +kernel
theorem dX9_within_7 : decode cX9_within 7 = .ok (.if_icmp .gt 7, 3) := by decide +kernel
theorem dX9_within_10 : decode cX9_within 10 = .ok (.iconst 1, 1) := by decide +kernel
theorem dX9_within_11 : decode cX9_within 11 = .ok (.goto 4, 3) := by decide +kernel
theorem dX9_within_14 : decode cX9_within 14 = .ok (.iconst 0, 1) := by decide +kernel
theorem dX9_within_15 : decode cX9_within 15 = .ok (.ireturn, 1) := by decide +kernel
set_option maxRecDepth 20000 in
theorem ggX9_isTurbine_X9_within : GoodIn wsX9_isTurbine wsX9_within := goodIn_r _ [5] (by decide +kernel) (by decide +kernel)
set_option maxRecDepth 20000 in
theorem gX9_isTurbine_X9_within : GoodIn wsX9_isTurbine (va_wsS RX9 32 yX9_within wsX9_within) := goodIn_app (goodIn_of _ (by decide +kernel)) ggX9_isTurbine_X9_within
theorem dX9_isTurbine_0 : decode cX9_isTurbine 0 = .ok (.iload_n 1, 1) := by decide +kernel
theorem dX9_isTurbine_1 : decode cX9_isTurbine 1 = .ok (.iconst 0, 1) := by decide +kernel
theorem dX9_isTurbine_2 : decode cX9_isTurbine 2 = .ok (.aload_n 0, 1) := by decide +kernel
theorem dX9_isTurbine_3 : decode cX9_isTurbine 3 = .ok (.getfield 7, 3) := by decide +kernel
theorem dX9_isTurbine_6 : decode cX9_isTurbine 6 = .ok (.bipush 70, 2) := by decide +kernel
theorem dX9_isTurbine_8 : decode cX9_isTurbine 8 = .ok (.iaload, 1) := by decide +kernel
theorem dX9_isTurbine_9 : decode cX9_isTurbine 9 = .ok (.iconst 1, 1) := by decide +kernel
theorem dX9_isTurbine_10 : decode cX9_isTurbine 10 = .ok (.isub, 1) := by decide +kernel
theorem dX9_isTurbine_11 : decode cX9_isTurbine 11 = .ok (.invokestatic 32, 3) := by decide +kernel
theorem dX9_isTurbine_14 : decode cX9_isTurbine 14 = .ok (.ireturn, 1) := by decide +kernel
theorem dX9_save_0 : decode cX9_save 0 = .ok (.aload_n 0, 1) := by decide +kernel
theorem dX9_save_1 : decode cX9_save 1 = .ok (.getfield 36, 3) := by decide +kernel
theorem dX9_save_4 : decode cX9_save 4 = .ok (.bipush 6, 2) := by decide +kernel
theorem dX9_save_6 : decode cX9_save 6 = .ok (.if_icmp .ne 44, 3) := by decide +kernel
theorem dX9_save_9 : decode cX9_save 9 = .ok (.iconst 0, 1) := by decide +kernel
theorem dX9_save_10 : decode cX9_save 10 = .ok (.istore_n 1, 1) := by decide +kernel
theorem dX9_save_11 : decode cX9_save 11 = .ok (.iload_n 1, 1) := by decide +kernel
theorem dX9_save_12 : decode cX9_save 12 = .ok (.sipush 920, 3) := by decide +kernel
theorem dX9_save_15 : decode cX9_save 15 = .ok (.if_icmp .ge 25, 3) := by decide +kernel
theorem dX9_save_18 : decode cX9_save 18 = .ok (.aload_n 0, 1) := by decide +kernel
theorem dX9_save_19 : decode cX9_save 19 = .ok (.getfield 16, 3) := by decide +kernel
theorem dX9_save_22 : decode cX9_save 22 = .ok (.iload_n 1, 1) := by decide +kernel
theorem dX9_save_23 : decode cX9_save 23 = .ok (.aload_n 0, 1) := by decide +kernel
theorem dX9_save_24 : decode cX9_save 24 = .ok (.getfield 16, 3) := by decide +kernel
theorem dX9_save_27 : decode cX9_save 27 = .ok (.sipush 184, 3) := by decide +kernel
theorem dX9_save_30 : decode cX9_save 30 = .ok (.iload_n 1, 1) := by decide +kernel
theorem dX9_save_31 : decode cX9_save 31 = .ok (.iadd, 1) := by decide +kernel
theorem dX9_save_32 : decode cX9_save 32 = .ok (.iaload, 1) := by decide +kernel
theorem dX9_save_33 : decode cX9_save 33 = .ok (.iastore, 1) := by decide +kernel
theorem dX9_save_34 : decode cX9_save 34 = .ok (.iinc 1 1, 3) := by decide +kernel
theorem dX9_save_37 : decode cX9_save 37 = .ok (.goto (-26), 3) := by decide +kernel
theorem dX9_save_40 : decode cX9_save 40 = .ok (.aload_n 0, 1) := by decide +kernel
theorem dX9_save_41 : decode cX9_save 41 = .ok (.dup, 1) := by decide +kernel
theorem dX9_save_42 : decode cX9_save 42 = .ok (.getfield 36, 3) := by decide +kernel
theorem dX9_save_45 : decode cX9_save 45 = .ok (.iconst 1, 1) := by decide +kernel
theorem dX9_save_46 : decode cX9_save 46 = .ok (.isub, 1) := by decide +kernel
theorem dX9_save_47 : decode cX9_save 47 = .ok (.putfield 36, 3) := by decide +kernel
theorem dX9_save_50 : decode cX9_save 50 = .ok (.iconst 0, 1) := by decide +kernel
theorem dX9_save_51 : decode cX9_save 51 = .ok (.istore_n 1, 1) := by decide +kernel
theorem dX9_save_52 : decode cX9_save 52 = .ok (.iload_n 1, 1) := by decide +kernel
theorem dX9_save_53 : decode cX9_save 53 = .ok (.sipush 184, 3) := by decide +kernel
theorem dX9_save_56 : decode cX9_save 56 = .ok (.if_icmp .ge 30, 3) := by decide +kernel
theorem dX9_save_59 : decode cX9_save 59 = .ok (.aload_n 0, 1) := by decide +kernel
theorem dX9_save_60 : decode cX9_save 60 = .ok (.getfield 16, 3) := by decide +kernel
theorem dX9_save_63 : decode cX9_save 63 = .ok (.sipush 184, 3) := by decide +kernel
theorem dX9_save_66 : decode cX9_save 66 = .ok (.aload_n 0, 1) := by decide +kernel
theorem dX9_save_67 : decode cX9_save 67 = .ok (.getfield 36, 3) := by decide +kernel
theorem dX9_save_70 : decode cX9_save 70 = .ok (.imul, 1) := by decide +kernel
theorem dX9_save_71 : decode cX9_save 71 = .ok (.iload_n 1, 1) := by decide +kernel
theorem dX9_save_72 : decode cX9_save 72 = .ok (.iadd, 1) := by decide +kernel
theorem dX9_save_73 : decode cX9_save 73 = .ok (.aload_n 0, 1) := by decide +kernel
theorem dX9_save_74 : decode cX9_save 74 = .ok (.getfield 7, 3) := by decide +kernel
theorem dX9_save_77 : decode cX9_save 77 = .ok (.iload_n 1, 1) := by decide +kernel
theorem dX9_save_78 : decode cX9_save 78 = .ok (.iaload, 1) := by decide +kernel
theorem dX9_save_79 : decode cX9_save 79 = .ok (.iastore, 1) := by decide +kernel
theorem dX9_save_80 : decode cX9_save 80 = .ok (.iinc 1 1, 3) := by decide +kernel
theorem dX9_save_83 : decode cX9_save 83 = .ok (.goto (-31), 3) := by decide +kernel
theorem dX9_save_86 : decode cX9_save 86 = .ok (.aload_n 0, 1) := by decide +kernel
theorem dX9_save_87 : decode cX9_save 87 = .ok (.dup, 1) := by decide +kernel
theorem dX9_save_88 : decode cX9_save 88 = .ok (.getfield 36, 3) := by decide +kernel
theorem dX9_save_91 : decode cX9_save 91 = .ok (.iconst 1, 1) := by decide +kernel
theorem dX9_save_92 : decode cX9_save 92 = .ok (.iadd, 1) := by decide +kernel
theorem dX9_save_93 : decode cX9_save 93 = .ok (.putfield 36, 3) := by decide +kernel
theorem dX9_save_96 : decode cX9_save 96 = .ok (.return_, 1) := by decide +kernel
theorem dX9_keep_0 : decode cX9_keep 0 = .ok (.iconst 0, 1) := by decide +kernel
theorem dX9_keep_1 : decode cX9_keep 1 = .ok (.istore_n 1, 1) := by decide +kernel
theorem dX9_keep_2 : decode cX9_keep 2 = .ok (.iload_n 1, 1) := by decide +kernel
theorem dX9_keep_3 : decode cX9_keep 3 = .ok (.sipush 184, 3) := by decide +kernel
theorem dX9_keep_6 : decode cX9_keep 6 = .ok (.if_icmp .ge 21, 3) := by decide +kernel
theorem dX9_keep_9 : decode cX9_keep 9 = .ok (.aload_n 0, 1) := by decide +kernel
theorem dX9_keep_10 : decode cX9_keep 10 = .ok (.getfield 13, 3) := by decide +kernel
theorem dX9_keep_13 : decode cX9_keep 13 = .ok (.iload_n 1, 1) := by decide +kernel
theorem dX9_keep_14 : decode cX9_keep 14 = .ok (.aload_n 0, 1) := by decide +kernel
theorem dX9_keep_15 : decode cX9_keep 15 = .ok (.getfield 7, 3) := by decide +kernel
theorem dX9_keep_18 : decode cX9_keep 18 = .ok (.iload_n 1, 1) := by decide +kernel
theorem dX9_keep_19 : decode cX9_keep 19 = .ok (.iaload, 1) := by decide +kernel
theorem dX9_keep_20 : decode cX9_keep 20 = .ok (.iastore, 1) := by decide +kernel
theorem dX9_keep_21 : decode cX9_keep 21 = .ok (.iinc 1 1, 3) := by decide +kernel
theorem dX9_keep_24 : decode cX9_keep 24 = .ok (.goto (-22), 3) := by decide +kernel
theorem dX9_keep_27 : decode cX9_keep 27 = .ok (.return_, 1) := by decide +kernel
theorem dX9_bring_0 : decode cX9_bring 0 = .ok (.iconst 0, 1) := by decide +kernel
theorem dX9_bring_1 : decode cX9_bring 1 = .ok (.istore_n 1, 1) := by decide +kernel
theorem dX9_bring_2 : decode cX9_bring 2 = .ok (.iload_n 1, 1) := by decide +kernel
theorem dX9_bring_3 : decode cX9_bring 3 = .ok (.sipush 184, 3) := by decide +kernel
theorem dX9_bring_6 : decode cX9_bring 6 = .ok (.if_icmp .ge 21, 3) := by decide +kernel
theorem dX9_bring_9 : decode cX9_bring 9 = .ok (.aload_n 0, 1) := by decide +kernel
theorem dX9_bring_10 : decode cX9_bring 10 = .ok (.getfield 7, 3) := by decide +kernel
theorem dX9_bring_13 : decode cX9_bring 13 = .ok (.iload_n 1, 1) := by decide +kernel
theorem dX9_bring_14 : decode cX9_bring 14 = .ok (.aload_n 0, 1) := by decide +kernel
theorem dX9_bring_15 : decode cX9_bring 15 = .ok (.getfield 13, 3) := by decide +kernel
theorem dX9_bring_18 : decode cX9_bring 18 = .ok (.iload_n 1, 1) := by decide +kernel
theorem dX9_bring_19 : decode cX9_bring 19 = .ok (.iaload, 1) := by decide +kernel
theorem dX9_bring_20 : decode cX9_bring 20 = .ok (.iastore, 1) := by decide +kernel
theorem dX9_bring_21 : decode cX9_bring 21 = .ok (.iinc 1 1, 3) := by decide +kernel
theorem dX9_bring_24 : decode cX9_bring 24 = .ok (.goto (-22), 3) := by decide +kernel
theorem dX9_bring_27 : decode cX9_bring 27 = .ok (.return_, 1) := by decide +kernel
theorem dX9_limitOf_0 : decode cX9_limitOf 0 = .ok (.aload_n 0, 1) := by decide +kernel
theorem dX9_limitOf_1 : decode cX9_limitOf 1 = .ok (.getfield 7, 3) := by decide +kernel
theorem dX9_limitOf_4 : decode cX9_limitOf 4 = .ok (.bipush 71, 2) := by decide +kernel
theorem dX9_limitOf_6 : decode cX9_limitOf 6 = .ok (.iaload, 1) := by decide +kernel
theorem dX9_limitOf_7 : decode cX9_limitOf 7 = .ok (.aload_n 0, 1) := by decide +kernel
theorem dX9_limitOf_8 : decode cX9_limitOf 8 = .ok (.getfield 7, 3) := by decide +kernel
theorem dX9_limitOf_11 : decode cX9_limitOf 11 = .ok (.bipush 10, 2) := by decide +kernel
theorem dX9_limitOf_13 : decode cX9_limitOf 13 = .ok (.iload_n 1, 1) := by decide +kernel
theorem dX9_limitOf_14 : decode cX9_limitOf 14 = .ok (.iadd, 1) := by decide +kernel
theorem dX9_limitOf_15 : decode cX9_limitOf 15 = .ok (.iaload, 1) := by decide +kernel
theorem dX9_limitOf_16 : decode cX9_limitOf 16 = .ok (.bipush 25, 2) := by decide +kernel
theorem dX9_limitOf_18 : decode cX9_limitOf 18 = .ok (.idiv, 1) := by decide +kernel
theorem dX9_limitOf_19 : decode cX9_limitOf 19 = .ok (.isub, 1) := by decide +kernel
theorem dX9_limitOf_20 : decode cX9_limitOf 20 = .ok (.ireturn, 1) := by decide +kernel
theorem dX9_windAt_0 : decode cX9_windAt 0 = .ok (.aload_n 0, 1) := by decide +kernel
theorem dX9_windAt_1 : decode cX9_windAt 1 = .ok (.getfield 7, 3) := by decide +kernel
theorem dX9_windAt_4 : decode cX9_windAt 4 = .ok (.bipush 78, 2) := by decide +kernel
theorem dX9_windAt_6 : decode cX9_windAt 6 = .ok (.iaload, 1) := by decide +kernel
theorem dX9_windAt_7 : decode cX9_windAt 7 = .ok (.ifCond .ne 8, 3) := by decide +kernel
theorem dX9_windAt_10 : decode cX9_windAt 10 = .ok (.bipush 8, 2) := by decide +kernel
theorem dX9_windAt_12 : decode cX9_windAt 12 = .ok (.goto 20, 3) := by decide +kernel
theorem dX9_windAt_15 : decode cX9_windAt 15 = .ok (.aload_n 0, 1) := by decide +kernel
theorem dX9_windAt_16 : decode cX9_windAt 16 = .ok (.getfield 7, 3) := by decide +kernel
theorem dX9_windAt_19 : decode cX9_windAt 19 = .ok (.bipush 79, 2) := by decide +kernel
theorem dX9_windAt_21 : decode cX9_windAt 21 = .ok (.iload_n 1, 1) := by decide +kernel
theorem dX9_windAt_22 : decode cX9_windAt 22 = .ok (.aload_n 0, 1) := by decide +kernel
theorem dX9_windAt_23 : decode cX9_windAt 23 = .ok (.getfield 7, 3) := by decide +kernel
theorem dX9_windAt_26 : decode cX9_windAt 26 = .ok (.bipush 78, 2) := by decide +kernel
theorem dX9_windAt_28 : decode cX9_windAt 28 = .ok (.iaload, 1) := by decide +kernel
theorem dX9_windAt_29 : decode cX9_windAt 29 = .ok (.irem, 1) := by decide +kernel
theorem dX9_windAt_30 : decode cX9_windAt 30 = .ok (.iadd, 1) := by decide +kernel
theorem dX9_windAt_31 : decode cX9_windAt 31 = .ok (.iaload, 1) := by decide +kernel
theorem dX9_windAt_32 : decode cX9_windAt 32 = .ok (.ireturn, 1) := by decide +kernel
theorem dX9_full_0 : decode cX9_full 0 = .ok (.iload_n 2, 1) := by decide +kernel
theorem dX9_full_1 : decode cX9_full 1 = .ok (.iconst 3, 1) := by decide +kernel
theorem dX9_full_2 : decode cX9_full 2 = .ok (.if_icmp .lt 9, 3) := by decide +kernel
theorem dX9_full_5 : decode cX9_full 5 = .ok (.iload_n 2, 1) := by decide +kernel
theorem dX9_full_6 : decode cX9_full 6 = .ok (.bipush 25, 2) := by decide +kernel
theorem dX9_full_8 : decode cX9_full 8 = .ok (.if_icmp .le 7, 3) := by decide +kernel
theorem dX9_full_11 : decode cX9_full 11 = .ok (.iconst 0, 1) := by decide +kernel
theorem dX9_full_12 : decode cX9_full 12 = .ok (.goto 28, 3) := by decide +kernel
theorem dX9_full_15 : decode cX9_full 15 = .ok (.aload_n 0, 1) := by decide +kernel
theorem dX9_full_16 : decode cX9_full 16 = .ok (.getfield 7, 3) := by decide +kernel
theorem dX9_full_19 : decode cX9_full 19 = .ok (.bipush 20, 2) := by decide +kernel
theorem dX9_full_21 : decode cX9_full 21 = .ok (.iload_n 1, 1) := by decide +kernel
theorem dX9_full_22 : decode cX9_full 22 = .ok (.iadd, 1) := by decide +kernel
theorem dX9_full_23 : decode cX9_full 23 = .ok (.iaload, 1) := by decide +kernel
theorem dX9_full_24 : decode cX9_full 24 = .ok (.iload_n 2, 1) := by decide +kernel
theorem dX9_full_25 : decode cX9_full 25 = .ok (.bipush 12, 2) := by decide +kernel
theorem dX9_full_27 : decode cX9_full 27 = .ok (.if_icmp .ge 7, 3) := by decide +kernel
theorem dX9_full_30 : decode cX9_full 30 = .ok (.iload_n 2, 1) := by decide +kernel
theorem dX9_full_31 : decode cX9_full 31 = .ok (.goto 5, 3) := by decide +kernel
theorem dX9_full_34 : decode cX9_full 34 = .ok (.bipush 12, 2) := by decide +kernel
theorem dX9_full_36 : decode cX9_full 36 = .ok (.imul, 1) := by decide +kernel
theorem dX9_full_37 : decode cX9_full 37 = .ok (.bipush 12, 2) := by decide +kernel
theorem dX9_full_39 : decode cX9_full 39 = .ok (.idiv, 1) := by decide +kernel
theorem dX9_full_40 : decode cX9_full 40 = .ok (.ireturn, 1) := by decide +kernel
theorem dX9_hoursOf_0 : decode cX9_hoursOf 0 = .ok (.iload_n 1, 1) := by decide +kernel
theorem dX9_hoursOf_1 : decode cX9_hoursOf 1 = .ok (.iload_n 2, 1) := by decide +kernel
theorem dX9_hoursOf_2 : decode cX9_hoursOf 2 = .ok (.if_icmp .ge 9, 3) := by decide +kernel
theorem dX9_hoursOf_5 : decode cX9_hoursOf 5 = .ok (.iload_n 2, 1) := by decide +kernel
theorem dX9_hoursOf_6 : decode cX9_hoursOf 6 = .ok (.iload_n 1, 1) := by decide +kernel
theorem dX9_hoursOf_7 : decode cX9_hoursOf 7 = .ok (.isub, 1) := by decide +kernel
theorem dX9_hoursOf_8 : decode cX9_hoursOf 8 = .ok (.goto 6, 3) := by decide +kernel
theorem dX9_hoursOf_11 : decode cX9_hoursOf 11 = .ok (.iload_n 1, 1) := by decide +kernel
theorem dX9_hoursOf_12 : decode cX9_hoursOf 12 = .ok (.iload_n 2, 1) := by decide +kernel
theorem dX9_hoursOf_13 : decode cX9_hoursOf 13 = .ok (.isub, 1) := by decide +kernel
theorem dX9_hoursOf_14 : decode cX9_hoursOf 14 = .ok (.istore_n 3, 1) := by decide +kernel
theorem dX9_hoursOf_15 : decode cX9_hoursOf 15 = .ok (.iload_n 3, 1) := by decide +kernel
theorem dX9_hoursOf_16 : decode cX9_hoursOf 16 = .ok (.aload_n 0, 1) := by decide +kernel
theorem dX9_hoursOf_17 : decode cX9_hoursOf 17 = .ok (.getfield 7, 3) := by decide +kernel
theorem dX9_hoursOf_20 : decode cX9_hoursOf 20 = .ok (.bipush 72, 2) := by decide +kernel
theorem dX9_hoursOf_22 : decode cX9_hoursOf 22 = .ok (.iaload, 1) := by decide +kernel
theorem dX9_hoursOf_23 : decode cX9_hoursOf 23 = .ok (.iadd, 1) := by decide +kernel
theorem dX9_hoursOf_24 : decode cX9_hoursOf 24 = .ok (.iconst 1, 1) := by decide +kernel
theorem dX9_hoursOf_25 : decode cX9_hoursOf 25 = .ok (.isub, 1) := by decide +kernel
theorem dX9_hoursOf_26 : decode cX9_hoursOf 26 = .ok (.aload_n 0, 1) := by decide +kernel
theorem dX9_hoursOf_27 : decode cX9_hoursOf 27 = .ok (.getfield 7, 3) := by decide +kernel
theorem dX9_hoursOf_30 : decode cX9_hoursOf 30 = .ok (.bipush 72, 2) := by decide +kernel
theorem dX9_hoursOf_32 : decode cX9_hoursOf 32 = .ok (.iaload, 1) := by decide +kernel
theorem dX9_hoursOf_33 : decode cX9_hoursOf 33 = .ok (.idiv, 1) := by decide +kernel
theorem dX9_hoursOf_34 : decode cX9_hoursOf 34 = .ok (.istore 4, 2) := by decide +kernel
theorem dX9_hoursOf_36 : decode cX9_hoursOf 36 = .ok (.iconst 0, 1) := by decide +kernel
theorem dX9_hoursOf_37 : decode cX9_hoursOf 37 = .ok (.istore 5, 2) := by decide +kernel
theorem dX9_hoursOf_39 : decode cX9_hoursOf 39 = .ok (.iload 5, 2) := by decide +kernel
theorem dX9_hoursOf_41 : decode cX9_hoursOf 41 = .ok (.aload_n 0, 1) := by decide +kernel
theorem dX9_hoursOf_42 : decode cX9_hoursOf 42 = .ok (.getfield 7, 3) := by decide +kernel
theorem dX9_hoursOf_45 : decode cX9_hoursOf 45 = .ok (.bipush 127, 2) := by decide +kernel
theorem dX9_hoursOf_47 : decode cX9_hoursOf 47 = .ok (.iaload, 1) := by decide +kernel
theorem dX9_hoursOf_48 : decode cX9_hoursOf 48 = .ok (.if_icmp .ge 95, 3) := by decide +kernel
theorem dX9_hoursOf_51 : decode cX9_hoursOf 51 = .ok (.aload_n 0, 1) := by decide +kernel
theorem dX9_hoursOf_52 : decode cX9_hoursOf 52 = .ok (.getfield 7, 3) := by decide +kernel
theorem dX9_hoursOf_55 : decode cX9_hoursOf 55 = .ok (.sipush 128, 3) := by decide +kernel
theorem dX9_hoursOf_58 : decode cX9_hoursOf 58 = .ok (.iload 5, 2) := by decide +kernel
theorem dX9_hoursOf_60 : decode cX9_hoursOf 60 = .ok (.iadd, 1) := by decide +kernel
theorem dX9_hoursOf_61 : decode cX9_hoursOf 61 = .ok (.iaload, 1) := by decide +kernel
theorem dX9_hoursOf_62 : decode cX9_hoursOf 62 = .ok (.istore 6, 2) := by decide +kernel
theorem dX9_hoursOf_64 : decode cX9_hoursOf 64 = .ok (.iload_n 1, 1) := by decide +kernel
theorem dX9_hoursOf_65 : decode cX9_hoursOf 65 = .ok (.iload 6, 2) := by decide +kernel
theorem dX9_hoursOf_67 : decode cX9_hoursOf 67 = .ok (.if_icmp .ge 9, 3) := by decide +kernel
theorem dX9_hoursOf_70 : decode cX9_hoursOf 70 = .ok (.iload 6, 2) := by decide +kernel
theorem dX9_hoursOf_72 : decode cX9_hoursOf 72 = .ok (.iload_n 2, 1) := by decide +kernel
theorem dX9_hoursOf_73 : decode cX9_hoursOf 73 = .ok (.if_icmp .lt 15, 3) := by decide +kernel
theorem dX9_hoursOf_76 : decode cX9_hoursOf 76 = .ok (.iload_n 2, 1) := by decide +kernel
theorem dX9_hoursOf_77 : decode cX9_hoursOf 77 = .ok (.iload 6, 2) := by decide +kernel
theorem dX9_hoursOf_79 : decode cX9_hoursOf 79 = .ok (.if_icmp .ge 13, 3) := by decide +kernel
theorem dX9_hoursOf_82 : decode cX9_hoursOf 82 = .ok (.iload 6, 2) := by decide +kernel
theorem dX9_hoursOf_84 : decode cX9_hoursOf 84 = .ok (.iload_n 1, 1) := by decide +kernel
theorem dX9_hoursOf_85 : decode cX9_hoursOf 85 = .ok (.if_icmp .ge 7, 3) := by decide +kernel
theorem dX9_hoursOf_88 : decode cX9_hoursOf 88 = .ok (.iconst 1, 1) := by decide +kernel
theorem dX9_hoursOf_89 : decode cX9_hoursOf 89 = .ok (.goto 4, 3) := by decide +kernel
theorem dX9_hoursOf_92 : decode cX9_hoursOf 92 = .ok (.iconst 0, 1) := by decide +kernel
theorem dX9_hoursOf_93 : decode cX9_hoursOf 93 = .ok (.istore 7, 2) := by decide +kernel
theorem dX9_hoursOf_95 : decode cX9_hoursOf 95 = .ok (.iload 4, 2) := by decide +kernel
theorem dX9_hoursOf_97 : decode cX9_hoursOf 97 = .ok (.iload 7, 2) := by decide +kernel
theorem dX9_hoursOf_99 : decode cX9_hoursOf 99 = .ok (.ifCond .eq 34, 3) := by decide +kernel
theorem dX9_hoursOf_102 : decode cX9_hoursOf 102 = .ok (.aload_n 0, 1) := by decide +kernel
theorem dX9_hoursOf_103 : decode cX9_hoursOf 103 = .ok (.getfield 7, 3) := by decide +kernel
theorem dX9_hoursOf_106 : decode cX9_hoursOf 106 = .ok (.sipush 134, 3) := by decide +kernel
theorem dX9_hoursOf_109 : decode cX9_hoursOf 109 = .ok (.iload 5, 2) := by decide +kernel
theorem dX9_hoursOf_111 : decode cX9_hoursOf 111 = .ok (.iadd, 1) := by decide +kernel
theorem dX9_hoursOf_112 : decode cX9_hoursOf 112 = .ok (.iaload, 1) := by decide +kernel
theorem dX9_hoursOf_113 : decode cX9_hoursOf 113 = .ok (.aload_n 0, 1) := by decide +kernel
theorem dX9_hoursOf_114 : decode cX9_hoursOf 114 = .ok (.getfield 7, 3) := by decide +kernel
theorem dX9_hoursOf_117 : decode cX9_hoursOf 117 = .ok (.bipush 77, 2) := by decide +kernel
theorem dX9_hoursOf_119 : decode cX9_hoursOf 119 = .ok (.iaload, 1) := by decide +kernel
theorem dX9_hoursOf_120 : decode cX9_hoursOf 120 = .ok (.if_icmp .le 13, 3) := by decide +kernel
theorem dX9_hoursOf_123 : decode cX9_hoursOf 123 = .ok (.aload_n 0, 1) := by decide +kernel
theorem dX9_hoursOf_124 : decode cX9_hoursOf 124 = .ok (.getfield 7, 3) := by decide +kernel
theorem dX9_hoursOf_127 : decode cX9_hoursOf 127 = .ok (.bipush 75, 2) := by decide +kernel
theorem dX9_hoursOf_129 : decode cX9_hoursOf 129 = .ok (.iaload, 1) := by decide +kernel
theorem dX9_hoursOf_130 : decode cX9_hoursOf 130 = .ok (.goto 4, 3) := by decide +kernel
theorem dX9_hoursOf_133 : decode cX9_hoursOf 133 = .ok (.iconst 0, 1) := by decide +kernel
theorem dX9_hoursOf_134 : decode cX9_hoursOf 134 = .ok (.iadd, 1) := by decide +kernel
theorem dX9_hoursOf_135 : decode cX9_hoursOf 135 = .ok (.istore 4, 2) := by decide +kernel
theorem dX9_hoursOf_137 : decode cX9_hoursOf 137 = .ok (.iinc 5 1, 3) := by decide +kernel
theorem dX9_hoursOf_140 : decode cX9_hoursOf 140 = .ok (.goto (-101), 3) := by decide +kernel
theorem dX9_hoursOf_143 : decode cX9_hoursOf 143 = .ok (.iload 4, 2) := by decide +kernel
theorem dX9_hoursOf_145 : decode cX9_hoursOf 145 = .ok (.ireturn, 1) := by decide +kernel
theorem dX9_bladeFor_0 : decode cX9_bladeFor 0 = .ok (.iconst (-1), 1) := by decide +kernel
theorem dX9_bladeFor_1 : decode cX9_bladeFor 1 = .ok (.istore_n 2, 1) := by decide +kernel
theorem dX9_bladeFor_2 : decode cX9_bladeFor 2 = .ok (.aload_n 0, 1) := by decide +kernel
theorem dX9_bladeFor_3 : decode cX9_bladeFor 3 = .ok (.getfield 7, 3) := by decide +kernel
theorem dX9_bladeFor_6 : decode cX9_bladeFor 6 = .ok (.sipush 156, 3) := by decide +kernel
theorem dX9_bladeFor_9 : decode cX9_bladeFor 9 = .ok (.iaload, 1) := by decide +kernel
theorem dX9_bladeFor_10 : decode cX9_bladeFor 10 = .ok (.iconst 1, 1) := by decide +kernel
theorem dX9_bladeFor_11 : decode cX9_bladeFor 11 = .ok (.isub, 1) := by decide +kernel
theorem dX9_bladeFor_12 : decode cX9_bladeFor 12 = .ok (.istore_n 3, 1) := by decide +kernel
theorem dX9_bladeFor_13 : decode cX9_bladeFor 13 = .ok (.iload_n 3, 1) := by decide +kernel
theorem dX9_bladeFor_14 : decode cX9_bladeFor 14 = .ok (.ifCond .lt 42, 3) := by decide +kernel
theorem dX9_bladeFor_17 : decode cX9_bladeFor 17 = .ok (.aload_n 0, 1) := by decide +kernel
theorem dX9_bladeFor_18 : decode cX9_bladeFor 18 = .ok (.getfield 7, 3) := by decide +kernel
theorem dX9_bladeFor_21 : decode cX9_bladeFor 21 = .ok (.sipush 157, 3) := by decide +kernel
theorem dX9_bladeFor_24 : decode cX9_bladeFor 24 = .ok (.iload_n 3, 1) := by decide +kernel
theorem dX9_bladeFor_25 : decode cX9_bladeFor 25 = .ok (.iadd, 1) := by decide +kernel
theorem dX9_bladeFor_26 : decode cX9_bladeFor 26 = .ok (.iaload, 1) := by decide +kernel
theorem dX9_bladeFor_27 : decode cX9_bladeFor 27 = .ok (.iload_n 1, 1) := by decide +kernel
theorem dX9_bladeFor_28 : decode cX9_bladeFor 28 = .ok (.if_icmp .ne 20, 3) := by decide +kernel
theorem dX9_bladeFor_31 : decode cX9_bladeFor 31 = .ok (.aload_n 0, 1) := by decide +kernel
theorem dX9_bladeFor_32 : decode cX9_bladeFor 32 = .ok (.getfield 7, 3) := by decide +kernel
theorem dX9_bladeFor_35 : decode cX9_bladeFor 35 = .ok (.sipush 167, 3) := by decide +kernel
theorem dX9_bladeFor_38 : decode cX9_bladeFor 38 = .ok (.iload_n 3, 1) := by decide +kernel
theorem dX9_bladeFor_39 : decode cX9_bladeFor 39 = .ok (.iadd, 1) := by decide +kernel
theorem dX9_bladeFor_40 : decode cX9_bladeFor 40 = .ok (.iaload, 1) := by decide +kernel
theorem dX9_bladeFor_41 : decode cX9_bladeFor 41 = .ok (.ifCond .ne 7, 3) := by decide +kernel
theorem dX9_bladeFor_44 : decode cX9_bladeFor 44 = .ok (.iload_n 3, 1) := by decide +kernel
theorem dX9_bladeFor_45 : decode cX9_bladeFor 45 = .ok (.goto 4, 3) := by decide +kernel
theorem dX9_bladeFor_48 : decode cX9_bladeFor 48 = .ok (.iload_n 2, 1) := by decide +kernel
theorem dX9_bladeFor_49 : decode cX9_bladeFor 49 = .ok (.istore_n 2, 1) := by decide +kernel
theorem dX9_bladeFor_50 : decode cX9_bladeFor 50 = .ok (.iinc 3 (-1), 3) := by decide +kernel
theorem dX9_bladeFor_53 : decode cX9_bladeFor 53 = .ok (.goto (-40), 3) := by decide +kernel
theorem dX9_bladeFor_56 : decode cX9_bladeFor 56 = .ok (.iload_n 2, 1) := by decide +kernel
theorem dX9_bladeFor_57 : decode cX9_bladeFor 57 = .ok (.ireturn, 1) := by decide +kernel
theorem dX9_unload_0 : decode cX9_unload 0 = .ok (.aload_n 0, 1) := by decide +kernel
theorem dX9_unload_1 : decode cX9_unload 1 = .ok (.getfield 7, 3) := by decide +kernel
theorem dX9_unload_4 : decode cX9_unload 4 = .ok (.bipush 76, 2) := by decide +kernel
theorem dX9_unload_6 : decode cX9_unload 6 = .ok (.iaload, 1) := by decide +kernel
theorem dX9_unload_7 : decode cX9_unload 7 = .ok (.istore_n 1, 1) := by decide +kernel
theorem dX9_unload_8 : decode cX9_unload 8 = .ok (.iconst 0, 1) := by decide +kernel
theorem dX9_unload_9 : decode cX9_unload 9 = .ok (.istore_n 2, 1) := by decide +kernel
theorem dX9_unload_10 : decode cX9_unload 10 = .ok (.iload_n 2, 1) := by decide +kernel
theorem dX9_unload_11 : decode cX9_unload 11 = .ok (.aload_n 0, 1) := by decide +kernel
theorem dX9_unload_12 : decode cX9_unload 12 = .ok (.getfield 7, 3) := by decide +kernel
theorem dX9_unload_15 : decode cX9_unload 15 = .ok (.sipush 156, 3) := by decide +kernel
theorem dX9_unload_18 : decode cX9_unload 18 = .ok (.iaload, 1) := by decide +kernel
theorem dX9_unload_19 : decode cX9_unload 19 = .ok (.if_icmp .ge 56, 3) := by decide +kernel
theorem dX9_unload_22 : decode cX9_unload 22 = .ok (.aload_n 0, 1) := by decide +kernel
theorem dX9_unload_23 : decode cX9_unload 23 = .ok (.getfield 7, 3) := by decide +kernel
theorem dX9_unload_26 : decode cX9_unload 26 = .ok (.sipush 167, 3) := by decide +kernel
theorem dX9_unload_29 : decode cX9_unload 29 = .ok (.iload_n 2, 1) := by decide +kernel
theorem dX9_unload_30 : decode cX9_unload 30 = .ok (.iadd, 1) := by decide +kernel
theorem dX9_unload_31 : decode cX9_unload 31 = .ok (.iaload, 1) := by decide +kernel
theorem dX9_unload_32 : decode cX9_unload 32 = .ok (.iload_n 1, 1) := by decide +kernel
theorem dX9_unload_33 : decode cX9_unload 33 = .ok (.if_icmp .ge 16, 3) := by decide +kernel
theorem dX9_unload_36 : decode cX9_unload 36 = .ok (.aload_n 0, 1) := by decide +kernel
theorem dX9_unload_37 : decode cX9_unload 37 = .ok (.getfield 7, 3) := by decide +kernel
theorem dX9_unload_40 : decode cX9_unload 40 = .ok (.sipush 167, 3) := by decide +kernel
theorem dX9_unload_43 : decode cX9_unload 43 = .ok (.iload_n 2, 1) := by decide +kernel
theorem dX9_unload_44 : decode cX9_unload 44 = .ok (.iadd, 1) := by decide +kernel
theorem dX9_unload_45 : decode cX9_unload 45 = .ok (.iaload, 1) := by decide +kernel
theorem dX9_unload_46 : decode cX9_unload 46 = .ok (.goto 4, 3) := by decide +kernel
theorem dX9_unload_49 : decode cX9_unload 49 = .ok (.iload_n 1, 1) := by decide +kernel
theorem dX9_unload_50 : decode cX9_unload 50 = .ok (.istore_n 3, 1) := by decide +kernel
theorem dX9_unload_51 : decode cX9_unload 51 = .ok (.aload_n 0, 1) := by decide +kernel
theorem dX9_unload_52 : decode cX9_unload 52 = .ok (.getfield 7, 3) := by decide +kernel
theorem dX9_unload_55 : decode cX9_unload 55 = .ok (.sipush 167, 3) := by decide +kernel
theorem dX9_unload_58 : decode cX9_unload 58 = .ok (.iload_n 2, 1) := by decide +kernel
theorem dX9_unload_59 : decode cX9_unload 59 = .ok (.iadd, 1) := by decide +kernel
theorem dX9_unload_60 : decode cX9_unload 60 = .ok (.dup2, 1) := by decide +kernel
theorem dX9_unload_61 : decode cX9_unload 61 = .ok (.iaload, 1) := by decide +kernel
theorem dX9_unload_62 : decode cX9_unload 62 = .ok (.iload_n 3, 1) := by decide +kernel
theorem dX9_unload_63 : decode cX9_unload 63 = .ok (.isub, 1) := by decide +kernel
theorem dX9_unload_64 : decode cX9_unload 64 = .ok (.iastore, 1) := by decide +kernel
theorem dX9_unload_65 : decode cX9_unload 65 = .ok (.iload_n 1, 1) := by decide +kernel
theorem dX9_unload_66 : decode cX9_unload 66 = .ok (.iload_n 3, 1) := by decide +kernel
theorem dX9_unload_67 : decode cX9_unload 67 = .ok (.isub, 1) := by decide +kernel
theorem dX9_unload_68 : decode cX9_unload 68 = .ok (.istore_n 1, 1) := by decide +kernel
theorem dX9_unload_69 : decode cX9_unload 69 = .ok (.iinc 2 1, 3) := by decide +kernel
theorem dX9_unload_72 : decode cX9_unload 72 = .ok (.goto (-62), 3) := by decide +kernel
theorem dX9_unload_75 : decode cX9_unload 75 = .ok (.return_, 1) := by decide +kernel
theorem dX9_takeOff_0 : decode cX9_takeOff 0 = .ok (.aload_n 0, 1) := by decide +kernel
theorem dX9_takeOff_1 : decode cX9_takeOff 1 = .ok (.getfield 7, 3) := by decide +kernel
theorem dX9_takeOff_4 : decode cX9_takeOff 4 = .ok (.sipush 145, 3) := by decide +kernel
theorem dX9_takeOff_7 : decode cX9_takeOff 7 = .ok (.dup2, 1) := by decide +kernel
theorem dX9_takeOff_8 : decode cX9_takeOff 8 = .ok (.iaload, 1) := by decide +kernel
theorem dX9_takeOff_9 : decode cX9_takeOff 9 = .ok (.iconst 1, 1) := by decide +kernel
theorem dX9_takeOff_10 : decode cX9_takeOff 10 = .ok (.isub, 1) := by decide +kernel
theorem dX9_takeOff_11 : decode cX9_takeOff 11 = .ok (.iastore, 1) := by decide +kernel
theorem dX9_takeOff_12 : decode cX9_takeOff 12 = .ok (.iload_n 1, 1) := by decide +kernel
theorem dX9_takeOff_13 : decode cX9_takeOff 13 = .ok (.istore_n 2, 1) := by decide +kernel
theorem dX9_takeOff_14 : decode cX9_takeOff 14 = .ok (.iload_n 2, 1) := by decide +kernel
theorem dX9_takeOff_15 : decode cX9_takeOff 15 = .ok (.aload_n 0, 1) := by decide +kernel
theorem dX9_takeOff_16 : decode cX9_takeOff 16 = .ok (.getfield 7, 3) := by decide +kernel
theorem dX9_takeOff_19 : decode cX9_takeOff 19 = .ok (.sipush 145, 3) := by decide +kernel
theorem dX9_takeOff_22 : decode cX9_takeOff 22 = .ok (.iaload, 1) := by decide +kernel
theorem dX9_takeOff_23 : decode cX9_takeOff 23 = .ok (.if_icmp .ge 31, 3) := by decide +kernel
theorem dX9_takeOff_26 : decode cX9_takeOff 26 = .ok (.aload_n 0, 1) := by decide +kernel
theorem dX9_takeOff_27 : decode cX9_takeOff 27 = .ok (.getfield 7, 3) := by decide +kernel
theorem dX9_takeOff_30 : decode cX9_takeOff 30 = .ok (.sipush 146, 3) := by decide +kernel
theorem dX9_takeOff_33 : decode cX9_takeOff 33 = .ok (.iload_n 2, 1) := by decide +kernel
theorem dX9_takeOff_34 : decode cX9_takeOff 34 = .ok (.iadd, 1) := by decide +kernel
theorem dX9_takeOff_35 : decode cX9_takeOff 35 = .ok (.aload_n 0, 1) := by decide +kernel
theorem dX9_takeOff_36 : decode cX9_takeOff 36 = .ok (.getfield 7, 3) := by decide +kernel
theorem dX9_takeOff_39 : decode cX9_takeOff 39 = .ok (.sipush 146, 3) := by decide +kernel
theorem dX9_takeOff_42 : decode cX9_takeOff 42 = .ok (.iload_n 2, 1) := by decide +kernel
theorem dX9_takeOff_43 : decode cX9_takeOff 43 = .ok (.iadd, 1) := by decide +kernel
theorem dX9_takeOff_44 : decode cX9_takeOff 44 = .ok (.iconst 1, 1) := by decide +kernel
theorem dX9_takeOff_45 : decode cX9_takeOff 45 = .ok (.iadd, 1) := by decide +kernel
theorem dX9_takeOff_46 : decode cX9_takeOff 46 = .ok (.iaload, 1) := by decide +kernel
theorem dX9_takeOff_47 : decode cX9_takeOff 47 = .ok (.iastore, 1) := by decide +kernel
theorem dX9_takeOff_48 : decode cX9_takeOff 48 = .ok (.iinc 2 1, 3) := by decide +kernel
theorem dX9_takeOff_51 : decode cX9_takeOff 51 = .ok (.goto (-37), 3) := by decide +kernel
theorem dX9_takeOff_54 : decode cX9_takeOff 54 = .ok (.return_, 1) := by decide +kernel
theorem dX9_use_0 : decode cX9_use 0 = .ok (.aload_n 0, 1) := by decide +kernel
theorem dX9_use_1 : decode cX9_use 1 = .ok (.getfield 7, 3) := by decide +kernel
theorem dX9_use_4 : decode cX9_use 4 = .ok (.sipush 156, 3) := by decide +kernel
theorem dX9_use_7 : decode cX9_use 7 = .ok (.dup2, 1) := by decide +kernel
theorem dX9_use_8 : decode cX9_use 8 = .ok (.iaload, 1) := by decide +kernel
theorem dX9_use_9 : decode cX9_use 9 = .ok (.iconst 1, 1) := by decide +kernel
theorem dX9_use_10 : decode cX9_use 10 = .ok (.isub, 1) := by decide +kernel
theorem dX9_use_11 : decode cX9_use 11 = .ok (.iastore, 1) := by decide +kernel
theorem dX9_use_12 : decode cX9_use 12 = .ok (.iload_n 1, 1) := by decide +kernel
theorem dX9_use_13 : decode cX9_use 13 = .ok (.istore_n 2, 1) := by decide +kernel
theorem dX9_use_14 : decode cX9_use 14 = .ok (.iload_n 2, 1) := by decide +kernel
theorem dX9_use_15 : decode cX9_use 15 = .ok (.aload_n 0, 1) := by decide +kernel
theorem dX9_use_16 : decode cX9_use 16 = .ok (.getfield 7, 3) := by decide +kernel
theorem dX9_use_19 : decode cX9_use 19 = .ok (.sipush 156, 3) := by decide +kernel
theorem dX9_use_22 : decode cX9_use 22 = .ok (.iaload, 1) := by decide +kernel
theorem dX9_use_23 : decode cX9_use 23 = .ok (.if_icmp .ge 53, 3) := by decide +kernel
theorem dX9_use_26 : decode cX9_use 26 = .ok (.aload_n 0, 1) := by decide +kernel
theorem dX9_use_27 : decode cX9_use 27 = .ok (.getfield 7, 3) := by decide +kernel
theorem dX9_use_30 : decode cX9_use 30 = .ok (.sipush 157, 3) := by decide +kernel
theorem dX9_use_33 : decode cX9_use 33 = .ok (.iload_n 2, 1) := by decide +kernel
theorem dX9_use_34 : decode cX9_use 34 = .ok (.iadd, 1) := by decide +kernel
theorem dX9_use_35 : decode cX9_use 35 = .ok (.aload_n 0, 1) := by decide +kernel
theorem dX9_use_36 : decode cX9_use 36 = .ok (.getfield 7, 3) := by decide +kernel
theorem dX9_use_39 : decode cX9_use 39 = .ok (.sipush 157, 3) := by decide +kernel
theorem dX9_use_42 : decode cX9_use 42 = .ok (.iload_n 2, 1) := by decide +kernel
theorem dX9_use_43 : decode cX9_use 43 = .ok (.iadd, 1) := by decide +kernel
theorem dX9_use_44 : decode cX9_use 44 = .ok (.iconst 1, 1) := by decide +kernel
theorem dX9_use_45 : decode cX9_use 45 = .ok (.iadd, 1) := by decide +kernel
theorem dX9_use_46 : decode cX9_use 46 = .ok (.iaload, 1) := by decide +kernel
theorem dX9_use_47 : decode cX9_use 47 = .ok (.iastore, 1) := by decide +kernel
theorem dX9_use_48 : decode cX9_use 48 = .ok (.aload_n 0, 1) := by decide +kernel
theorem dX9_use_49 : decode cX9_use 49 = .ok (.getfield 7, 3) := by decide +kernel
theorem dX9_use_52 : decode cX9_use 52 = .ok (.sipush 167, 3) := by decide +kernel
theorem dX9_use_55 : decode cX9_use 55 = .ok (.iload_n 2, 1) := by decide +kernel
theorem dX9_use_56 : decode cX9_use 56 = .ok (.iadd, 1) := by decide +kernel
theorem dX9_use_57 : decode cX9_use 57 = .ok (.aload_n 0, 1) := by decide +kernel
theorem dX9_use_58 : decode cX9_use 58 = .ok (.getfield 7, 3) := by decide +kernel
theorem dX9_use_61 : decode cX9_use 61 = .ok (.sipush 167, 3) := by decide +kernel
theorem dX9_use_64 : decode cX9_use 64 = .ok (.iload_n 2, 1) := by decide +kernel
theorem dX9_use_65 : decode cX9_use 65 = .ok (.iadd, 1) := by decide +kernel
theorem dX9_use_66 : decode cX9_use 66 = .ok (.iconst 1, 1) := by decide +kernel
theorem dX9_use_67 : decode cX9_use 67 = .ok (.iadd, 1) := by decide +kernel
theorem dX9_use_68 : decode cX9_use 68 = .ok (.iaload, 1) := by decide +kernel
theorem dX9_use_69 : decode cX9_use 69 = .ok (.iastore, 1) := by decide +kernel
theorem dX9_use_70 : decode cX9_use 70 = .ok (.iinc 2 1, 3) := by decide +kernel
theorem dX9_use_73 : decode cX9_use 73 = .ok (.goto (-59), 3) := by decide +kernel
theorem dX9_use_76 : decode cX9_use 76 = .ok (.return_, 1) := by decide +kernel
theorem dX9_forget_0 : decode cX9_forget 0 = .ok (.aload_n 0, 1) := by decide +kernel
theorem dX9_forget_1 : decode cX9_forget 1 = .ok (.getfield 7, 3) := by decide +kernel
theorem dX9_forget_4 : decode cX9_forget 4 = .ok (.sipush 143, 3) := by decide +kernel
theorem dX9_forget_7 : decode cX9_forget 7 = .ok (.iconst 0, 1) := by decide +kernel
theorem dX9_forget_8 : decode cX9_forget 8 = .ok (.iastore, 1) := by decide +kernel
theorem dX9_forget_9 : decode cX9_forget 9 = .ok (.aload_n 0, 1) := by decide +kernel
theorem dX9_forget_10 : decode cX9_forget 10 = .ok (.getfield 7, 3) := by decide +kernel
theorem dX9_forget_13 : decode cX9_forget 13 = .ok (.sipush 144, 3) := by decide +kernel
theorem dX9_forget_16 : decode cX9_forget 16 = .ok (.iconst (-1), 1) := by decide +kernel
theorem dX9_forget_17 : decode cX9_forget 17 = .ok (.iastore, 1) := by decide +kernel
theorem dX9_forget_18 : decode cX9_forget 18 = .ok (.return_, 1) := by decide +kernel
set_option maxRecDepth 20000 in
theorem ggX9_serve_X9_hoursOf : GoodIn wsX9_serve wsX9_hoursOf := goodIn_r _ [6, 1, 15, 16, 17, 18, 19, 20, 21, 22, 23, 24, 25, 26, 27, 28, 29] (by decide +kernel) (by decide +kernel)
set_option maxRecDepth 20000 in
theorem gX9_serve_X9_hoursOf : GoodIn wsX9_serve (wsV RX9 39 RX9 yX9_hoursOf wsX9_hoursOf) := goodIn_app (goodIn_of _ (by decide +kernel)) ggX9_serve_X9_hoursOf
set_option maxRecDepth 20000 in
theorem ggX9_serve_X9_bladeFor : GoodIn wsX9_serve wsX9_bladeFor := goodIn_r _ [10, 1, 15, 16, 17, 18, 19, 20, 21, 22, 23, 24, 25, 26, 27, 28, 29] (by decide +kernel) (by decide +kernel)
set_option maxRecDepth 20000 in
theorem gX9_serve_X9_bladeFor : GoodIn wsX9_serve (wsV RX9 43 RX9 yX9_bladeFor wsX9_bladeFor) := goodIn_app (goodIn_of _ (by decide +kernel)) ggX9_serve_X9_bladeFor
set_option maxRecDepth 20000 in
theorem ggX9_serve_X9_limitOf : GoodIn wsX9_serve wsX9_limitOf := goodIn_r _ [14, 1, 15, 16, 17, 18, 19, 20, 21, 22, 23, 24, 25, 26, 27, 28, 29] (by decide +kernel) (by decide +kernel)
set_option maxRecDepth 20000 in
theorem gX9_serve_X9_limitOf : GoodIn wsX9_serve (wsV RX9 47 RX9 yX9_limitOf wsX9_limitOf) := goodIn_app (goodIn_of _ (by decide +kernel)) ggX9_serve_X9_limitOf
theorem dX9_serve_0 : decode cX9_serve 0 = .ok (.aload_n 0, 1) := by decide +kernel
theorem dX9_serve_1 : decode cX9_serve 1 = .ok (.getfield 7, 3) := by decide +kernel
theorem dX9_serve_4 : decode cX9_serve 4 = .ok (.sipush 141, 3) := by decide +kernel
theorem dX9_serve_7 : decode cX9_serve 7 = .ok (.iaload, 1) := by decide +kernel
theorem dX9_serve_8 : decode cX9_serve 8 = .ok (.iload_n 1, 1) := by decide +kernel
theorem dX9_serve_9 : decode cX9_serve 9 = .ok (.if_icmp .ne 18, 3) := by decide +kernel
theorem dX9_serve_12 : decode cX9_serve 12 = .ok (.aload_n 0, 1) := by decide +kernel
theorem dX9_serve_13 : decode cX9_serve 13 = .ok (.getfield 7, 3) := by decide +kernel
theorem dX9_serve_16 : decode cX9_serve 16 = .ok (.sipush 142, 3) := by decide +kernel
theorem dX9_serve_19 : decode cX9_serve 19 = .ok (.dup2, 1) := by decide +kernel
theorem dX9_serve_20 : decode cX9_serve 20 = .ok (.iaload, 1) := by decide +kernel
theorem dX9_serve_21 : decode cX9_serve 21 = .ok (.iconst 1, 1) := by decide +kernel
theorem dX9_serve_22 : decode cX9_serve 22 = .ok (.isub, 1) := by decide +kernel
theorem dX9_serve_23 : decode cX9_serve 23 = .ok (.iastore, 1) := by decide +kernel
theorem dX9_serve_24 : decode cX9_serve 24 = .ok (.goto 131, 3) := by decide +kernel
theorem dX9_serve_27 : decode cX9_serve 27 = .ok (.aload_n 0, 1) := by decide +kernel
theorem dX9_serve_28 : decode cX9_serve 28 = .ok (.getfield 7, 3) := by decide +kernel
theorem dX9_serve_31 : decode cX9_serve 31 = .ok (.sipush 141, 3) := by decide +kernel
theorem dX9_serve_34 : decode cX9_serve 34 = .ok (.iaload, 1) := by decide +kernel
theorem dX9_serve_35 : decode cX9_serve 35 = .ok (.iconst (-1), 1) := by decide +kernel
theorem dX9_serve_36 : decode cX9_serve 36 = .ok (.if_icmp .ne 22, 3) := by decide +kernel
theorem dX9_serve_39 : decode cX9_serve 39 = .ok (.aload_n 0, 1) := by decide +kernel
theorem dX9_serve_40 : decode cX9_serve 40 = .ok (.getfield 7, 3) := by decide +kernel
theorem dX9_serve_43 : decode cX9_serve 43 = .ok (.sipush 140, 3) := by decide +kernel
theorem dX9_serve_46 : decode cX9_serve 46 = .ok (.iaload, 1) := by decide +kernel
theorem dX9_serve_47 : decode cX9_serve 47 = .ok (.aload_n 0, 1) := by decide +kernel
theorem dX9_serve_48 : decode cX9_serve 48 = .ok (.getfield 7, 3) := by decide +kernel
theorem dX9_serve_51 : decode cX9_serve 51 = .ok (.iconst 0, 1) := by decide +kernel
theorem dX9_serve_52 : decode cX9_serve 52 = .ok (.iload_n 1, 1) := by decide +kernel
theorem dX9_serve_53 : decode cX9_serve 53 = .ok (.iadd, 1) := by decide +kernel
theorem dX9_serve_54 : decode cX9_serve 54 = .ok (.iaload, 1) := by decide +kernel
theorem dX9_serve_55 : decode cX9_serve 55 = .ok (.if_icmp .eq 55, 3) := by decide +kernel
theorem dX9_serve_58 : decode cX9_serve 58 = .ok (.aload_n 0, 1) := by decide +kernel
theorem dX9_serve_59 : decode cX9_serve 59 = .ok (.aload_n 0, 1) := by decide +kernel
theorem dX9_serve_60 : decode cX9_serve 60 = .ok (.getfield 7, 3) := by decide +kernel
theorem dX9_serve_63 : decode cX9_serve 63 = .ok (.sipush 140, 3) := by decide +kernel
theorem dX9_serve_66 : decode cX9_serve 66 = .ok (.iaload, 1) := by decide +kernel
theorem dX9_serve_67 : decode cX9_serve 67 = .ok (.aload_n 0, 1) := by decide +kernel
theorem dX9_serve_68 : decode cX9_serve 68 = .ok (.getfield 7, 3) := by decide +kernel
theorem dX9_serve_71 : decode cX9_serve 71 = .ok (.iconst 0, 1) := by decide +kernel
theorem dX9_serve_72 : decode cX9_serve 72 = .ok (.iload_n 1, 1) := by decide +kernel
theorem dX9_serve_73 : decode cX9_serve 73 = .ok (.iadd, 1) := by decide +kernel
theorem dX9_serve_74 : decode cX9_serve 74 = .ok (.iaload, 1) := by decide +kernel
theorem dX9_serve_75 : decode cX9_serve 75 = .ok (.invokevirtual 39, 3) := by decide +kernel
theorem dX9_serve_78 : decode cX9_serve 78 = .ok (.istore_n 3, 1) := by decide +kernel
theorem dX9_serve_79 : decode cX9_serve 79 = .ok (.aload_n 0, 1) := by decide +kernel
theorem dX9_serve_80 : decode cX9_serve 80 = .ok (.getfield 7, 3) := by decide +kernel
theorem dX9_serve_83 : decode cX9_serve 83 = .ok (.sipush 141, 3) := by decide +kernel
theorem dX9_serve_86 : decode cX9_serve 86 = .ok (.iload_n 1, 1) := by decide +kernel
theorem dX9_serve_87 : decode cX9_serve 87 = .ok (.iastore, 1) := by decide +kernel
theorem dX9_serve_88 : decode cX9_serve 88 = .ok (.aload_n 0, 1) := by decide +kernel
theorem dX9_serve_89 : decode cX9_serve 89 = .ok (.getfield 7, 3) := by decide +kernel
theorem dX9_serve_92 : decode cX9_serve 92 = .ok (.sipush 142, 3) := by decide +kernel
theorem dX9_serve_95 : decode cX9_serve 95 = .ok (.iload_n 3, 1) := by decide +kernel
theorem dX9_serve_96 : decode cX9_serve 96 = .ok (.ifCond .ne 7, 3) := by decide +kernel
theorem dX9_serve_99 : decode cX9_serve 99 = .ok (.iconst 0, 1) := by decide +kernel
theorem dX9_serve_100 : decode cX9_serve 100 = .ok (.goto 6, 3) := by decide +kernel
theorem dX9_serve_103 : decode cX9_serve 103 = .ok (.iload_n 3, 1) := by decide +kernel
theorem dX9_serve_104 : decode cX9_serve 104 = .ok (.iconst 1, 1) := by decide +kernel
theorem dX9_serve_105 : decode cX9_serve 105 = .ok (.isub, 1) := by decide +kernel
theorem dX9_serve_106 : decode cX9_serve 106 = .ok (.iastore, 1) := by decide +kernel
theorem dX9_serve_107 : decode cX9_serve 107 = .ok (.goto 48, 3) := by decide +kernel
theorem dX9_serve_110 : decode cX9_serve 110 = .ok (.aload_n 0, 1) := by decide +kernel
theorem dX9_serve_111 : decode cX9_serve 111 = .ok (.iload_n 1, 1) := by decide +kernel
theorem dX9_serve_112 : decode cX9_serve 112 = .ok (.invokevirtual 43, 3) := by decide +kernel
theorem dX9_serve_115 : decode cX9_serve 115 = .ok (.iconst (-1), 1) := by decide +kernel
theorem dX9_serve_116 : decode cX9_serve 116 = .ok (.if_icmp .ne 5, 3) := by decide +kernel
theorem dX9_serve_119 : decode cX9_serve 119 = .ok (.iconst 2, 1) := by decide +kernel
theorem dX9_serve_120 : decode cX9_serve 120 = .ok (.ireturn, 1) := by decide +kernel
theorem dX9_serve_121 : decode cX9_serve 121 = .ok (.iload_n 2, 1) := by decide +kernel
theorem dX9_serve_122 : decode cX9_serve 122 = .ok (.aload_n 0, 1) := by decide +kernel
theorem dX9_serve_123 : decode cX9_serve 123 = .ok (.iload_n 1, 1) := by decide +kernel
theorem dX9_serve_124 : decode cX9_serve 124 = .ok (.invokevirtual 47, 3) := by decide +kernel
theorem dX9_serve_127 : decode cX9_serve 127 = .ok (.if_icmp .le 5, 3) := by decide +kernel
theorem dX9_serve_130 : decode cX9_serve 130 = .ok (.iconst 3, 1) := by decide +kernel
theorem dX9_serve_131 : decode cX9_serve 131 = .ok (.ireturn, 1) := by decide +kernel
theorem dX9_serve_132 : decode cX9_serve 132 = .ok (.aload_n 0, 1) := by decide +kernel
theorem dX9_serve_133 : decode cX9_serve 133 = .ok (.getfield 7, 3) := by decide +kernel
theorem dX9_serve_136 : decode cX9_serve 136 = .ok (.sipush 144, 3) := by decide +kernel
theorem dX9_serve_139 : decode cX9_serve 139 = .ok (.iload_n 1, 1) := by decide +kernel
theorem dX9_serve_140 : decode cX9_serve 140 = .ok (.iastore, 1) := by decide +kernel
theorem dX9_serve_141 : decode cX9_serve 141 = .ok (.aload_n 0, 1) := by decide +kernel
theorem dX9_serve_142 : decode cX9_serve 142 = .ok (.getfield 7, 3) := by decide +kernel
theorem dX9_serve_145 : decode cX9_serve 145 = .ok (.sipush 143, 3) := by decide +kernel
theorem dX9_serve_148 : decode cX9_serve 148 = .ok (.dup2, 1) := by decide +kernel
theorem dX9_serve_149 : decode cX9_serve 149 = .ok (.iaload, 1) := by decide +kernel
theorem dX9_serve_150 : decode cX9_serve 150 = .ok (.iconst 1, 1) := by decide +kernel
theorem dX9_serve_151 : decode cX9_serve 151 = .ok (.iadd, 1) := by decide +kernel
theorem dX9_serve_152 : decode cX9_serve 152 = .ok (.iastore, 1) := by decide +kernel
theorem dX9_serve_153 : decode cX9_serve 153 = .ok (.iconst 4, 1) := by decide +kernel
theorem dX9_serve_154 : decode cX9_serve 154 = .ok (.ireturn, 1) := by decide +kernel
theorem dX9_serve_155 : decode cX9_serve 155 = .ok (.aload_n 0, 1) := by decide +kernel
theorem dX9_serve_156 : decode cX9_serve 156 = .ok (.getfield 7, 3) := by decide +kernel
theorem dX9_serve_159 : decode cX9_serve 159 = .ok (.sipush 142, 3) := by decide +kernel
theorem dX9_serve_162 : decode cX9_serve 162 = .ok (.iaload, 1) := by decide +kernel
theorem dX9_serve_163 : decode cX9_serve 163 = .ok (.ifCond .ne 28, 3) := by decide +kernel
theorem dX9_serve_166 : decode cX9_serve 166 = .ok (.aload_n 0, 1) := by decide +kernel
theorem dX9_serve_167 : decode cX9_serve 167 = .ok (.getfield 7, 3) := by decide +kernel
theorem dX9_serve_170 : decode cX9_serve 170 = .ok (.sipush 140, 3) := by decide +kernel
theorem dX9_serve_173 : decode cX9_serve 173 = .ok (.aload_n 0, 1) := by decide +kernel
theorem dX9_serve_174 : decode cX9_serve 174 = .ok (.getfield 7, 3) := by decide +kernel
theorem dX9_serve_177 : decode cX9_serve 177 = .ok (.iconst 0, 1) := by decide +kernel
theorem dX9_serve_178 : decode cX9_serve 178 = .ok (.iload_n 1, 1) := by decide +kernel
theorem dX9_serve_179 : decode cX9_serve 179 = .ok (.iadd, 1) := by decide +kernel
theorem dX9_serve_180 : decode cX9_serve 180 = .ok (.iaload, 1) := by decide +kernel
theorem dX9_serve_181 : decode cX9_serve 181 = .ok (.iastore, 1) := by decide +kernel
theorem dX9_serve_182 : decode cX9_serve 182 = .ok (.aload_n 0, 1) := by decide +kernel
theorem dX9_serve_183 : decode cX9_serve 183 = .ok (.getfield 7, 3) := by decide +kernel
theorem dX9_serve_186 : decode cX9_serve 186 = .ok (.sipush 141, 3) := by decide +kernel
theorem dX9_serve_189 : decode cX9_serve 189 = .ok (.iconst (-1), 1) := by decide +kernel
theorem dX9_serve_190 : decode cX9_serve 190 = .ok (.iastore, 1) := by decide +kernel
theorem dX9_serve_191 : decode cX9_serve 191 = .ok (.iconst 1, 1) := by decide +kernel
theorem dX9_serve_192 : decode cX9_serve 192 = .ok (.ireturn, 1) := by decide +kernel
set_option maxRecDepth 20000 in
theorem ggX9_goHour_X9_unload : GoodIn wsX9_goHour wsX9_unload := goodIn_r _ [6, 1, 46, 47, 48, 49, 50, 51, 52, 53, 54, 55, 56, 57, 58, 59, 60] (by decide +kernel) (by decide +kernel)
set_option maxRecDepth 20000 in
theorem gX9_goHour_X9_unload : GoodIn wsX9_goHour (wsV RX9 50 RX9 yX9_unload wsX9_unload) := goodIn_app (goodIn_of _ (by decide +kernel)) ggX9_goHour_X9_unload
set_option maxRecDepth 20000 in
theorem ggX9_goHour_X9_forget : GoodIn wsX9_goHour wsX9_forget := goodIn_r _ [10, 1, 46, 47, 48, 49, 50, 51, 52, 53, 54, 55, 56, 57, 58, 59, 60] (by decide +kernel) (by decide +kernel)
set_option maxRecDepth 20000 in
theorem gX9_goHour_X9_forget : GoodIn wsX9_goHour (wsV RX9 53 RX9 yX9_forget wsX9_forget) := goodIn_app (goodIn_of _ (by decide +kernel)) ggX9_goHour_X9_forget
set_option maxRecDepth 20000 in
theorem ggX9_goHour_X9_takeOff : GoodIn wsX9_goHour wsX9_takeOff := goodIn_r _ [14, 1, 46, 47, 48, 49, 50, 51, 52, 53, 54, 55, 56, 57, 58, 59, 60] (by decide +kernel) (by decide +kernel)
set_option maxRecDepth 20000 in
theorem gX9_goHour_X9_takeOff : GoodIn wsX9_goHour (wsV RX9 56 RX9 yX9_takeOff wsX9_takeOff) := goodIn_app (goodIn_of _ (by decide +kernel)) ggX9_goHour_X9_takeOff
set_option maxRecDepth 20000 in
theorem ggX9_goHour_X9_windAt : GoodIn wsX9_goHour wsX9_windAt := goodIn_r _ [18, 1, 46, 47, 48, 49, 50, 51, 52, 53, 54, 55, 56, 57, 58, 59, 60] (by decide +kernel) (by decide +kernel)
set_option maxRecDepth 20000 in
theorem gX9_goHour_X9_windAt : GoodIn wsX9_goHour (wsV RX9 60 RX9 yX9_windAt wsX9_windAt) := goodIn_app (goodIn_of _ (by decide +kernel)) ggX9_goHour_X9_windAt
set_option maxRecDepth 20000 in
theorem ggX9_goHour_X9_serve : GoodIn wsX9_goHour wsX9_serve := goodIn_r _ [22, 1, 23, 24, 25, 5, 26, 27, 28, 29, 30, 31, 32, 33, 34, 46, 47, 48, 49, 50, 51, 52, 53, 54, 55, 56, 57, 58, 59, 60] (by decide +kernel) (by decide +kernel)
set_option maxRecDepth 20000 in
theorem gX9_goHour_X9_serve : GoodIn wsX9_goHour (wsV RX9 63 RX9 yX9_serve wsX9_serve) := goodIn_app (goodIn_of _ (by decide +kernel)) ggX9_goHour_X9_serve
set_option maxRecDepth 20000 in
theorem ggX9_goHour_X9_full : GoodIn wsX9_goHour wsX9_full := goodIn_r _ [38, 1, 46, 47, 48, 49, 50, 51, 52, 53, 54, 55, 56, 57, 58, 59, 60] (by decide +kernel) (by decide +kernel)
set_option maxRecDepth 20000 in
theorem gX9_goHour_X9_full : GoodIn wsX9_goHour (wsV RX9 66 RX9 yX9_full wsX9_full) := goodIn_app (goodIn_of _ (by decide +kernel)) ggX9_goHour_X9_full
set_option maxRecDepth 20000 in
theorem ggX9_goHour_X9_bladeFor : GoodIn wsX9_goHour wsX9_bladeFor := goodIn_r _ [30, 1, 46, 47, 48, 49, 50, 51, 52, 53, 54, 55, 56, 57, 58, 59, 60] (by decide +kernel) (by decide +kernel)
set_option maxRecDepth 20000 in
theorem gX9_goHour_X9_bladeFor : GoodIn wsX9_goHour (wsV RX9 43 RX9 yX9_bladeFor wsX9_bladeFor) := goodIn_app (goodIn_of _ (by decide +kernel)) ggX9_goHour_X9_bladeFor
set_option maxRecDepth 20000 in
theorem ggX9_goHour_X9_use : GoodIn wsX9_goHour wsX9_use := goodIn_r _ [42, 1, 46, 47, 48, 49, 50, 51, 52, 53, 54, 55, 56, 57, 58, 59, 60] (by decide +kernel) (by decide +kernel)
set_option maxRecDepth 20000 in
theorem gX9_goHour_X9_use : GoodIn wsX9_goHour (wsV RX9 69 RX9 yX9_use wsX9_use) := goodIn_app (goodIn_of _ (by decide +kernel)) ggX9_goHour_X9_use
set_option maxRecDepth 20000 in
theorem ggX9_goHour_X9_within : GoodIn wsX9_goHour wsX9_within := goodIn_r _ [45] (by decide +kernel) (by decide +kernel)
set_option maxRecDepth 20000 in
theorem gX9_goHour_X9_within : GoodIn wsX9_goHour (va_wsS RX9 32 yX9_within wsX9_within) := goodIn_app (goodIn_of _ (by decide +kernel)) ggX9_goHour_X9_within
theorem dX9_goHour_0 : decode cX9_goHour 0 = .ok (.aload_n 0, 1) := by decide +kernel
theorem dX9_goHour_1 : decode cX9_goHour 1 = .ok (.invokevirtual 50, 3) := by decide +kernel
theorem dX9_goHour_4 : decode cX9_goHour 4 = .ok (.aload_n 0, 1) := by decide +kernel
theorem dX9_goHour_5 : decode cX9_goHour 5 = .ok (.getfield 7, 3) := by decide +kernel
theorem dX9_goHour_8 : decode cX9_goHour 8 = .ok (.sipush 145, 3) := by decide +kernel
theorem dX9_goHour_11 : decode cX9_goHour 11 = .ok (.iaload, 1) := by decide +kernel
theorem dX9_goHour_12 : decode cX9_goHour 12 = .ok (.ifCond .le 26, 3) := by decide +kernel
theorem dX9_goHour_15 : decode cX9_goHour 15 = .ok (.aload_n 0, 1) := by decide +kernel
theorem dX9_goHour_16 : decode cX9_goHour 16 = .ok (.getfield 7, 3) := by decide +kernel
theorem dX9_goHour_19 : decode cX9_goHour 19 = .ok (.sipush 146, 3) := by decide +kernel
theorem dX9_goHour_22 : decode cX9_goHour 22 = .ok (.iaload, 1) := by decide +kernel
theorem dX9_goHour_23 : decode cX9_goHour 23 = .ok (.aload_n 0, 1) := by decide +kernel
theorem dX9_goHour_24 : decode cX9_goHour 24 = .ok (.getfield 7, 3) := by decide +kernel
theorem dX9_goHour_27 : decode cX9_goHour 27 = .ok (.sipush 144, 3) := by decide +kernel
theorem dX9_goHour_30 : decode cX9_goHour 30 = .ok (.iaload, 1) := by decide +kernel
theorem dX9_goHour_31 : decode cX9_goHour 31 = .ok (.if_icmp .eq 7, 3) := by decide +kernel
theorem dX9_goHour_34 : decode cX9_goHour 34 = .ok (.aload_n 0, 1) := by decide +kernel
theorem dX9_goHour_35 : decode cX9_goHour 35 = .ok (.invokevirtual 53, 3) := by decide +kernel
theorem dX9_goHour_38 : decode cX9_goHour 38 = .ok (.aload_n 0, 1) := by decide +kernel
theorem dX9_goHour_39 : decode cX9_goHour 39 = .ok (.getfield 7, 3) := by decide +kernel
theorem dX9_goHour_42 : decode cX9_goHour 42 = .ok (.sipush 145, 3) := by decide +kernel
theorem dX9_goHour_45 : decode cX9_goHour 45 = .ok (.iaload, 1) := by decide +kernel
theorem dX9_goHour_46 : decode cX9_goHour 46 = .ok (.ifCond .le 53, 3) := by decide +kernel
theorem dX9_goHour_49 : decode cX9_goHour 49 = .ok (.aload_n 0, 1) := by decide +kernel
theorem dX9_goHour_50 : decode cX9_goHour 50 = .ok (.getfield 7, 3) := by decide +kernel
theorem dX9_goHour_53 : decode cX9_goHour 53 = .ok (.bipush 30, 2) := by decide +kernel
theorem dX9_goHour_55 : decode cX9_goHour 55 = .ok (.aload_n 0, 1) := by decide +kernel
theorem dX9_goHour_56 : decode cX9_goHour 56 = .ok (.getfield 7, 3) := by decide +kernel
theorem dX9_goHour_59 : decode cX9_goHour 59 = .ok (.sipush 146, 3) := by decide +kernel
theorem dX9_goHour_62 : decode cX9_goHour 62 = .ok (.iaload, 1) := by decide +kernel
theorem dX9_goHour_63 : decode cX9_goHour 63 = .ok (.iadd, 1) := by decide +kernel
theorem dX9_goHour_64 : decode cX9_goHour 64 = .ok (.iaload, 1) := by decide +kernel
theorem dX9_goHour_65 : decode cX9_goHour 65 = .ok (.ifCond .ne 34, 3) := by decide +kernel
theorem dX9_goHour_68 : decode cX9_goHour 68 = .ok (.aload_n 0, 1) := by decide +kernel
theorem dX9_goHour_69 : decode cX9_goHour 69 = .ok (.getfield 7, 3) := by decide +kernel
theorem dX9_goHour_72 : decode cX9_goHour 72 = .ok (.sipush 146, 3) := by decide +kernel
theorem dX9_goHour_75 : decode cX9_goHour 75 = .ok (.iaload, 1) := by decide +kernel
theorem dX9_goHour_76 : decode cX9_goHour 76 = .ok (.aload_n 0, 1) := by decide +kernel
theorem dX9_goHour_77 : decode cX9_goHour 77 = .ok (.getfield 7, 3) := by decide +kernel
theorem dX9_goHour_80 : decode cX9_goHour 80 = .ok (.sipush 144, 3) := by decide +kernel
theorem dX9_goHour_83 : decode cX9_goHour 83 = .ok (.iaload, 1) := by decide +kernel
theorem dX9_goHour_84 : decode cX9_goHour 84 = .ok (.if_icmp .ne 7, 3) := by decide +kernel
theorem dX9_goHour_87 : decode cX9_goHour 87 = .ok (.aload_n 0, 1) := by decide +kernel
theorem dX9_goHour_88 : decode cX9_goHour 88 = .ok (.invokevirtual 53, 3) := by decide +kernel
theorem dX9_goHour_91 : decode cX9_goHour 91 = .ok (.aload_n 0, 1) := by decide +kernel
theorem dX9_goHour_92 : decode cX9_goHour 92 = .ok (.iconst 0, 1) := by decide +kernel
theorem dX9_goHour_93 : decode cX9_goHour 93 = .ok (.invokevirtual 56, 3) := by decide +kernel
theorem dX9_goHour_96 : decode cX9_goHour 96 = .ok (.goto (-58), 3) := by decide +kernel
theorem dX9_goHour_99 : decode cX9_goHour 99 = .ok (.aload_n 0, 1) := by decide +kernel
theorem dX9_goHour_100 : decode cX9_goHour 100 = .ok (.getfield 7, 3) := by decide +kernel
theorem dX9_goHour_103 : decode cX9_goHour 103 = .ok (.sipush 145, 3) := by decide +kernel
theorem dX9_goHour_106 : decode cX9_goHour 106 = .ok (.iaload, 1) := by decide +kernel
theorem dX9_goHour_107 : decode cX9_goHour 107 = .ok (.ifCond .ne 7, 3) := by decide +kernel
theorem dX9_goHour_110 : decode cX9_goHour 110 = .ok (.iconst (-1), 1) := by decide +kernel
theorem dX9_goHour_111 : decode cX9_goHour 111 = .ok (.goto 11, 3) := by decide +kernel
theorem dX9_goHour_114 : decode cX9_goHour 114 = .ok (.aload_n 0, 1) := by decide +kernel
theorem dX9_goHour_115 : decode cX9_goHour 115 = .ok (.getfield 7, 3) := by decide +kernel
theorem dX9_goHour_118 : decode cX9_goHour 118 = .ok (.sipush 146, 3) := by decide +kernel
theorem dX9_goHour_121 : decode cX9_goHour 121 = .ok (.iaload, 1) := by decide +kernel
theorem dX9_goHour_122 : decode cX9_goHour 122 = .ok (.istore_n 1, 1) := by decide +kernel
theorem dX9_goHour_123 : decode cX9_goHour 123 = .ok (.aload_n 0, 1) := by decide +kernel
theorem dX9_goHour_124 : decode cX9_goHour 124 = .ok (.aload_n 0, 1) := by decide +kernel
theorem dX9_goHour_125 : decode cX9_goHour 125 = .ok (.getfield 7, 3) := by decide +kernel
theorem dX9_goHour_128 : decode cX9_goHour 128 = .ok (.sipush 182, 3) := by decide +kernel
theorem dX9_goHour_131 : decode cX9_goHour 131 = .ok (.iaload, 1) := by decide +kernel
theorem dX9_goHour_132 : decode cX9_goHour 132 = .ok (.invokevirtual 60, 3) := by decide +kernel
theorem dX9_goHour_135 : decode cX9_goHour 135 = .ok (.istore_n 2, 1) := by decide +kernel
theorem dX9_goHour_136 : decode cX9_goHour 136 = .ok (.iload_n 1, 1) := by decide +kernel
theorem dX9_goHour_137 : decode cX9_goHour 137 = .ok (.iconst (-1), 1) := by decide +kernel
theorem dX9_goHour_138 : decode cX9_goHour 138 = .ok (.if_icmp .ne 7, 3) := by decide +kernel
theorem dX9_goHour_141 : decode cX9_goHour 141 = .ok (.iconst 0, 1) := by decide +kernel
theorem dX9_goHour_142 : decode cX9_goHour 142 = .ok (.goto 9, 3) := by decide +kernel
theorem dX9_goHour_145 : decode cX9_goHour 145 = .ok (.aload_n 0, 1) := by decide +kernel
theorem dX9_goHour_146 : decode cX9_goHour 146 = .ok (.iload_n 1, 1) := by decide +kernel
theorem dX9_goHour_147 : decode cX9_goHour 147 = .ok (.iload_n 2, 1) := by decide +kernel
theorem dX9_goHour_148 : decode cX9_goHour 148 = .ok (.invokevirtual 63, 3) := by decide +kernel
theorem dX9_goHour_151 : decode cX9_goHour 151 = .ok (.istore_n 3, 1) := by decide +kernel
theorem dX9_goHour_152 : decode cX9_goHour 152 = .ok (.iconst 0, 1) := by decide +kernel
theorem dX9_goHour_153 : decode cX9_goHour 153 = .ok (.istore 4, 2) := by decide +kernel
theorem dX9_goHour_155 : decode cX9_goHour 155 = .ok (.iconst 0, 1) := by decide +kernel
theorem dX9_goHour_156 : decode cX9_goHour 156 = .ok (.istore 5, 2) := by decide +kernel
theorem dX9_goHour_158 : decode cX9_goHour 158 = .ok (.iload 5, 2) := by decide +kernel
theorem dX9_goHour_160 : decode cX9_goHour 160 = .ok (.aload_n 0, 1) := by decide +kernel
theorem dX9_goHour_161 : decode cX9_goHour 161 = .ok (.getfield 7, 3) := by decide +kernel
theorem dX9_goHour_164 : decode cX9_goHour 164 = .ok (.bipush 70, 2) := by decide +kernel
theorem dX9_goHour_166 : decode cX9_goHour 166 = .ok (.iaload, 1) := by decide +kernel
theorem dX9_goHour_167 : decode cX9_goHour 167 = .ok (.if_icmp .ge 115, 3) := by decide +kernel
theorem dX9_goHour_170 : decode cX9_goHour 170 = .ok (.aload_n 0, 1) := by decide +kernel
theorem dX9_goHour_171 : decode cX9_goHour 171 = .ok (.iload 5, 2) := by decide +kernel
theorem dX9_goHour_173 : decode cX9_goHour 173 = .ok (.iload_n 2, 1) := by decide +kernel
theorem dX9_goHour_174 : decode cX9_goHour 174 = .ok (.invokevirtual 66, 3) := by decide +kernel
theorem dX9_goHour_177 : decode cX9_goHour 177 = .ok (.istore 6, 2) := by decide +kernel
theorem dX9_goHour_179 : decode cX9_goHour 179 = .ok (.iload 5, 2) := by decide +kernel
theorem dX9_goHour_181 : decode cX9_goHour 181 = .ok (.iload_n 1, 1) := by decide +kernel
theorem dX9_goHour_182 : decode cX9_goHour 182 = .ok (.if_icmp .ne 7, 3) := by decide +kernel
theorem dX9_goHour_185 : decode cX9_goHour 185 = .ok (.iload_n 3, 1) := by decide +kernel
theorem dX9_goHour_186 : decode cX9_goHour 186 = .ok (.goto 4, 3) := by decide +kernel
theorem dX9_goHour_189 : decode cX9_goHour 189 = .ok (.iconst 0, 1) := by decide +kernel
theorem dX9_goHour_190 : decode cX9_goHour 190 = .ok (.istore 7, 2) := by decide +kernel
theorem dX9_goHour_192 : decode cX9_goHour 192 = .ok (.iload 7, 2) := by decide +kernel
theorem dX9_goHour_194 : decode cX9_goHour 194 = .ok (.iconst 4, 1) := by decide +kernel
theorem dX9_goHour_195 : decode cX9_goHour 195 = .ok (.if_icmp .ne 8, 3) := by decide +kernel
theorem dX9_goHour_198 : decode cX9_goHour 198 = .ok (.iload 6, 2) := by decide +kernel
theorem dX9_goHour_200 : decode cX9_goHour 200 = .ok (.goto 18, 3) := by decide +kernel
theorem dX9_goHour_203 : decode cX9_goHour 203 = .ok (.iload 6, 2) := by decide +kernel
theorem dX9_goHour_205 : decode cX9_goHour 205 = .ok (.aload_n 0, 1) := by decide +kernel
theorem dX9_goHour_206 : decode cX9_goHour 206 = .ok (.getfield 7, 3) := by decide +kernel
theorem dX9_goHour_209 : decode cX9_goHour 209 = .ok (.bipush 30, 2) := by decide +kernel
theorem dX9_goHour_211 : decode cX9_goHour 211 = .ok (.iload 5, 2) := by decide +kernel
theorem dX9_goHour_213 : decode cX9_goHour 213 = .ok (.iadd, 1) := by decide +kernel
theorem dX9_goHour_214 : decode cX9_goHour 214 = .ok (.iaload, 1) := by decide +kernel
theorem dX9_goHour_215 : decode cX9_goHour 215 = .ok (.imul, 1) := by decide +kernel
theorem dX9_goHour_216 : decode cX9_goHour 216 = .ok (.iconst 4, 1) := by decide +kernel
theorem dX9_goHour_217 : decode cX9_goHour 217 = .ok (.idiv, 1) := by decide +kernel
theorem dX9_goHour_218 : decode cX9_goHour 218 = .ok (.istore 8, 2) := by decide +kernel
theorem dX9_goHour_220 : decode cX9_goHour 220 = .ok (.aload_n 0, 1) := by decide +kernel
theorem dX9_goHour_221 : decode cX9_goHour 221 = .ok (.getfield 7, 3) := by decide +kernel
theorem dX9_goHour_224 : decode cX9_goHour 224 = .ok (.bipush 50, 2) := by decide +kernel
theorem dX9_goHour_226 : decode cX9_goHour 226 = .ok (.iload 5, 2) := by decide +kernel
theorem dX9_goHour_228 : decode cX9_goHour 228 = .ok (.iadd, 1) := by decide +kernel
theorem dX9_goHour_229 : decode cX9_goHour 229 = .ok (.dup2, 1) := by decide +kernel
theorem dX9_goHour_230 : decode cX9_goHour 230 = .ok (.iaload, 1) := by decide +kernel
theorem dX9_goHour_231 : decode cX9_goHour 231 = .ok (.iload 8, 2) := by decide +kernel
theorem dX9_goHour_233 : decode cX9_goHour 233 = .ok (.iadd, 1) := by decide +kernel
theorem dX9_goHour_234 : decode cX9_goHour 234 = .ok (.iastore, 1) := by decide +kernel
theorem dX9_goHour_235 : decode cX9_goHour 235 = .ok (.aload_n 0, 1) := by decide +kernel
theorem dX9_goHour_236 : decode cX9_goHour 236 = .ok (.getfield 7, 3) := by decide +kernel
theorem dX9_goHour_239 : decode cX9_goHour 239 = .ok (.bipush 60, 2) := by decide +kernel
theorem dX9_goHour_241 : decode cX9_goHour 241 = .ok (.iload 5, 2) := by decide +kernel
theorem dX9_goHour_243 : decode cX9_goHour 243 = .ok (.iadd, 1) := by decide +kernel
theorem dX9_goHour_244 : decode cX9_goHour 244 = .ok (.dup2, 1) := by decide +kernel
theorem dX9_goHour_245 : decode cX9_goHour 245 = .ok (.iaload, 1) := by decide +kernel
theorem dX9_goHour_246 : decode cX9_goHour 246 = .ok (.iload 6, 2) := by decide +kernel
theorem dX9_goHour_248 : decode cX9_goHour 248 = .ok (.iload 8, 2) := by decide +kernel
theorem dX9_goHour_250 : decode cX9_goHour 250 = .ok (.isub, 1) := by decide +kernel
theorem dX9_goHour_251 : decode cX9_goHour 251 = .ok (.iadd, 1) := by decide +kernel
theorem dX9_goHour_252 : decode cX9_goHour 252 = .ok (.iastore, 1) := by decide +kernel
theorem dX9_goHour_253 : decode cX9_goHour 253 = .ok (.aload_n 0, 1) := by decide +kernel
theorem dX9_goHour_254 : decode cX9_goHour 254 = .ok (.getfield 7, 3) := by decide +kernel
theorem dX9_goHour_257 : decode cX9_goHour 257 = .ok (.sipush 177, 3) := by decide +kernel
theorem dX9_goHour_260 : decode cX9_goHour 260 = .ok (.iload 7, 2) := by decide +kernel
theorem dX9_goHour_262 : decode cX9_goHour 262 = .ok (.iadd, 1) := by decide +kernel
theorem dX9_goHour_263 : decode cX9_goHour 263 = .ok (.dup2, 1) := by decide +kernel
theorem dX9_goHour_264 : decode cX9_goHour 264 = .ok (.iaload, 1) := by decide +kernel
theorem dX9_goHour_265 : decode cX9_goHour 265 = .ok (.iload 8, 2) := by decide +kernel
theorem dX9_goHour_267 : decode cX9_goHour 267 = .ok (.iadd, 1) := by decide +kernel
theorem dX9_goHour_268 : decode cX9_goHour 268 = .ok (.iastore, 1) := by decide +kernel
theorem dX9_goHour_269 : decode cX9_goHour 269 = .ok (.iload 4, 2) := by decide +kernel
theorem dX9_goHour_271 : decode cX9_goHour 271 = .ok (.iload 8, 2) := by decide +kernel
theorem dX9_goHour_273 : decode cX9_goHour 273 = .ok (.iadd, 1) := by decide +kernel
theorem dX9_goHour_274 : decode cX9_goHour 274 = .ok (.istore 4, 2) := by decide +kernel
theorem dX9_goHour_276 : decode cX9_goHour 276 = .ok (.iinc 5 1, 3) := by decide +kernel
theorem dX9_goHour_279 : decode cX9_goHour 279 = .ok (.goto (-121), 3) := by decide +kernel
theorem dX9_goHour_282 : decode cX9_goHour 282 = .ok (.iload_n 3, 1) := by decide +kernel
theorem dX9_goHour_283 : decode cX9_goHour 283 = .ok (.iconst 4, 1) := by decide +kernel
theorem dX9_goHour_284 : decode cX9_goHour 284 = .ok (.if_icmp .ne 69, 3) := by decide +kernel
theorem dX9_goHour_287 : decode cX9_goHour 287 = .ok (.aload_n 0, 1) := by decide +kernel
theorem dX9_goHour_288 : decode cX9_goHour 288 = .ok (.getfield 7, 3) := by decide +kernel
theorem dX9_goHour_291 : decode cX9_goHour 291 = .ok (.sipush 143, 3) := by decide +kernel
theorem dX9_goHour_294 : decode cX9_goHour 294 = .ok (.iaload, 1) := by decide +kernel
theorem dX9_goHour_295 : decode cX9_goHour 295 = .ok (.aload_n 0, 1) := by decide +kernel
theorem dX9_goHour_296 : decode cX9_goHour 296 = .ok (.getfield 7, 3) := by decide +kernel
theorem dX9_goHour_299 : decode cX9_goHour 299 = .ok (.bipush 73, 2) := by decide +kernel
theorem dX9_goHour_301 : decode cX9_goHour 301 = .ok (.iaload, 1) := by decide +kernel
theorem dX9_goHour_302 : decode cX9_goHour 302 = .ok (.aload_n 0, 1) := by decide +kernel
theorem dX9_goHour_303 : decode cX9_goHour 303 = .ok (.getfield 7, 3) := by decide +kernel
theorem dX9_goHour_306 : decode cX9_goHour 306 = .ok (.bipush 30, 2) := by decide +kernel
theorem dX9_goHour_308 : decode cX9_goHour 308 = .ok (.iload_n 1, 1) := by decide +kernel
theorem dX9_goHour_309 : decode cX9_goHour 309 = .ok (.iadd, 1) := by decide +kernel
theorem dX9_goHour_310 : decode cX9_goHour 310 = .ok (.iaload, 1) := by decide +kernel
theorem dX9_goHour_311 : decode cX9_goHour 311 = .ok (.imul, 1) := by decide +kernel
theorem dX9_goHour_312 : decode cX9_goHour 312 = .ok (.if_icmp .lt 41, 3) := by decide +kernel
theorem dX9_goHour_315 : decode cX9_goHour 315 = .ok (.aload_n 0, 1) := by decide +kernel
theorem dX9_goHour_316 : decode cX9_goHour 316 = .ok (.getfield 7, 3) := by decide +kernel
theorem dX9_goHour_319 : decode cX9_goHour 319 = .ok (.bipush 30, 2) := by decide +kernel
theorem dX9_goHour_321 : decode cX9_goHour 321 = .ok (.iload_n 1, 1) := by decide +kernel
theorem dX9_goHour_322 : decode cX9_goHour 322 = .ok (.iadd, 1) := by decide +kernel
theorem dX9_goHour_323 : decode cX9_goHour 323 = .ok (.iconst 0, 1) := by decide +kernel
theorem dX9_goHour_324 : decode cX9_goHour 324 = .ok (.iastore, 1) := by decide +kernel
theorem dX9_goHour_325 : decode cX9_goHour 325 = .ok (.aload_n 0, 1) := by decide +kernel
theorem dX9_goHour_326 : decode cX9_goHour 326 = .ok (.getfield 7, 3) := by decide +kernel
theorem dX9_goHour_329 : decode cX9_goHour 329 = .ok (.bipush 40, 2) := by decide +kernel
theorem dX9_goHour_331 : decode cX9_goHour 331 = .ok (.iload_n 1, 1) := by decide +kernel
theorem dX9_goHour_332 : decode cX9_goHour 332 = .ok (.iadd, 1) := by decide +kernel
theorem dX9_goHour_333 : decode cX9_goHour 333 = .ok (.iconst 0, 1) := by decide +kernel
theorem dX9_goHour_334 : decode cX9_goHour 334 = .ok (.iastore, 1) := by decide +kernel
theorem dX9_goHour_335 : decode cX9_goHour 335 = .ok (.aload_n 0, 1) := by decide +kernel
theorem dX9_goHour_336 : decode cX9_goHour 336 = .ok (.aload_n 0, 1) := by decide +kernel
theorem dX9_goHour_337 : decode cX9_goHour 337 = .ok (.iload_n 1, 1) := by decide +kernel
theorem dX9_goHour_338 : decode cX9_goHour 338 = .ok (.invokevirtual 43, 3) := by decide +kernel
theorem dX9_goHour_341 : decode cX9_goHour 341 = .ok (.invokevirtual 69, 3) := by decide +kernel
theorem dX9_goHour_344 : decode cX9_goHour 344 = .ok (.aload_n 0, 1) := by decide +kernel
theorem dX9_goHour_345 : decode cX9_goHour 345 = .ok (.invokevirtual 53, 3) := by decide +kernel
theorem dX9_goHour_348 : decode cX9_goHour 348 = .ok (.aload_n 0, 1) := by decide +kernel
theorem dX9_goHour_349 : decode cX9_goHour 349 = .ok (.iconst 0, 1) := by decide +kernel
theorem dX9_goHour_350 : decode cX9_goHour 350 = .ok (.invokevirtual 56, 3) := by decide +kernel
theorem dX9_goHour_353 : decode cX9_goHour 353 = .ok (.iconst 0, 1) := by decide +kernel
theorem dX9_goHour_354 : decode cX9_goHour 354 = .ok (.istore 5, 2) := by decide +kernel
theorem dX9_goHour_356 : decode cX9_goHour 356 = .ok (.iload 5, 2) := by decide +kernel
theorem dX9_goHour_358 : decode cX9_goHour 358 = .ok (.aload_n 0, 1) := by decide +kernel
theorem dX9_goHour_359 : decode cX9_goHour 359 = .ok (.getfield 7, 3) := by decide +kernel
theorem dX9_goHour_362 : decode cX9_goHour 362 = .ok (.bipush 70, 2) := by decide +kernel
theorem dX9_goHour_364 : decode cX9_goHour 364 = .ok (.iaload, 1) := by decide +kernel
theorem dX9_goHour_365 : decode cX9_goHour 365 = .ok (.if_icmp .ge 97, 3) := by decide +kernel
theorem dX9_goHour_368 : decode cX9_goHour 368 = .ok (.aload_n 0, 1) := by decide +kernel
theorem dX9_goHour_369 : decode cX9_goHour 369 = .ok (.getfield 7, 3) := by decide +kernel
theorem dX9_goHour_372 : decode cX9_goHour 372 = .ok (.bipush 30, 2) := by decide +kernel
theorem dX9_goHour_374 : decode cX9_goHour 374 = .ok (.iload 5, 2) := by decide +kernel
theorem dX9_goHour_376 : decode cX9_goHour 376 = .ok (.iadd, 1) := by decide +kernel
theorem dX9_goHour_377 : decode cX9_goHour 377 = .ok (.iaload, 1) := by decide +kernel
theorem dX9_goHour_378 : decode cX9_goHour 378 = .ok (.iconst 1, 1) := by decide +kernel
theorem dX9_goHour_379 : decode cX9_goHour 379 = .ok (.iconst 3, 1) := by decide +kernel
theorem dX9_goHour_380 : decode cX9_goHour 380 = .ok (.invokestatic 32, 3) := by decide +kernel
theorem dX9_goHour_383 : decode cX9_goHour 383 = .ok (.ifCond .eq 73, 3) := by decide +kernel
theorem dX9_goHour_386 : decode cX9_goHour 386 = .ok (.iload 5, 2) := by decide +kernel
theorem dX9_goHour_388 : decode cX9_goHour 388 = .ok (.iload_n 1, 1) := by decide +kernel
theorem dX9_goHour_389 : decode cX9_goHour 389 = .ok (.if_icmp .ne 8, 3) := by decide +kernel
theorem dX9_goHour_392 : decode cX9_goHour 392 = .ok (.iload_n 3, 1) := by decide +kernel
theorem dX9_goHour_393 : decode cX9_goHour 393 = .ok (.iconst 4, 1) := by decide +kernel
theorem dX9_goHour_394 : decode cX9_goHour 394 = .ok (.if_icmp .eq 62, 3) := by decide +kernel
theorem dX9_goHour_397 : decode cX9_goHour 397 = .ok (.aload_n 0, 1) := by decide +kernel
theorem dX9_goHour_398 : decode cX9_goHour 398 = .ok (.getfield 7, 3) := by decide +kernel
theorem dX9_goHour_401 : decode cX9_goHour 401 = .ok (.bipush 40, 2) := by decide +kernel
theorem dX9_goHour_403 : decode cX9_goHour 403 = .ok (.iload 5, 2) := by decide +kernel
theorem dX9_goHour_405 : decode cX9_goHour 405 = .ok (.iadd, 1) := by decide +kernel
theorem dX9_goHour_406 : decode cX9_goHour 406 = .ok (.dup2, 1) := by decide +kernel
theorem dX9_goHour_407 : decode cX9_goHour 407 = .ok (.iaload, 1) := by decide +kernel
theorem dX9_goHour_408 : decode cX9_goHour 408 = .ok (.iconst 1, 1) := by decide +kernel
theorem dX9_goHour_409 : decode cX9_goHour 409 = .ok (.iadd, 1) := by decide +kernel
theorem dX9_goHour_410 : decode cX9_goHour 410 = .ok (.iastore, 1) := by decide +kernel
theorem dX9_goHour_411 : decode cX9_goHour 411 = .ok (.aload_n 0, 1) := by decide +kernel
theorem dX9_goHour_412 : decode cX9_goHour 412 = .ok (.getfield 7, 3) := by decide +kernel
theorem dX9_goHour_415 : decode cX9_goHour 415 = .ok (.bipush 40, 2) := by decide +kernel
theorem dX9_goHour_417 : decode cX9_goHour 417 = .ok (.iload 5, 2) := by decide +kernel
theorem dX9_goHour_419 : decode cX9_goHour 419 = .ok (.iadd, 1) := by decide +kernel
theorem dX9_goHour_420 : decode cX9_goHour 420 = .ok (.iaload, 1) := by decide +kernel
theorem dX9_goHour_421 : decode cX9_goHour 421 = .ok (.aload_n 0, 1) := by decide +kernel
theorem dX9_goHour_422 : decode cX9_goHour 422 = .ok (.getfield 7, 3) := by decide +kernel
theorem dX9_goHour_425 : decode cX9_goHour 425 = .ok (.bipush 74, 2) := by decide +kernel
theorem dX9_goHour_427 : decode cX9_goHour 427 = .ok (.iaload, 1) := by decide +kernel
theorem dX9_goHour_428 : decode cX9_goHour 428 = .ok (.if_icmp .lt 28, 3) := by decide +kernel
theorem dX9_goHour_431 : decode cX9_goHour 431 = .ok (.aload_n 0, 1) := by decide +kernel
