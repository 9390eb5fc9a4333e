theorem dX0_init_0 : decode cX0_init 0 = .ok (.aload_n 0, 1) := by decide +kernel
theorem dX0_init_1 : decode cX0_init 1 = .ok (.invokespecial 3, 3) := by decide +kernel
theorem dX0_init_4 : decode cX0_init 4 = .ok (.aload_n 0, 1) := by decide +kernel
theorem dX0_init_5 : decode cX0_init 5 = .ok (.bipush 6, 2) := by decide +kernel
theorem dX0_init_7 : decode cX0_init 7 = .ok (.newarray .int, 2) := by decide +kernel
theorem dX0_init_9 : decode cX0_init 9 = .ok (.putfield 9, 3) := by decide +kernel
theorem dX0_init_12 : decode cX0_init 12 = .ok (.aload_n 0, 1) := by decide +kernel
theorem dX0_init_13 : decode cX0_init 13 = .ok (.bipush 6, 2) := by decide +kernel
theorem dX0_init_15 : decode cX0_init 15 = .ok (.newarray .int, 2) := by decide +kernel
theorem dX0_init_17 : decode cX0_init 17 = .ok (.putfield 15, 3) := by decide +kernel
theorem dX0_init_20 : decode cX0_init 20 = .ok (.aload_n 0, 1) := by decide +kernel
theorem dX0_init_21 : decode cX0_init 21 = .ok (.iconst 0, 1) := by decide +kernel
theorem dX0_init_22 : decode cX0_init 22 = .ok (.putfield 18, 3) := by decide +kernel
theorem dX0_init_25 : decode cX0_init 25 = .ok (.return_, 1) := by decide +kernel
theorem dX0_copyFrom_0 : decode cX0_copyFrom 0 = .ok (.aload_n 1, 1) := by decide +kernel
theorem dX0_copyFrom_1 : decode cX0_copyFrom 1 = .ok (.getfield 9, 3) := by decide +kernel
theorem dX0_copyFrom_4 : decode cX0_copyFrom 4 = .ok (.iconst 0, 1) := by decide +kernel
theorem dX0_copyFrom_5 : decode cX0_copyFrom 5 = .ok (.aload_n 0, 1) := by decide +kernel
theorem dX0_copyFrom_6 : decode cX0_copyFrom 6 = .ok (.getfield 9, 3) := by decide +kernel
theorem dX0_copyFrom_9 : decode cX0_copyFrom 9 = .ok (.iconst 0, 1) := by decide +kernel
theorem dX0_copyFrom_10 : decode cX0_copyFrom 10 = .ok (.bipush 6, 2) := by decide +kernel
theorem dX0_copyFrom_12 : decode cX0_copyFrom 12 = .ok (.invokestatic 22, 3) := by decide +kernel
theorem dX0_copyFrom_15 : decode cX0_copyFrom 15 = .ok (.aload_n 1, 1) := by decide +kernel
theorem dX0_copyFrom_16 : decode cX0_copyFrom 16 = .ok (.getfield 15, 3) := by decide +kernel
theorem dX0_copyFrom_19 : decode cX0_copyFrom 19 = .ok (.iconst 0, 1) := by decide +kernel
theorem dX0_copyFrom_20 : decode cX0_copyFrom 20 = .ok (.aload_n 0, 1) := by decide +kernel
theorem dX0_copyFrom_21 : decode cX0_copyFrom 21 = .ok (.getfield 15, 3) := by decide +kernel
theorem dX0_copyFrom_24 : decode cX0_copyFrom 24 = .ok (.iconst 0, 1) := by decide +kernel
theorem dX0_copyFrom_25 : decode cX0_copyFrom 25 = .ok (.bipush 6, 2) := by decide +kernel
theorem dX0_copyFrom_27 : decode cX0_copyFrom 27 = .ok (.invokestatic 22, 3) := by decide +kernel
theorem dX0_copyFrom_30 : decode cX0_copyFrom 30 = .ok (.aload_n 0, 1) := by decide +kernel
theorem dX0_copyFrom_31 : decode cX0_copyFrom 31 = .ok (.aload_n 1, 1) := by decide +kernel
theorem dX0_copyFrom_32 : decode cX0_copyFrom 32 = .ok (.getfield 18, 3) := by decide +kernel
theorem dX0_copyFrom_35 : decode cX0_copyFrom 35 = .ok (.putfield 18, 3) := by decide +kernel
theorem dX0_copyFrom_38 : decode cX0_copyFrom 38 = .ok (.return_, 1) := by decide +kernel
theorem dX0_isFull_0 : decode cX0_isFull 0 = .ok (.aload_n 0, 1) := by decide +kernel
theorem dX0_isFull_1 : decode cX0_isFull 1 = .ok (.getfield 18, 3) := by decide +kernel
theorem dX0_isFull_4 : decode cX0_isFull 4 = .ok (.bipush 6, 2) := by decide +kernel
theorem dX0_isFull_6 : decode cX0_isFull 6 = .ok (.if_icmp .lt 7, 3) := by decide +kernel
theorem dX0_isFull_9 : decode cX0_isFull 9 = .ok (.iconst 1, 1) := by decide +kernel
theorem dX0_isFull_10 : decode cX0_isFull 10 = .ok (.goto 4, 3) := by decide +kernel
theorem dX0_isFull_13 : decode cX0_isFull 13 = .ok (.iconst 0, 1) := by decide +kernel
theorem dX0_isFull_14 : decode cX0_isFull 14 = .ok (.ireturn, 1) := by decide +kernel
theorem dX0_indexAt_0 : decode cX0_indexAt 0 = .ok (.iconst 0, 1) := by decide +kernel
theorem dX0_indexAt_1 : decode cX0_indexAt 1 = .ok (.istore_n 2, 1) := by decide +kernel
theorem dX0_indexAt_2 : decode cX0_indexAt 2 = .ok (.iload_n 2, 1) := by decide +kernel
theorem dX0_indexAt_3 : decode cX0_indexAt 3 = .ok (.aload_n 0, 1) := by decide +kernel
theorem dX0_indexAt_4 : decode cX0_indexAt 4 = .ok (.getfield 18, 3) := by decide +kernel
theorem dX0_indexAt_7 : decode cX0_indexAt 7 = .ok (.if_icmp .ge 21, 3) := by decide +kernel
theorem dX0_indexAt_10 : decode cX0_indexAt 10 = .ok (.aload_n 0, 1) := by decide +kernel
theorem dX0_indexAt_11 : decode cX0_indexAt 11 = .ok (.getfield 9, 3) := by decide +kernel
theorem dX0_indexAt_14 : decode cX0_indexAt 14 = .ok (.iload_n 2, 1) := by decide +kernel
theorem dX0_indexAt_15 : decode cX0_indexAt 15 = .ok (.iaload, 1) := by decide +kernel
theorem dX0_indexAt_16 : decode cX0_indexAt 16 = .ok (.iload_n 1, 1) := by decide +kernel
theorem dX0_indexAt_17 : decode cX0_indexAt 17 = .ok (.if_icmp .ne 5, 3) := by decide +kernel
theorem dX0_indexAt_20 : decode cX0_indexAt 20 = .ok (.iload_n 2, 1) := by decide +kernel
theorem dX0_indexAt_21 : decode cX0_indexAt 21 = .ok (.ireturn, 1) := by decide +kernel
theorem dX0_indexAt_22 : decode cX0_indexAt 22 = .ok (.iinc 2 1, 3) := by decide +kernel
theorem dX0_indexAt_25 : decode cX0_indexAt 25 = .ok (.goto (-23), 3) := by decide +kernel
theorem dX0_indexAt_28 : decode cX0_indexAt 28 = .ok (.iconst (-1), 1) := by decide +kernel
theorem dX0_indexAt_29 : decode cX0_indexAt 29 = .ok (.ireturn, 1) := by decide +kernel
set_option maxRecDepth 20000 in
theorem ggX0_put_X0_indexAt : GoodIn wsX0_put wsX0_indexAt := goodIn_r _ [6, 7, 8, 21, 22, 23] (by decide +kernel) (by decide +kernel)
set_option maxRecDepth 20000 in
theorem gX0_put_X0_indexAt : GoodIn wsX0_put (wsV RX0 28 RX0 yX0_indexAt wsX0_indexAt) := goodIn_app (goodIn_of _ (by decide +kernel)) ggX0_put_X0_indexAt
set_option maxRecDepth 20000 in
theorem ggX0_put_X0_removeAt : GoodIn wsX0_put wsX0_removeAt := goodIn_r _ [12, 7, 8, 1, 21, 22, 23] (by decide +kernel) (by decide +kernel)
set_option maxRecDepth 20000 in
theorem gX0_put_X0_removeAt : GoodIn wsX0_put (wsV RX0 32 RX0 yX0_removeAt wsX0_removeAt) := goodIn_app (goodIn_of _ (by decide +kernel)) ggX0_put_X0_removeAt
set_option maxRecDepth 20000 in
theorem ggX0_put_X0_insert : GoodIn wsX0_put wsX0_insert := goodIn_r _ [16, 7, 8, 1, 17, 18, 19, 5, 20, 21, 22, 23] (by decide +kernel) (by decide +kernel)
set_option maxRecDepth 20000 in
theorem gX0_put_X0_insert : GoodIn wsX0_put (wsV RX0 36 RX0 yX0_insert wsX0_insert) := goodIn_app (goodIn_of _ (by decide +kernel)) ggX0_put_X0_insert
theorem dX0_put_0 : decode cX0_put 0 = .ok (.aload_n 0, 1) := by decide +kernel
theorem dX0_put_1 : decode cX0_put 1 = .ok (.iload_n 1, 1) := by decide +kernel
theorem dX0_put_2 : decode cX0_put 2 = .ok (.invokevirtual 28, 3) := by decide +kernel
theorem dX0_put_5 : decode cX0_put 5 = .ok (.istore_n 3, 1) := by decide +kernel
theorem dX0_put_6 : decode cX0_put 6 = .ok (.iload_n 2, 1) := by decide +kernel
theorem dX0_put_7 : decode cX0_put 7 = .ok (.ifCond .ne 11, 3) := by decide +kernel
theorem dX0_put_10 : decode cX0_put 10 = .ok (.aload_n 0, 1) := by decide +kernel
theorem dX0_put_11 : decode cX0_put 11 = .ok (.iload_n 3, 1) := by decide +kernel
theorem dX0_put_12 : decode cX0_put 12 = .ok (.invokevirtual 32, 3) := by decide +kernel
theorem dX0_put_15 : decode cX0_put 15 = .ok (.goto 24, 3) := by decide +kernel
theorem dX0_put_18 : decode cX0_put 18 = .ok (.iload_n 3, 1) := by decide +kernel
theorem dX0_put_19 : decode cX0_put 19 = .ok (.iconst (-1), 1) := by decide +kernel
theorem dX0_put_20 : decode cX0_put 20 = .ok (.if_icmp .ne 12, 3) := by decide +kernel
theorem dX0_put_23 : decode cX0_put 23 = .ok (.aload_n 0, 1) := by decide +kernel
theorem dX0_put_24 : decode cX0_put 24 = .ok (.iload_n 1, 1) := by decide +kernel
theorem dX0_put_25 : decode cX0_put 25 = .ok (.iload_n 2, 1) := by decide +kernel
theorem dX0_put_26 : decode cX0_put 26 = .ok (.invokevirtual 36, 3) := by decide +kernel
theorem dX0_put_29 : decode cX0_put 29 = .ok (.goto 10, 3) := by decide +kernel
theorem dX0_put_32 : decode cX0_put 32 = .ok (.aload_n 0, 1) := by decide +kernel
theorem dX0_put_33 : decode cX0_put 33 = .ok (.getfield 15, 3) := by decide +kernel
theorem dX0_put_36 : decode cX0_put 36 = .ok (.iload_n 3, 1) := by decide +kernel
theorem dX0_put_37 : decode cX0_put 37 = .ok (.iload_n 2, 1) := by decide +kernel
theorem dX0_put_38 : decode cX0_put 38 = .ok (.iastore, 1) := by decide +kernel
theorem dX0_put_39 : decode cX0_put 39 = .ok (.return_, 1) := by decide +kernel
theorem dX0_removeAt_0 : decode cX0_removeAt 0 = .ok (.iload_n 1, 1) := by decide +kernel
theorem dX0_removeAt_1 : decode cX0_removeAt 1 = .ok (.ifCond .lt 11, 3) := by decide +kernel
theorem dX0_removeAt_4 : decode cX0_removeAt 4 = .ok (.iload_n 1, 1) := by decide +kernel
theorem dX0_removeAt_5 : decode cX0_removeAt 5 = .ok (.aload_n 0, 1) := by decide +kernel
theorem dX0_removeAt_6 : decode cX0_removeAt 6 = .ok (.getfield 18, 3) := by decide +kernel
theorem dX0_removeAt_9 : decode cX0_removeAt 9 = .ok (.if_icmp .lt 4, 3) := by decide +kernel
theorem dX0_removeAt_12 : decode cX0_removeAt 12 = .ok (.return_, 1) := by decide +kernel
theorem dX0_removeAt_13 : decode cX0_removeAt 13 = .ok (.aload_n 0, 1) := by decide +kernel
theorem dX0_removeAt_14 : decode cX0_removeAt 14 = .ok (.dup, 1) := by decide +kernel
theorem dX0_removeAt_15 : decode cX0_removeAt 15 = .ok (.getfield 18, 3) := by decide +kernel
theorem dX0_removeAt_18 : decode cX0_removeAt 18 = .ok (.iconst 1, 1) := by decide +kernel
theorem dX0_removeAt_19 : decode cX0_removeAt 19 = .ok (.isub, 1) := by decide +kernel
theorem dX0_removeAt_20 : decode cX0_removeAt 20 = .ok (.putfield 18, 3) := by decide +kernel
theorem dX0_removeAt_23 : decode cX0_removeAt 23 = .ok (.iload_n 1, 1) := by decide +kernel
theorem dX0_removeAt_24 : decode cX0_removeAt 24 = .ok (.istore_n 2, 1) := by decide +kernel
theorem dX0_removeAt_25 : decode cX0_removeAt 25 = .ok (.iload_n 2, 1) := by decide +kernel
theorem dX0_removeAt_26 : decode cX0_removeAt 26 = .ok (.aload_n 0, 1) := by decide +kernel
theorem dX0_removeAt_27 : decode cX0_removeAt 27 = .ok (.getfield 18, 3) := by decide +kernel
theorem dX0_removeAt_30 : decode cX0_removeAt 30 = .ok (.if_icmp .ge 37, 3) := by decide +kernel
theorem dX0_removeAt_33 : decode cX0_removeAt 33 = .ok (.aload_n 0, 1) := by decide +kernel
theorem dX0_removeAt_34 : decode cX0_removeAt 34 = .ok (.getfield 9, 3) := by decide +kernel
theorem dX0_removeAt_37 : decode cX0_removeAt 37 = .ok (.iload_n 2, 1) := by decide +kernel
theorem dX0_removeAt_38 : decode cX0_removeAt 38 = .ok (.aload_n 0, 1) := by decide +kernel
theorem dX0_removeAt_39 : decode cX0_removeAt 39 = .ok (.getfield 9, 3) := by decide +kernel
theorem dX0_removeAt_42 : decode cX0_removeAt 42 = .ok (.iload_n 2, 1) := by decide +kernel
theorem dX0_removeAt_43 : decode cX0_removeAt 43 = .ok (.iconst 1, 1) := by decide +kernel
theorem dX0_removeAt_44 : decode cX0_removeAt 44 = .ok (.iadd, 1) := by decide +kernel
theorem dX0_removeAt_45 : decode cX0_removeAt 45 = .ok (.iaload, 1) := by decide +kernel
theorem dX0_removeAt_46 : decode cX0_removeAt 46 = .ok (.iastore, 1) := by decide +kernel
theorem dX0_removeAt_47 : decode cX0_removeAt 47 = .ok (.aload_n 0, 1) := by decide +kernel
theorem dX0_removeAt_48 : decode cX0_removeAt 48 = .ok (.getfield 15, 3) := by decide +kernel
theorem dX0_removeAt_51 : decode cX0_removeAt 51 = .ok (.iload_n 2, 1) := by decide +kernel
theorem dX0_removeAt_52 : decode cX0_removeAt 52 = .ok (.aload_n 0, 1) := by decide +kernel
theorem dX0_removeAt_53 : decode cX0_removeAt 53 = .ok (.getfield 15, 3) := by decide +kernel
theorem dX0_removeAt_56 : decode cX0_removeAt 56 = .ok (.iload_n 2, 1) := by decide +kernel
theorem dX0_removeAt_57 : decode cX0_removeAt 57 = .ok (.iconst 1, 1) := by decide +kernel
theorem dX0_removeAt_58 : decode cX0_removeAt 58 = .ok (.iadd, 1) := by decide +kernel
theorem dX0_removeAt_59 : decode cX0_removeAt 59 = .ok (.iaload, 1) := by decide +kernel
theorem dX0_removeAt_60 : decode cX0_removeAt 60 = .ok (.iastore, 1) := by decide +kernel
theorem dX0_removeAt_61 : decode cX0_removeAt 61 = .ok (.iinc 2 1, 3) := by decide +kernel
theorem dX0_removeAt_64 : decode cX0_removeAt 64 = .ok (.goto (-39), 3) := by decide +kernel
theorem dX0_removeAt_67 : decode cX0_removeAt 67 = .ok (.return_, 1) := by decide +kernel
set_option maxRecDepth 20000 in
theorem ggX0_insert_X0_isFull : GoodIn wsX0_insert wsX0_isFull := goodIn_r _ [8, 1, 9, 10, 11] (by decide +kernel) (by decide +kernel)
set_option maxRecDepth 20000 in
theorem gX0_insert_X0_isFull : GoodIn wsX0_insert (wsV RX0 40 RX0 yX0_isFull wsX0_isFull) := goodIn_app (goodIn_of _ (by decide +kernel)) ggX0_insert_X0_isFull
theorem dX0_insert_0 : decode cX0_insert 0 = .ok (.aload_n 0, 1) := by decide +kernel
theorem dX0_insert_1 : decode cX0_insert 1 = .ok (.invokevirtual 40, 3) := by decide +kernel
theorem dX0_insert_4 : decode cX0_insert 4 = .ok (.ifCond .eq 4, 3) := by decide +kernel
theorem dX0_insert_7 : decode cX0_insert 7 = .ok (.return_, 1) := by decide +kernel
theorem dX0_insert_8 : decode cX0_insert 8 = .ok (.aload_n 0, 1) := by decide +kernel
theorem dX0_insert_9 : decode cX0_insert 9 = .ok (.getfield 18, 3) := by decide +kernel
theorem dX0_insert_12 : decode cX0_insert 12 = .ok (.istore_n 3, 1) := by decide +kernel
theorem dX0_insert_13 : decode cX0_insert 13 = .ok (.aload_n 0, 1) := by decide +kernel
theorem dX0_insert_14 : decode cX0_insert 14 = .ok (.getfield 18, 3) := by decide +kernel
theorem dX0_insert_17 : decode cX0_insert 17 = .ok (.istore 4, 2) := by decide +kernel
theorem dX0_insert_19 : decode cX0_insert 19 = .ok (.iload 4, 2) := by decide +kernel
theorem dX0_insert_21 : decode cX0_insert 21 = .ok (.ifCond .le 59, 3) := by decide +kernel
theorem dX0_insert_24 : decode cX0_insert 24 = .ok (.aload_n 0, 1) := by decide +kernel
theorem dX0_insert_25 : decode cX0_insert 25 = .ok (.getfield 9, 3) := by decide +kernel
theorem dX0_insert_28 : decode cX0_insert 28 = .ok (.iload 4, 2) := by decide +kernel
theorem dX0_insert_30 : decode cX0_insert 30 = .ok (.iconst 1, 1) := by decide +kernel
theorem dX0_insert_31 : decode cX0_insert 31 = .ok (.isub, 1) := by decide +kernel
theorem dX0_insert_32 : decode cX0_insert 32 = .ok (.iaload, 1) := by decide +kernel
theorem dX0_insert_33 : decode cX0_insert 33 = .ok (.iload_n 1, 1) := by decide +kernel
theorem dX0_insert_34 : decode cX0_insert 34 = .ok (.if_icmp .le 46, 3) := by decide +kernel
theorem dX0_insert_37 : decode cX0_insert 37 = .ok (.aload_n 0, 1) := by decide +kernel
theorem dX0_insert_38 : decode cX0_insert 38 = .ok (.getfield 9, 3) := by decide +kernel
theorem dX0_insert_41 : decode cX0_insert 41 = .ok (.iload 4, 2) := by decide +kernel
theorem dX0_insert_43 : decode cX0_insert 43 = .ok (.aload_n 0, 1) := by decide +kernel
theorem dX0_insert_44 : decode cX0_insert 44 = .ok (.getfield 9, 3) := by decide +kernel
theorem dX0_insert_47 : decode cX0_insert 47 = .ok (.iload 4, 2) := by decide +kernel
theorem dX0_insert_49 : decode cX0_insert 49 = .ok (.iconst 1, 1) := by decide +kernel
theorem dX0_insert_50 : decode cX0_insert 50 = .ok (.isub, 1) := by decide +kernel
theorem dX0_insert_51 : decode cX0_insert 51 = .ok (.iaload, 1) := by decide +kernel
theorem dX0_insert_52 : decode cX0_insert 52 = .ok (.iastore, 1) := by decide +kernel
theorem dX0_insert_53 : decode cX0_insert 53 = .ok (.aload_n 0, 1) := by decide +kernel
theorem dX0_insert_54 : decode cX0_insert 54 = .ok (.getfield 15, 3) := by decide +kernel
theorem dX0_insert_57 : decode cX0_insert 57 = .ok (.iload 4, 2) := by decide +kernel
theorem dX0_insert_59 : decode cX0_insert 59 = .ok (.aload_n 0, 1) := by decide +kernel
theorem dX0_insert_60 : decode cX0_insert 60 = .ok (.getfield 15, 3) := by decide +kernel
theorem dX0_insert_63 : decode cX0_insert 63 = .ok (.iload 4, 2) := by decide +kernel
theorem dX0_insert_65 : decode cX0_insert 65 = .ok (.iconst 1, 1) := by decide +kernel
theorem dX0_insert_66 : decode cX0_insert 66 = .ok (.isub, 1) := by decide +kernel
theorem dX0_insert_67 : decode cX0_insert 67 = .ok (.iaload, 1) := by decide +kernel
theorem dX0_insert_68 : decode cX0_insert 68 = .ok (.iastore, 1) := by decide +kernel
theorem dX0_insert_69 : decode cX0_insert 69 = .ok (.iload 4, 2) := by decide +kernel
theorem dX0_insert_71 : decode cX0_insert 71 = .ok (.iconst 1, 1) := by decide +kernel
theorem dX0_insert_72 : decode cX0_insert 72 = .ok (.isub, 1) := by decide +kernel
theorem dX0_insert_73 : decode cX0_insert 73 = .ok (.istore_n 3, 1) := by decide +kernel
theorem dX0_insert_74 : decode cX0_insert 74 = .ok (.iinc 4 (-1), 3) := by decide +kernel
theorem dX0_insert_77 : decode cX0_insert 77 = .ok (.goto (-58), 3) := by decide +kernel
theorem dX0_insert_80 : decode cX0_insert 80 = .ok (.aload_n 0, 1) := by decide +kernel
theorem dX0_insert_81 : decode cX0_insert 81 = .ok (.getfield 9, 3) := by decide +kernel
theorem dX0_insert_84 : decode cX0_insert 84 = .ok (.iload_n 3, 1) := by decide +kernel
theorem dX0_insert_85 : decode cX0_insert 85 = .ok (.iload_n 1, 1) := by decide +kernel
theorem dX0_insert_86 : decode cX0_insert 86 = .ok (.iastore, 1) := by decide +kernel
theorem dX0_insert_87 : decode cX0_insert 87 = .ok (.aload_n 0, 1) := by decide +kernel
theorem dX0_insert_88 : decode cX0_insert 88 = .ok (.getfield 15, 3) := by decide +kernel
theorem dX0_insert_91 : decode cX0_insert 91 = .ok (.iload_n 3, 1) := by decide +kernel
theorem dX0_insert_92 : decode cX0_insert 92 = .ok (.iload_n 2, 1) := by decide +kernel
theorem dX0_insert_93 : decode cX0_insert 93 = .ok (.iastore, 1) := by decide +kernel
theorem dX0_insert_94 : decode cX0_insert 94 = .ok (.aload_n 0, 1) := by decide +kernel
theorem dX0_insert_95 : decode cX0_insert 95 = .ok (.dup, 1) := by decide +kernel
theorem dX0_insert_96 : decode cX0_insert 96 = .ok (.getfield 18, 3) := by decide +kernel
theorem dX0_insert_99 : decode cX0_insert 99 = .ok (.iconst 1, 1) := by decide +kernel
theorem dX0_insert_100 : decode cX0_insert 100 = .ok (.iadd, 1) := by decide +kernel
theorem dX0_insert_101 : decode cX0_insert 101 = .ok (.putfield 18, 3) := by decide +kernel
theorem dX0_insert_104 : decode cX0_insert 104 = .ok (.return_, 1) := by decide +kernel
theorem dX0_countBetween_0 : decode cX0_countBetween 0 = .ok (.iconst 0, 1) := by decide +kernel
theorem dX0_countBetween_1 : decode cX0_countBetween 1 = .ok (.istore 4, 2) := by decide +kernel
theorem dX0_countBetween_3 : decode cX0_countBetween 3 = .ok (.iconst 0, 1) := by decide +kernel
theorem dX0_countBetween_4 : decode cX0_countBetween 4 = .ok (.istore 5, 2) := by decide +kernel
theorem dX0_countBetween_6 : decode cX0_countBetween 6 = .ok (.iload 5, 2) := by decide +kernel
theorem dX0_countBetween_8 : decode cX0_countBetween 8 = .ok (.aload_n 0, 1) := by decide +kernel
theorem dX0_countBetween_9 : decode cX0_countBetween 9 = .ok (.getfield 18, 3) := by decide +kernel
theorem dX0_countBetween_12 : decode cX0_countBetween 12 = .ok (.if_icmp .ge 45, 3) := by decide +kernel
theorem dX0_countBetween_15 : decode cX0_countBetween 15 = .ok (.aload_n 0, 1) := by decide +kernel
theorem dX0_countBetween_16 : decode cX0_countBetween 16 = .ok (.getfield 9, 3) := by decide +kernel
theorem dX0_countBetween_19 : decode cX0_countBetween 19 = .ok (.iload 5, 2) := by decide +kernel
theorem dX0_countBetween_21 : decode cX0_countBetween 21 = .ok (.iaload, 1) := by decide +kernel
theorem dX0_countBetween_22 : decode cX0_countBetween 22 = .ok (.iload_n 1, 1) := by decide +kernel
theorem dX0_countBetween_23 : decode cX0_countBetween 23 = .ok (.if_icmp .le 28, 3) := by decide +kernel
theorem dX0_countBetween_26 : decode cX0_countBetween 26 = .ok (.aload_n 0, 1) := by decide +kernel
theorem dX0_countBetween_27 : decode cX0_countBetween 27 = .ok (.getfield 9, 3) := by decide +kernel
theorem dX0_countBetween_30 : decode cX0_countBetween 30 = .ok (.iload 5, 2) := by decide +kernel
theorem dX0_countBetween_32 : decode cX0_countBetween 32 = .ok (.iaload, 1) := by decide +kernel
theorem dX0_countBetween_33 : decode cX0_countBetween 33 = .ok (.iload_n 2, 1) := by decide +kernel
theorem dX0_countBetween_34 : decode cX0_countBetween 34 = .ok (.if_icmp .ge 17, 3) := by decide +kernel
theorem dX0_countBetween_37 : decode cX0_countBetween 37 = .ok (.aload_n 0, 1) := by decide +kernel
theorem dX0_countBetween_38 : decode cX0_countBetween 38 = .ok (.getfield 15, 3) := by decide +kernel
theorem dX0_countBetween_41 : decode cX0_countBetween 41 = .ok (.iload 5, 2) := by decide +kernel
theorem dX0_countBetween_43 : decode cX0_countBetween 43 = .ok (.iaload, 1) := by decide +kernel
theorem dX0_countBetween_44 : decode cX0_countBetween 44 = .ok (.iload_n 3, 1) := by decide +kernel
theorem dX0_countBetween_45 : decode cX0_countBetween 45 = .ok (.if_icmp .le 6, 3) := by decide +kernel
theorem dX0_countBetween_48 : decode cX0_countBetween 48 = .ok (.iinc 4 1, 3) := by decide +kernel
theorem dX0_countBetween_51 : decode cX0_countBetween 51 = .ok (.iinc 5 1, 3) := by decide +kernel
theorem dX0_countBetween_54 : decode cX0_countBetween 54 = .ok (.goto (-48), 3) := by decide +kernel
theorem dX0_countBetween_57 : decode cX0_countBetween 57 = .ok (.iload 4, 2) := by decide +kernel
theorem dX0_countBetween_59 : decode cX0_countBetween 59 = .ok (.ireturn, 1) := by decide +kernel
theorem dX1_init_0 : decode cX1_init 0 = .ok (.aload_n 0, 1) := by decide +kernel
theorem dX1_init_1 : decode cX1_init 1 = .ok (.invokespecial 3, 3) := by decide +kernel
theorem dX1_init_4 : decode cX1_init 4 = .ok (.aload_n 0, 1) := by decide +kernel
theorem dX1_init_5 : decode cX1_init 5 = .ok (.iconst 0, 1) := by decide +kernel
theorem dX1_init_6 : decode cX1_init 6 = .ok (.putfield 9, 3) := by decide +kernel
theorem dX1_init_9 : decode cX1_init 9 = .ok (.aload_n 0, 1) := by decide +kernel
theorem dX1_init_10 : decode cX1_init 10 = .ok (.iconst 0, 1) := by decide +kernel
theorem dX1_init_11 : decode cX1_init 11 = .ok (.putfield 15, 3) := by decide +kernel
theorem dX1_init_14 : decode cX1_init 14 = .ok (.aload_n 0, 1) := by decide +kernel
theorem dX1_init_15 : decode cX1_init 15 = .ok (.iconst (-1), 1) := by decide +kernel
theorem dX1_init_16 : decode cX1_init 16 = .ok (.putfield 18, 3) := by decide +kernel
theorem dX1_init_19 : decode cX1_init 19 = .ok (.aload_n 0, 1) := by decide +kernel
theorem dX1_init_20 : decode cX1_init 20 = .ok (.iconst 0, 1) := by decide +kernel
theorem dX1_init_21 : decode cX1_init 21 = .ok (.putfield 21, 3) := by decide +kernel
theorem dX1_init_24 : decode cX1_init 24 = .ok (.aload_n 0, 1) := by decide +kernel
theorem dX1_init_25 : decode cX1_init 25 = .ok (.iconst (-1), 1) := by decide +kernel
theorem dX1_init_26 : decode cX1_init 26 = .ok (.putfield 24, 3) := by decide +kernel
theorem dX1_init_29 : decode cX1_init 29 = .ok (.return_, 1) := by decide +kernel
theorem dX1_copyFrom_0 : decode cX1_copyFrom 0 = .ok (.aload_n 0, 1) := by decide +kernel
theorem dX1_copyFrom_1 : decode cX1_copyFrom 1 = .ok (.aload_n 1, 1) := by decide +kernel
theorem dX1_copyFrom_2 : decode cX1_copyFrom 2 = .ok (.getfield 9, 3) := by decide +kernel
theorem dX1_copyFrom_5 : decode cX1_copyFrom 5 = .ok (.putfield 9, 3) := by decide +kernel
theorem dX1_copyFrom_8 : decode cX1_copyFrom 8 = .ok (.aload_n 0, 1) := by decide +kernel
theorem dX1_copyFrom_9 : decode cX1_copyFrom 9 = .ok (.aload_n 1, 1) := by decide +kernel
theorem dX1_copyFrom_10 : decode cX1_copyFrom 10 = .ok (.getfield 15, 3) := by decide +kernel
theorem dX1_copyFrom_13 : decode cX1_copyFrom 13 = .ok (.putfield 15, 3) := by decide +kernel
theorem dX1_copyFrom_16 : decode cX1_copyFrom 16 = .ok (.aload_n 0, 1) := by decide +kernel
theorem dX1_copyFrom_17 : decode cX1_copyFrom 17 = .ok (.aload_n 1, 1) := by decide +kernel
theorem dX1_copyFrom_18 : decode cX1_copyFrom 18 = .ok (.getfield 18, 3) := by decide +kernel
theorem dX1_copyFrom_21 : decode cX1_copyFrom 21 = .ok (.putfield 18, 3) := by decide +kernel
theorem dX1_copyFrom_24 : decode cX1_copyFrom 24 = .ok (.aload_n 0, 1) := by decide +kernel
theorem dX1_copyFrom_25 : decode cX1_copyFrom 25 = .ok (.aload_n 1, 1) := by decide +kernel
theorem dX1_copyFrom_26 : decode cX1_copyFrom 26 = .ok (.getfield 21, 3) := by decide +kernel
theorem dX1_copyFrom_29 : decode cX1_copyFrom 29 = .ok (.putfield 21, 3) := by decide +kernel
theorem dX1_copyFrom_32 : decode cX1_copyFrom 32 = .ok (.aload_n 0, 1) := by decide +kernel
theorem dX1_copyFrom_33 : decode cX1_copyFrom 33 = .ok (.aload_n 1, 1) := by decide +kernel
theorem dX1_copyFrom_34 : decode cX1_copyFrom 34 = .ok (.getfield 24, 3) := by decide +kernel
theorem dX1_copyFrom_37 : decode cX1_copyFrom 37 = .ok (.putfield 24, 3) := by decide +kernel
theorem dX1_copyFrom_40 : decode cX1_copyFrom 40 = .ok (.return_, 1) := by decide +kernel
theorem dX1_isOnWay_0 : decode cX1_isOnWay 0 = .ok (.aload_n 0, 1) := by decide +kernel
theorem dX1_isOnWay_1 : decode cX1_isOnWay 1 = .ok (.getfield 18, 3) := by decide +kernel
theorem dX1_isOnWay_4 : decode cX1_isOnWay 4 = .ok (.iconst (-1), 1) := by decide +kernel
theorem dX1_isOnWay_5 : decode cX1_isOnWay 5 = .ok (.if_icmp .eq 7, 3) := by decide +kernel
theorem dX1_isOnWay_8 : decode cX1_isOnWay 8 = .ok (.iconst 1, 1) := by decide +kernel
theorem dX1_isOnWay_9 : decode cX1_isOnWay 9 = .ok (.goto 4, 3) := by decide +kernel
theorem dX1_isOnWay_12 : decode cX1_isOnWay 12 = .ok (.iconst 0, 1) := by decide +kernel
theorem dX1_isOnWay_13 : decode cX1_isOnWay 13 = .ok (.ireturn, 1) := by decide +kernel
theorem dX1_driveTo_0 : decode cX1_driveTo 0 = .ok (.aload_n 0, 1) := by decide +kernel
theorem dX1_driveTo_1 : decode cX1_driveTo 1 = .ok (.iconst 0, 1) := by decide +kernel
theorem dX1_driveTo_2 : decode cX1_driveTo 2 = .ok (.aload_n 0, 1) := by decide +kernel
theorem dX1_driveTo_3 : decode cX1_driveTo 3 = .ok (.getfield 18, 3) := by decide +kernel
theorem dX1_driveTo_6 : decode cX1_driveTo 6 = .ok (.iload_n 1, 1) := by decide +kernel
theorem dX1_driveTo_7 : decode cX1_driveTo 7 = .ok (.if_icmp .ne 10, 3) := by decide +kernel
theorem dX1_driveTo_10 : decode cX1_driveTo 10 = .ok (.aload_n 0, 1) := by decide +kernel
theorem dX1_driveTo_11 : decode cX1_driveTo 11 = .ok (.getfield 15, 3) := by decide +kernel
theorem dX1_driveTo_14 : decode cX1_driveTo 14 = .ok (.goto 4, 3) := by decide +kernel
theorem dX1_driveTo_17 : decode cX1_driveTo 17 = .ok (.iload_n 3, 1) := by decide +kernel
theorem dX1_driveTo_18 : decode cX1_driveTo 18 = .ok (.iconst 1, 1) := by decide +kernel
theorem dX1_driveTo_19 : decode cX1_driveTo 19 = .ok (.isub, 1) := by decide +kernel
theorem dX1_driveTo_20 : decode cX1_driveTo 20 = .ok (.invokestatic 27, 3) := by decide +kernel
theorem dX1_driveTo_23 : decode cX1_driveTo 23 = .ok (.putfield 15, 3) := by decide +kernel
theorem dX1_driveTo_26 : decode cX1_driveTo 26 = .ok (.aload_n 0, 1) := by decide +kernel
theorem dX1_driveTo_27 : decode cX1_driveTo 27 = .ok (.iload_n 1, 1) := by decide +kernel
theorem dX1_driveTo_28 : decode cX1_driveTo 28 = .ok (.putfield 18, 3) := by decide +kernel
theorem dX1_driveTo_31 : decode cX1_driveTo 31 = .ok (.aload_n 0, 1) := by decide +kernel
theorem dX1_driveTo_32 : decode cX1_driveTo 32 = .ok (.getfield 15, 3) := by decide +kernel
theorem dX1_driveTo_35 : decode cX1_driveTo 35 = .ok (.ifCond .ne 13, 3) := by decide +kernel
theorem dX1_driveTo_38 : decode cX1_driveTo 38 = .ok (.aload_n 0, 1) := by decide +kernel
theorem dX1_driveTo_39 : decode cX1_driveTo 39 = .ok (.iload_n 2, 1) := by decide +kernel
theorem dX1_driveTo_40 : decode cX1_driveTo 40 = .ok (.putfield 9, 3) := by decide +kernel
theorem dX1_driveTo_43 : decode cX1_driveTo 43 = .ok (.aload_n 0, 1) := by decide +kernel
theorem dX1_driveTo_44 : decode cX1_driveTo 44 = .ok (.iconst (-1), 1) := by decide +kernel
theorem dX1_driveTo_45 : decode cX1_driveTo 45 = .ok (.putfield 18, 3) := by decide +kernel
theorem dX1_driveTo_48 : decode cX1_driveTo 48 = .ok (.return_, 1) := by decide +kernel
theorem dX1_workAnHourOn_0 : decode cX1_workAnHourOn 0 = .ok (.aload_n 0, 1) := by decide +kernel
theorem dX1_workAnHourOn_1 : decode cX1_workAnHourOn 1 = .ok (.iload_n 1, 1) := by decide +kernel
theorem dX1_workAnHourOn_2 : decode cX1_workAnHourOn 2 = .ok (.putfield 24, 3) := by decide +kernel
theorem dX1_workAnHourOn_5 : decode cX1_workAnHourOn 5 = .ok (.aload_n 0, 1) := by decide +kernel
theorem dX1_workAnHourOn_6 : decode cX1_workAnHourOn 6 = .ok (.dup, 1) := by decide +kernel
theorem dX1_workAnHourOn_7 : decode cX1_workAnHourOn 7 = .ok (.getfield 21, 3) := by decide +kernel
theorem dX1_workAnHourOn_10 : decode cX1_workAnHourOn 10 = .ok (.iconst 1, 1) := by decide +kernel
theorem dX1_workAnHourOn_11 : decode cX1_workAnHourOn 11 = .ok (.iadd, 1) := by decide +kernel
theorem dX1_workAnHourOn_12 : decode cX1_workAnHourOn 12 = .ok (.putfield 21, 3) := by decide +kernel
theorem dX1_workAnHourOn_15 : decode cX1_workAnHourOn 15 = .ok (.return_, 1) := by decide +kernel
theorem dX1_forgetWork_0 : decode cX1_forgetWork 0 = .ok (.aload_n 0, 1) := by decide +kernel
theorem dX1_forgetWork_1 : decode cX1_forgetWork 1 = .ok (.iconst (-1), 1) := by decide +kernel
theorem dX1_forgetWork_2 : decode cX1_forgetWork 2 = .ok (.putfield 24, 3) := by decide +kernel
theorem dX1_forgetWork_5 : decode cX1_forgetWork 5 = .ok (.aload_n 0, 1) := by decide +kernel
theorem dX1_forgetWork_6 : decode cX1_forgetWork 6 = .ok (.iconst 0, 1) := by decide +kernel
theorem dX1_forgetWork_7 : decode cX1_forgetWork 7 = .ok (.putfield 21, 3) := by decide +kernel
theorem dX1_forgetWork_10 : decode cX1_forgetWork 10 = .ok (.return_, 1) := by decide +kernel
theorem dX1_workOn_0 : decode cX1_workOn 0 = .ok (.iload_n 1, 1) := by decide +kernel
theorem dX1_workOn_1 : decode cX1_workOn 1 = .ok (.aload_n 0, 1) := by decide +kernel
theorem dX1_workOn_2 : decode cX1_workOn 2 = .ok (.getfield 24, 3) := by decide +kernel
theorem dX1_workOn_5 : decode cX1_workOn 5 = .ok (.if_icmp .ne 10, 3) := by decide +kernel
theorem dX1_workOn_8 : decode cX1_workOn 8 = .ok (.aload_n 0, 1) := by decide +kernel
theorem dX1_workOn_9 : decode cX1_workOn 9 = .ok (.getfield 21, 3) := by decide +kernel
theorem dX1_workOn_12 : decode cX1_workOn 12 = .ok (.goto 4, 3) := by decide +kernel
theorem dX1_workOn_15 : decode cX1_workOn 15 = .ok (.iconst 0, 1) := by decide +kernel
theorem dX1_workOn_16 : decode cX1_workOn 16 = .ok (.ireturn, 1) := by decide +kernel
set_option maxRecDepth 20000 in
theorem ggX2_init_X0_init : GoodIn wsX2_init wsX0_init := goodIn_r _ [38, 39, 2, 3, 27, 40, 41, 42, 80, 81, 82] (by decide +kernel) (by decide +kernel)
set_option maxRecDepth 20000 in
theorem gX2_init_X0_init_n23 : GoodIn wsX2_init (wsX0_init) := ggX2_init_X0_init
set_option maxRecDepth 20000 in
theorem ggX2_init_X3_init : GoodIn wsX2_init wsX3_init := goodIn_r _ [44, 45, 2, 3, 27, 46, 47, 48, 83, 84, 85] (by decide +kernel) (by decide +kernel)
set_option maxRecDepth 20000 in
theorem gX2_init_X3_init_n30 : GoodIn wsX2_init (wsX3_init) := ggX2_init_X3_init
set_option maxRecDepth 20000 in
theorem ggX2_init_X4_init : GoodIn wsX2_init wsX4_init := goodIn_r _ [50, 51, 2, 3, 27, 52, 53, 86, 87] (by decide +kernel) (by decide +kernel)
set_option maxRecDepth 20000 in
theorem gX2_init_X4_init_n37 : GoodIn wsX2_init (wsX4_init) := ggX2_init_X4_init
set_option maxRecDepth 20000 in
theorem ggX2_init_X1_init : GoodIn wsX2_init wsX1_init := goodIn_r _ [55, 56, 2, 3, 57, 58, 59, 60, 61, 88, 89, 90, 91, 92] (by decide +kernel) (by decide +kernel)
set_option maxRecDepth 20000 in
theorem gX2_init_X1_init_n44 : GoodIn wsX2_init (wsX1_init) := ggX2_init_X1_init
set_option maxRecDepth 20000 in
theorem ggX2_init_X7_init : GoodIn wsX2_init wsX7_init := goodIn_r _ [63, 64, 2, 3, 27, 65, 66, 93, 94] (by decide +kernel) (by decide +kernel)
set_option maxRecDepth 20000 in
theorem gX2_init_X7_init_n51 : GoodIn wsX2_init (wsX7_init) := ggX2_init_X7_init
set_option maxRecDepth 20000 in
theorem ggX2_init_X5_init : GoodIn wsX2_init wsX5_init := goodIn_r _ [68, 69, 2, 3] (by decide +kernel) (by decide +kernel)
set_option maxRecDepth 20000 in
theorem gX2_init_X5_init_n66 : GoodIn wsX2_init (wsX5_init) := ggX2_init_X5_init
theorem dX2_init_0 : decode cX2_init 0 = .ok (.aload_n 0, 1) := by decide +kernel
theorem dX2_init_1 : decode cX2_init 1 = .ok (.invokespecial 3, 3) := by decide +kernel
theorem dX2_init_4 : decode cX2_init 4 = .ok (.aload_n 0, 1) := by decide +kernel
theorem dX2_init_5 : decode cX2_init 5 = .ok (.bipush 10, 2) := by decide +kernel
theorem dX2_init_7 : decode cX2_init 7 = .ok (.anewarray 9, 3) := by decide +kernel
theorem dX2_init_10 : decode cX2_init 10 = .ok (.putfield 11, 3) := by decide +kernel
theorem dX2_init_13 : decode cX2_init 13 = .ok (.aload_n 0, 1) := by decide +kernel
theorem dX2_init_14 : decode cX2_init 14 = .ok (.iconst 0, 1) := by decide +kernel
theorem dX2_init_15 : decode cX2_init 15 = .ok (.putfield 17, 3) := by decide +kernel
theorem dX2_init_18 : decode cX2_init 18 = .ok (.aload_n 0, 1) := by decide +kernel
theorem dX2_init_19 : decode cX2_init 19 = .ok (.new 21, 3) := by decide +kernel
theorem dX2_init_22 : decode cX2_init 22 = .ok (.dup, 1) := by decide +kernel
theorem dX2_init_23 : decode cX2_init 23 = .ok (.invokespecial 23, 3) := by decide +kernel
theorem dX2_init_26 : decode cX2_init 26 = .ok (.putfield 24, 3) := by decide +kernel
theorem dX2_init_29 : decode cX2_init 29 = .ok (.aload_n 0, 1) := by decide +kernel
theorem dX2_init_30 : decode cX2_init 30 = .ok (.new 28, 3) := by decide +kernel
theorem dX2_init_33 : decode cX2_init 33 = .ok (.dup, 1) := by decide +kernel
theorem dX2_init_34 : decode cX2_init 34 = .ok (.invokespecial 30, 3) := by decide +kernel
theorem dX2_init_37 : decode cX2_init 37 = .ok (.putfield 31, 3) := by decide +kernel
theorem dX2_init_40 : decode cX2_init 40 = .ok (.aload_n 0, 1) := by decide +kernel
theorem dX2_init_41 : decode cX2_init 41 = .ok (.new 35, 3) := by decide +kernel
theorem dX2_init_44 : decode cX2_init 44 = .ok (.dup, 1) := by decide +kernel
theorem dX2_init_45 : decode cX2_init 45 = .ok (.invokespecial 37, 3) := by decide +kernel
theorem dX2_init_48 : decode cX2_init 48 = .ok (.putfield 38, 3) := by decide +kernel
theorem dX2_init_51 : decode cX2_init 51 = .ok (.aload_n 0, 1) := by decide +kernel
theorem dX2_init_52 : decode cX2_init 52 = .ok (.new 42, 3) := by decide +kernel
theorem dX2_init_55 : decode cX2_init 55 = .ok (.dup, 1) := by decide +kernel
theorem dX2_init_56 : decode cX2_init 56 = .ok (.invokespecial 44, 3) := by decide +kernel
theorem dX2_init_59 : decode cX2_init 59 = .ok (.putfield 45, 3) := by decide +kernel
theorem dX2_init_62 : decode cX2_init 62 = .ok (.aload_n 0, 1) := by decide +kernel
theorem dX2_init_63 : decode cX2_init 63 = .ok (.new 49, 3) := by decide +kernel
theorem dX2_init_66 : decode cX2_init 66 = .ok (.dup, 1) := by decide +kernel
theorem dX2_init_67 : decode cX2_init 67 = .ok (.invokespecial 51, 3) := by decide +kernel
theorem dX2_init_70 : decode cX2_init 70 = .ok (.putfield 52, 3) := by decide +kernel
theorem dX2_init_73 : decode cX2_init 73 = .ok (.aload_n 0, 1) := by decide +kernel
theorem dX2_init_74 : decode cX2_init 74 = .ok (.bipush 7, 2) := by decide +kernel
theorem dX2_init_76 : decode cX2_init 76 = .ok (.newarray .int, 2) := by decide +kernel
theorem dX2_init_78 : decode cX2_init 78 = .ok (.putfield 56, 3) := by decide +kernel
theorem dX2_init_81 : decode cX2_init 81 = .ok (.aload_n 0, 1) := by decide +kernel
theorem dX2_init_82 : decode cX2_init 82 = .ok (.iconst 5, 1) := by decide +kernel
theorem dX2_init_83 : decode cX2_init 83 = .ok (.newarray .int, 2) := by decide +kernel
theorem dX2_init_85 : decode cX2_init 85 = .ok (.putfield 60, 3) := by decide +kernel
theorem dX2_init_88 : decode cX2_init 88 = .ok (.aload_n 0, 1) := by decide +kernel
theorem dX2_init_89 : decode cX2_init 89 = .ok (.iconst 0, 1) := by decide +kernel
theorem dX2_init_90 : decode cX2_init 90 = .ok (.putfield 63, 3) := by decide +kernel
theorem dX2_init_93 : decode cX2_init 93 = .ok (.iconst 0, 1) := by decide +kernel
theorem dX2_init_94 : decode cX2_init 94 = .ok (.istore_n 1, 1) := by decide +kernel
theorem dX2_init_95 : decode cX2_init 95 = .ok (.iload_n 1, 1) := by decide +kernel
theorem dX2_init_96 : decode cX2_init 96 = .ok (.bipush 10, 2) := by decide +kernel
theorem dX2_init_98 : decode cX2_init 98 = .ok (.if_icmp .ge 22, 3) := by decide +kernel
theorem dX2_init_101 : decode cX2_init 101 = .ok (.aload_n 0, 1) := by decide +kernel
theorem dX2_init_102 : decode cX2_init 102 = .ok (.getfield 11, 3) := by decide +kernel
theorem dX2_init_105 : decode cX2_init 105 = .ok (.iload_n 1, 1) := by decide +kernel
theorem dX2_init_106 : decode cX2_init 106 = .ok (.new 9, 3) := by decide +kernel
theorem dX2_init_109 : decode cX2_init 109 = .ok (.dup, 1) := by decide +kernel
theorem dX2_init_110 : decode cX2_init 110 = .ok (.invokespecial 66, 3) := by decide +kernel
theorem dX2_init_113 : decode cX2_init 113 = .ok (.aastore, 1) := by decide +kernel
theorem dX2_init_114 : decode cX2_init 114 = .ok (.iinc 1 1, 3) := by decide +kernel
theorem dX2_init_117 : decode cX2_init 117 = .ok (.goto (-22), 3) := by decide +kernel
theorem dX2_init_120 : decode cX2_init 120 = .ok (.getstatic 67, 3) := by decide +kernel
theorem dX2_init_123 : decode cX2_init 123 = .ok (.iconst 0, 1) := by decide +kernel
theorem dX2_init_124 : decode cX2_init 124 = .ok (.aload_n 0, 1) := by decide +kernel
theorem dX2_init_125 : decode cX2_init 125 = .ok (.getfield 56, 3) := by decide +kernel
theorem dX2_init_128 : decode cX2_init 128 = .ok (.iconst 0, 1) := by decide +kernel
theorem dX2_init_129 : decode cX2_init 129 = .ok (.bipush 7, 2) := by decide +kernel
theorem dX2_init_131 : decode cX2_init 131 = .ok (.invokestatic 70, 3) := by decide +kernel
theorem dX2_init_134 : decode cX2_init 134 = .ok (.return_, 1) := by decide +kernel
set_option maxRecDepth 20000 in
theorem ggX2_copyFrom_X5_copyFrom : GoodIn wsX2_copyFrom wsX5_copyFrom := goodIn_r _ [19, 20, 21, 22, 23, 24, 25, 26, 81, 82, 83, 84, 85, 86, 87] (by decide +kernel) (by decide +kernel)
set_option maxRecDepth 20000 in
theorem gX2_copyFrom_X5_copyFrom : GoodIn wsX2_copyFrom (wsV RX2 76 RX5 yX5_copyFrom wsX5_copyFrom) := goodIn_app (goodIn_of _ (by decide +kernel)) ggX2_copyFrom_X5_copyFrom
set_option maxRecDepth 20000 in
theorem ggX2_copyFrom_X0_copyFrom : GoodIn wsX2_copyFrom wsX0_copyFrom := goodIn_r _ [31, 32, 33, 10, 11, 12, 34, 35, 88, 89, 90] (by decide +kernel) (by decide +kernel)
set_option maxRecDepth 20000 in
theorem gX2_copyFrom_X0_copyFrom : GoodIn wsX2_copyFrom (wsV RX2 80 RX0 yX0_copyFrom wsX0_copyFrom) := goodIn_app (goodIn_of _ (by decide +kernel)) ggX2_copyFrom_X0_copyFrom
set_option maxRecDepth 20000 in
theorem ggX2_copyFrom_X3_copyFrom : GoodIn wsX2_copyFrom wsX3_copyFrom := goodIn_r _ [40, 41, 42, 10, 11, 12, 43, 44, 91, 92, 93] (by decide +kernel) (by decide +kernel)
set_option maxRecDepth 20000 in
theorem gX2_copyFrom_X3_copyFrom : GoodIn wsX2_copyFrom (wsV RX2 83 RX3 yX3_copyFrom wsX3_copyFrom) := goodIn_app (goodIn_of _ (by decide +kernel)) ggX2_copyFrom_X3_copyFrom
set_option maxRecDepth 20000 in
theorem ggX2_copyFrom_X4_copyFrom : GoodIn wsX2_copyFrom wsX4_copyFrom := goodIn_r _ [49, 50, 51, 10, 11, 12, 52, 94, 95] (by decide +kernel) (by decide +kernel)
set_option maxRecDepth 20000 in
theorem gX2_copyFrom_X4_copyFrom : GoodIn wsX2_copyFrom (wsV RX2 86 RX4 yX4_copyFrom wsX4_copyFrom) := goodIn_app (goodIn_of _ (by decide +kernel)) ggX2_copyFrom_X4_copyFrom
set_option maxRecDepth 20000 in
theorem ggX2_copyFrom_X1_copyFrom : GoodIn wsX2_copyFrom wsX1_copyFrom := goodIn_r _ [57, 58, 59, 60, 61, 62, 96, 97, 98, 99, 100] (by decide +kernel) (by decide +kernel)
set_option maxRecDepth 20000 in
theorem gX2_copyFrom_X1_copyFrom : GoodIn wsX2_copyFrom (wsV RX2 89 RX1 yX1_copyFrom wsX1_copyFrom) := goodIn_app (goodIn_of _ (by decide +kernel)) ggX2_copyFrom_X1_copyFrom
set_option maxRecDepth 20000 in
theorem ggX2_copyFrom_X7_copyFrom : GoodIn wsX2_copyFrom wsX7_copyFrom := goodIn_r _ [67, 68, 69, 10, 11, 12, 70, 101, 102] (by decide +kernel) (by decide +kernel)
set_option maxRecDepth 20000 in
theorem gX2_copyFrom_X7_copyFrom : GoodIn wsX2_copyFrom (wsV RX2 92 RX7 yX7_copyFrom wsX7_copyFrom) := goodIn_app (goodIn_of _ (by decide +kernel)) ggX2_copyFrom_X7_copyFrom
theorem dX2_copyFrom_0 : decode cX2_copyFrom 0 = .ok (.iconst 0, 1) := by decide +kernel
theorem dX2_copyFrom_1 : decode cX2_copyFrom 1 = .ok (.istore_n 2, 1) := by decide +kernel
theorem dX2_copyFrom_2 : decode cX2_copyFrom 2 = .ok (.iload_n 2, 1) := by decide +kernel
theorem dX2_copyFrom_3 : decode cX2_copyFrom 3 = .ok (.aload_n 1, 1) := by decide +kernel
theorem dX2_copyFrom_4 : decode cX2_copyFrom 4 = .ok (.getfield 17, 3) := by decide +kernel
theorem dX2_copyFrom_7 : decode cX2_copyFrom 7 = .ok (.if_icmp .ge 24, 3) := by decide +kernel
theorem dX2_copyFrom_10 : decode cX2_copyFrom 10 = .ok (.aload_n 0, 1) := by decide +kernel
theorem dX2_copyFrom_11 : decode cX2_copyFrom 11 = .ok (.getfield 11, 3) := by decide +kernel
theorem dX2_copyFrom_14 : decode cX2_copyFrom 14 = .ok (.iload_n 2, 1) := by decide +kernel
theorem dX2_copyFrom_15 : decode cX2_copyFrom 15 = .ok (.aaload, 1) := by decide +kernel
theorem dX2_copyFrom_16 : decode cX2_copyFrom 16 = .ok (.aload_n 1, 1) := by decide +kernel
theorem dX2_copyFrom_17 : decode cX2_copyFrom 17 = .ok (.getfield 11, 3) := by decide +kernel
theorem dX2_copyFrom_20 : decode cX2_copyFrom 20 = .ok (.iload_n 2, 1) := by decide +kernel
theorem dX2_copyFrom_21 : decode cX2_copyFrom 21 = .ok (.aaload, 1) := by decide +kernel
theorem dX2_copyFrom_22 : decode cX2_copyFrom 22 = .ok (.invokevirtual 76, 3) := by decide +kernel
theorem dX2_copyFrom_25 : decode cX2_copyFrom 25 = .ok (.iinc 2 1, 3) := by decide +kernel
theorem dX2_copyFrom_28 : decode cX2_copyFrom 28 = .ok (.goto (-26), 3) := by decide +kernel
theorem dX2_copyFrom_31 : decode cX2_copyFrom 31 = .ok (.aload_n 0, 1) := by decide +kernel
theorem dX2_copyFrom_32 : decode cX2_copyFrom 32 = .ok (.aload_n 1, 1) := by decide +kernel
theorem dX2_copyFrom_33 : decode cX2_copyFrom 33 = .ok (.getfield 17, 3) := by decide +kernel
theorem dX2_copyFrom_36 : decode cX2_copyFrom 36 = .ok (.putfield 17, 3) := by decide +kernel
theorem dX2_copyFrom_39 : decode cX2_copyFrom 39 = .ok (.aload_n 0, 1) := by decide +kernel
theorem dX2_copyFrom_40 : decode cX2_copyFrom 40 = .ok (.getfield 24, 3) := by decide +kernel
theorem dX2_copyFrom_43 : decode cX2_copyFrom 43 = .ok (.aload_n 1, 1) := by decide +kernel
theorem dX2_copyFrom_44 : decode cX2_copyFrom 44 = .ok (.getfield 24, 3) := by decide +kernel
theorem dX2_copyFrom_47 : decode cX2_copyFrom 47 = .ok (.invokevirtual 80, 3) := by decide +kernel
theorem dX2_copyFrom_50 : decode cX2_copyFrom 50 = .ok (.aload_n 0, 1) := by decide +kernel
theorem dX2_copyFrom_51 : decode cX2_copyFrom 51 = .ok (.getfield 31, 3) := by decide +kernel
theorem dX2_copyFrom_54 : decode cX2_copyFrom 54 = .ok (.aload_n 1, 1) := by decide +kernel
theorem dX2_copyFrom_55 : decode cX2_copyFrom 55 = .ok (.getfield 31, 3) := by decide +kernel
theorem dX2_copyFrom_58 : decode cX2_copyFrom 58 = .ok (.invokevirtual 83, 3) := by decide +kernel
theorem dX2_copyFrom_61 : decode cX2_copyFrom 61 = .ok (.aload_n 0, 1) := by decide +kernel
theorem dX2_copyFrom_62 : decode cX2_copyFrom 62 = .ok (.getfield 38, 3) := by decide +kernel
theorem dX2_copyFrom_65 : decode cX2_copyFrom 65 = .ok (.aload_n 1, 1) := by decide +kernel
theorem dX2_copyFrom_66 : decode cX2_copyFrom 66 = .ok (.getfield 38, 3) := by decide +kernel
theorem dX2_copyFrom_69 : decode cX2_copyFrom 69 = .ok (.invokevirtual 86, 3) := by decide +kernel
theorem dX2_copyFrom_72 : decode cX2_copyFrom 72 = .ok (.aload_n 0, 1) := by decide +kernel
theorem dX2_copyFrom_73 : decode cX2_copyFrom 73 = .ok (.getfield 45, 3) := by decide +kernel
theorem dX2_copyFrom_76 : decode cX2_copyFrom 76 = .ok (.aload_n 1, 1) := by decide +kernel
theorem dX2_copyFrom_77 : decode cX2_copyFrom 77 = .ok (.getfield 45, 3) := by decide +kernel
theorem dX2_copyFrom_80 : decode cX2_copyFrom 80 = .ok (.invokevirtual 89, 3) := by decide +kernel
theorem dX2_copyFrom_83 : decode cX2_copyFrom 83 = .ok (.aload_n 0, 1) := by decide +kernel
theorem dX2_copyFrom_84 : decode cX2_copyFrom 84 = .ok (.getfield 52, 3) := by decide +kernel
theorem dX2_copyFrom_87 : decode cX2_copyFrom 87 = .ok (.aload_n 1, 1) := by decide +kernel
theorem dX2_copyFrom_88 : decode cX2_copyFrom 88 = .ok (.getfield 52, 3) := by decide +kernel
theorem dX2_copyFrom_91 : decode cX2_copyFrom 91 = .ok (.invokevirtual 92, 3) := by decide +kernel
theorem dX2_copyFrom_94 : decode cX2_copyFrom 94 = .ok (.aload_n 1, 1) := by decide +kernel
theorem dX2_copyFrom_95 : decode cX2_copyFrom 95 = .ok (.getfield 56, 3) := by decide +kernel
theorem dX2_copyFrom_98 : decode cX2_copyFrom 98 = .ok (.iconst 0, 1) := by decide +kernel
theorem dX2_copyFrom_99 : decode cX2_copyFrom 99 = .ok (.aload_n 0, 1) := by decide +kernel
theorem dX2_copyFrom_100 : decode cX2_copyFrom 100 = .ok (.getfield 56, 3) := by decide +kernel
theorem dX2_copyFrom_103 : decode cX2_copyFrom 103 = .ok (.iconst 0, 1) := by decide +kernel
theorem dX2_copyFrom_104 : decode cX2_copyFrom 104 = .ok (.bipush 7, 2) := by decide +kernel
theorem dX2_copyFrom_106 : decode cX2_copyFrom 106 = .ok (.invokestatic 70, 3) := by decide +kernel
theorem dX2_copyFrom_109 : decode cX2_copyFrom 109 = .ok (.aload_n 1, 1) := by decide +kernel
theorem dX2_copyFrom_110 : decode cX2_copyFrom 110 = .ok (.getfield 60, 3) := by decide +kernel
theorem dX2_copyFrom_113 : decode cX2_copyFrom 113 = .ok (.iconst 0, 1) := by decide +kernel
theorem dX2_copyFrom_114 : decode cX2_copyFrom 114 = .ok (.aload_n 0, 1) := by decide +kernel
theorem dX2_copyFrom_115 : decode cX2_copyFrom 115 = .ok (.getfield 60, 3) := by decide +kernel
theorem dX2_copyFrom_118 : decode cX2_copyFrom 118 = .ok (.iconst 0, 1) := by decide +kernel
theorem dX2_copyFrom_119 : decode cX2_copyFrom 119 = .ok (.iconst 5, 1) := by decide +kernel
theorem dX2_copyFrom_120 : decode cX2_copyFrom 120 = .ok (.invokestatic 70, 3) := by decide +kernel
theorem dX2_copyFrom_123 : decode cX2_copyFrom 123 = .ok (.aload_n 0, 1) := by decide +kernel
theorem dX2_copyFrom_124 : decode cX2_copyFrom 124 = .ok (.aload_n 1, 1) := by decide +kernel
theorem dX2_copyFrom_125 : decode cX2_copyFrom 125 = .ok (.getfield 63, 3) := by decide +kernel
theorem dX2_copyFrom_128 : decode cX2_copyFrom 128 = .ok (.putfield 63, 3) := by decide +kernel
theorem dX2_copyFrom_131 : decode cX2_copyFrom 131 = .ok (.return_, 1) := by decide +kernel
theorem dX2_hasTurbine_0 : decode cX2_hasTurbine 0 = .ok (.iload_n 1, 1) := by decide +kernel
theorem dX2_hasTurbine_1 : decode cX2_hasTurbine 1 = .ok (.ifCond .lt 15, 3) := by decide +kernel
theorem dX2_hasTurbine_4 : decode cX2_hasTurbine 4 = .ok (.iload_n 1, 1) := by decide +kernel
theorem dX2_hasTurbine_5 : decode cX2_hasTurbine 5 = .ok (.aload_n 0, 1) := by decide +kernel
theorem dX2_hasTurbine_6 : decode cX2_hasTurbine 6 = .ok (.getfield 17, 3) := by decide +kernel
theorem dX2_hasTurbine_9 : decode cX2_hasTurbine 9 = .ok (.if_icmp .ge 7, 3) := by decide +kernel
theorem dX2_hasTurbine_12 : decode cX2_hasTurbine 12 = .ok (.iconst 1, 1) := by decide +kernel
theorem dX2_hasTurbine_13 : decode cX2_hasTurbine 13 = .ok (.goto 4, 3) := by decide +kernel
theorem dX2_hasTurbine_16 : decode cX2_hasTurbine 16 = .ok (.iconst 0, 1) := by decide +kernel
theorem dX2_hasTurbine_17 : decode cX2_hasTurbine 17 = .ok (.ireturn, 1) := by decide +kernel
theorem dX2_hasTurbineAt_0 : decode cX2_hasTurbineAt 0 = .ok (.iconst 0, 1) := by decide +kernel
theorem dX2_hasTurbineAt_1 : decode cX2_hasTurbineAt 1 = .ok (.istore_n 2, 1) := by decide +kernel
theorem dX2_hasTurbineAt_2 : decode cX2_hasTurbineAt 2 = .ok (.iload_n 2, 1) := by decide +kernel
theorem dX2_hasTurbineAt_3 : decode cX2_hasTurbineAt 3 = .ok (.aload_n 0, 1) := by decide +kernel
theorem dX2_hasTurbineAt_4 : decode cX2_hasTurbineAt 4 = .ok (.getfield 17, 3) := by decide +kernel
theorem dX2_hasTurbineAt_7 : decode cX2_hasTurbineAt 7 = .ok (.if_icmp .ge 24, 3) := by decide +kernel
theorem dX2_hasTurbineAt_10 : decode cX2_hasTurbineAt 10 = .ok (.aload_n 0, 1) := by decide +kernel
theorem dX2_hasTurbineAt_11 : decode cX2_hasTurbineAt 11 = .ok (.getfield 11, 3) := by decide +kernel
theorem dX2_hasTurbineAt_14 : decode cX2_hasTurbineAt 14 = .ok (.iload_n 2, 1) := by decide +kernel
theorem dX2_hasTurbineAt_15 : decode cX2_hasTurbineAt 15 = .ok (.aaload, 1) := by decide +kernel
theorem dX2_hasTurbineAt_16 : decode cX2_hasTurbineAt 16 = .ok (.getfield 95, 3) := by decide +kernel
theorem dX2_hasTurbineAt_19 : decode cX2_hasTurbineAt 19 = .ok (.iload_n 1, 1) := by decide +kernel
theorem dX2_hasTurbineAt_20 : decode cX2_hasTurbineAt 20 = .ok (.if_icmp .ne 5, 3) := by decide +kernel
theorem dX2_hasTurbineAt_23 : decode cX2_hasTurbineAt 23 = .ok (.iconst 1, 1) := by decide +kernel
theorem dX2_hasTurbineAt_24 : decode cX2_hasTurbineAt 24 = .ok (.ireturn, 1) := by decide +kernel
theorem dX2_hasTurbineAt_25 : decode cX2_hasTurbineAt 25 = .ok (.iinc 2 1, 3) := by decide +kernel
theorem dX2_hasTurbineAt_28 : decode cX2_hasTurbineAt 28 = .ok (.goto (-26), 3) := by decide +kernel
theorem dX2_hasTurbineAt_31 : decode cX2_hasTurbineAt 31 = .ok (.iconst 0, 1) := by decide +kernel
theorem dX2_hasTurbineAt_32 : decode cX2_hasTurbineAt 32 = .ok (.ireturn, 1) := by decide +kernel
set_option maxRecDepth 20000 in
theorem ggX2_buildTurbine_X5_begin : GoodIn wsX2_buildTurbine wsX5_begin := goodIn_r _ [7, 8, 9, 10, 11, 12, 13, 14, 25, 26, 27, 28, 29, 30, 31] (by decide +kernel) (by decide +kernel)
set_option maxRecDepth 20000 in
theorem gX2_buildTurbine_X5_begin : GoodIn wsX2_buildTurbine (wsV RX2 98 RX5 yX5_begin wsX5_begin) := goodIn_app (goodIn_of _ (by decide +kernel)) ggX2_buildTurbine_X5_begin
theorem dX2_buildTurbine_0 : decode cX2_buildTurbine 0 = .ok (.aload_n 0, 1) := by decide +kernel
theorem dX2_buildTurbine_1 : decode cX2_buildTurbine 1 = .ok (.getfield 17, 3) := by decide +kernel
theorem dX2_buildTurbine_4 : decode cX2_buildTurbine 4 = .ok (.bipush 10, 2) := by decide +kernel
theorem dX2_buildTurbine_6 : decode cX2_buildTurbine 6 = .ok (.if_icmp .lt 5, 3) := by decide +kernel
theorem dX2_buildTurbine_9 : decode cX2_buildTurbine 9 = .ok (.iconst (-1), 1) := by decide +kernel
theorem dX2_buildTurbine_10 : decode cX2_buildTurbine 10 = .ok (.ireturn, 1) := by decide +kernel
theorem dX2_buildTurbine_11 : decode cX2_buildTurbine 11 = .ok (.aload_n 0, 1) := by decide +kernel
theorem dX2_buildTurbine_12 : decode cX2_buildTurbine 12 = .ok (.getfield 11, 3) := by decide +kernel
theorem dX2_buildTurbine_15 : decode cX2_buildTurbine 15 = .ok (.aload_n 0, 1) := by decide +kernel
theorem dX2_buildTurbine_16 : decode cX2_buildTurbine 16 = .ok (.getfield 17, 3) := by decide +kernel
theorem dX2_buildTurbine_19 : decode cX2_buildTurbine 19 = .ok (.aaload, 1) := by decide +kernel
theorem dX2_buildTurbine_20 : decode cX2_buildTurbine 20 = .ok (.iload_n 1, 1) := by decide +kernel
theorem dX2_buildTurbine_21 : decode cX2_buildTurbine 21 = .ok (.iload_n 2, 1) := by decide +kernel
theorem dX2_buildTurbine_22 : decode cX2_buildTurbine 22 = .ok (.iload_n 3, 1) := by decide +kernel
theorem dX2_buildTurbine_23 : decode cX2_buildTurbine 23 = .ok (.invokevirtual 98, 3) := by decide +kernel
theorem dX2_buildTurbine_26 : decode cX2_buildTurbine 26 = .ok (.aload_n 0, 1) := by decide +kernel
theorem dX2_buildTurbine_27 : decode cX2_buildTurbine 27 = .ok (.dup, 1) := by decide +kernel
theorem dX2_buildTurbine_28 : decode cX2_buildTurbine 28 = .ok (.getfield 17, 3) := by decide +kernel
theorem dX2_buildTurbine_31 : decode cX2_buildTurbine 31 = .ok (.iconst 1, 1) := by decide +kernel
theorem dX2_buildTurbine_32 : decode cX2_buildTurbine 32 = .ok (.iadd, 1) := by decide +kernel
theorem dX2_buildTurbine_33 : decode cX2_buildTurbine 33 = .ok (.putfield 17, 3) := by decide +kernel
theorem dX2_buildTurbine_36 : decode cX2_buildTurbine 36 = .ok (.aload_n 0, 1) := by decide +kernel
theorem dX2_buildTurbine_37 : decode cX2_buildTurbine 37 = .ok (.getfield 17, 3) := by decide +kernel
theorem dX2_buildTurbine_40 : decode cX2_buildTurbine 40 = .ok (.iconst 1, 1) := by decide +kernel
theorem dX2_buildTurbine_41 : decode cX2_buildTurbine 41 = .ok (.isub, 1) := by decide +kernel
theorem dX2_buildTurbine_42 : decode cX2_buildTurbine 42 = .ok (.ireturn, 1) := by decide +kernel
theorem dX2_faultCount_0 : decode cX2_faultCount 0 = .ok (.iconst 0, 1) := by decide +kernel
theorem dX2_faultCount_1 : decode cX2_faultCount 1 = .ok (.istore_n 1, 1) := by decide +kernel
theorem dX2_faultCount_2 : decode cX2_faultCount 2 = .ok (.iconst 0, 1) := by decide +kernel
theorem dX2_faultCount_3 : decode cX2_faultCount 3 = .ok (.istore_n 2, 1) := by decide +kernel
theorem dX2_faultCount_4 : decode cX2_faultCount 4 = .ok (.iload_n 2, 1) := by decide +kernel
theorem dX2_faultCount_5 : decode cX2_faultCount 5 = .ok (.aload_n 0, 1) := by decide +kernel
theorem dX2_faultCount_6 : decode cX2_faultCount 6 = .ok (.getfield 17, 3) := by decide +kernel
theorem dX2_faultCount_9 : decode cX2_faultCount 9 = .ok (.if_icmp .ge 24, 3) := by decide +kernel
theorem dX2_faultCount_12 : decode cX2_faultCount 12 = .ok (.aload_n 0, 1) := by decide +kernel
theorem dX2_faultCount_13 : decode cX2_faultCount 13 = .ok (.getfield 11, 3) := by decide +kernel
theorem dX2_faultCount_16 : decode cX2_faultCount 16 = .ok (.iload_n 2, 1) := by decide +kernel
theorem dX2_faultCount_17 : decode cX2_faultCount 17 = .ok (.aaload, 1) := by decide +kernel
theorem dX2_faultCount_18 : decode cX2_faultCount 18 = .ok (.getfield 102, 3) := by decide +kernel
theorem dX2_faultCount_21 : decode cX2_faultCount 21 = .ok (.ifCond .eq 6, 3) := by decide +kernel
theorem dX2_faultCount_24 : decode cX2_faultCount 24 = .ok (.iinc 1 1, 3) := by decide +kernel
theorem dX2_faultCount_27 : decode cX2_faultCount 27 = .ok (.iinc 2 1, 3) := by decide +kernel
theorem dX2_faultCount_30 : decode cX2_faultCount 30 = .ok (.goto (-26), 3) := by decide +kernel
theorem dX2_faultCount_33 : decode cX2_faultCount 33 = .ok (.iload_n 1, 1) := by decide +kernel
theorem dX2_faultCount_34 : decode cX2_faultCount 34 = .ok (.ireturn, 1) := by decide +kernel
theorem dX2_lostPower_0 : decode cX2_lostPower 0 = .ok (.iconst 0, 1) := by decide +kernel
theorem dX2_lostPower_1 : decode cX2_lostPower 1 = .ok (.istore_n 1, 1) := by decide +kernel
theorem dX2_lostPower_2 : decode cX2_lostPower 2 = .ok (.iconst 0, 1) := by decide +kernel
theorem dX2_lostPower_3 : decode cX2_lostPower 3 = .ok (.istore_n 2, 1) := by decide +kernel
theorem dX2_lostPower_4 : decode cX2_lostPower 4 = .ok (.iload_n 2, 1) := by decide +kernel
theorem dX2_lostPower_5 : decode cX2_lostPower 5 = .ok (.iconst 5, 1) := by decide +kernel
theorem dX2_lostPower_6 : decode cX2_lostPower 6 = .ok (.if_icmp .ge 18, 3) := by decide +kernel
theorem dX2_lostPower_9 : decode cX2_lostPower 9 = .ok (.iload_n 1, 1) := by decide +kernel
theorem dX2_lostPower_10 : decode cX2_lostPower 10 = .ok (.aload_n 0, 1) := by decide +kernel
theorem dX2_lostPower_11 : decode cX2_lostPower 11 = .ok (.getfield 60, 3) := by decide +kernel
theorem dX2_lostPower_14 : decode cX2_lostPower 14 = .ok (.iload_n 2, 1) := by decide +kernel
theorem dX2_lostPower_15 : decode cX2_lostPower 15 = .ok (.iaload, 1) := by decide +kernel
theorem dX2_lostPower_16 : decode cX2_lostPower 16 = .ok (.iadd, 1) := by decide +kernel
theorem dX2_lostPower_17 : decode cX2_lostPower 17 = .ok (.istore_n 1, 1) := by decide +kernel
theorem dX2_lostPower_18 : decode cX2_lostPower 18 = .ok (.iinc 2 1, 3) := by decide +kernel
theorem dX2_lostPower_21 : decode cX2_lostPower 21 = .ok (.goto (-17), 3) := by decide +kernel
theorem dX2_lostPower_24 : decode cX2_lostPower 24 = .ok (.iload_n 1, 1) := by decide +kernel
theorem dX2_lostPower_25 : decode cX2_lostPower 25 = .ok (.ireturn, 1) := by decide +kernel
theorem dX2_wonPower_0 : decode cX2_wonPower 0 = .ok (.iconst 0, 1) := by decide +kernel
theorem dX2_wonPower_1 : decode cX2_wonPower 1 = .ok (.istore_n 1, 1) := by decide +kernel
theorem dX2_wonPower_2 : decode cX2_wonPower 2 = .ok (.iconst 0, 1) := by decide +kernel
theorem dX2_wonPower_3 : decode cX2_wonPower 3 = .ok (.istore_n 2, 1) := by decide +kernel
theorem dX2_wonPower_4 : decode cX2_wonPower 4 = .ok (.iload_n 2, 1) := by decide +kernel
theorem dX2_wonPower_5 : decode cX2_wonPower 5 = .ok (.aload_n 0, 1) := by decide +kernel
theorem dX2_wonPower_6 : decode cX2_wonPower 6 = .ok (.getfield 17, 3) := by decide +kernel
theorem dX2_wonPower_9 : decode cX2_wonPower 9 = .ok (.if_icmp .ge 21, 3) := by decide +kernel
theorem dX2_wonPower_12 : decode cX2_wonPower 12 = .ok (.iload_n 1, 1) := by decide +kernel
theorem dX2_wonPower_13 : decode cX2_wonPower 13 = .ok (.aload_n 0, 1) := by decide +kernel
theorem dX2_wonPower_14 : decode cX2_wonPower 14 = .ok (.getfield 11, 3) := by decide +kernel
theorem dX2_wonPower_17 : decode cX2_wonPower 17 = .ok (.iload_n 2, 1) := by decide +kernel
theorem dX2_wonPower_18 : decode cX2_wonPower 18 = .ok (.aaload, 1) := by decide +kernel
theorem dX2_wonPower_19 : decode cX2_wonPower 19 = .ok (.getfield 105, 3) := by decide +kernel
theorem dX2_wonPower_22 : decode cX2_wonPower 22 = .ok (.iadd, 1) := by decide +kernel
theorem dX2_wonPower_23 : decode cX2_wonPower 23 = .ok (.istore_n 1, 1) := by decide +kernel
theorem dX2_wonPower_24 : decode cX2_wonPower 24 = .ok (.iinc 2 1, 3) := by decide +kernel
theorem dX2_wonPower_27 : decode cX2_wonPower 27 = .ok (.goto (-23), 3) := by decide +kernel
theorem dX2_wonPower_30 : decode cX2_wonPower 30 = .ok (.iload_n 1, 1) := by decide +kernel
theorem dX2_wonPower_31 : decode cX2_wonPower 31 = .ok (.ireturn, 1) := by decide +kernel
set_option maxRecDepth 20000 in
theorem ggX2_windNow_X7_at : GoodIn wsX2_windNow wsX7_at := goodIn_r _ [7, 8, 9, 20, 21] (by decide +kernel) (by decide +kernel)
set_option maxRecDepth 20000 in
theorem gX2_windNow_X7_at : GoodIn wsX2_windNow (wsV RX2 108 RX7 yX7_at wsX7_at) := goodIn_app (goodIn_of _ (by decide +kernel)) ggX2_windNow_X7_at
theorem dX2_windNow_0 : decode cX2_windNow 0 = .ok (.aload_n 0, 1) := by decide +kernel
theorem dX2_windNow_1 : decode cX2_windNow 1 = .ok (.getfield 52, 3) := by decide +kernel
theorem dX2_windNow_4 : decode cX2_windNow 4 = .ok (.aload_n 0, 1) := by decide +kernel
theorem dX2_windNow_5 : decode cX2_windNow 5 = .ok (.getfield 63, 3) := by decide +kernel
theorem dX2_windNow_8 : decode cX2_windNow 8 = .ok (.invokevirtual 108, 3) := by decide +kernel
theorem dX2_windNow_11 : decode cX2_windNow 11 = .ok (.ireturn, 1) := by decide +kernel
set_option maxRecDepth 20000 in
theorem ggX2_turbineProperty_X2_hasTurbine : GoodIn wsX2_turbineProperty wsX2_hasTurbine := goodIn_r _ [16, 17, 61, 62, 63, 64, 65, 66, 67, 68, 69, 70] (by decide +kernel) (by decide +kernel)
set_option maxRecDepth 20000 in
theorem gX2_turbineProperty_X2_hasTurbine : GoodIn wsX2_turbineProperty (wsV RX2 112 RX2 yX2_hasTurbine wsX2_hasTurbine) := goodIn_app (goodIn_of _ (by decide +kernel)) ggX2_turbineProperty_X2_hasTurbine
set_option maxRecDepth 20000 in
theorem ggX2_turbineProperty_X5_limit : GoodIn wsX2_turbineProperty wsX5_limit := goodIn_r _ [22, 23, 71, 72, 73, 74, 75, 76, 77] (by decide +kernel) (by decide +kernel)
set_option maxRecDepth 20000 in
theorem gX2_turbineProperty_X5_limit : GoodIn wsX2_turbineProperty (wsV RX2 125 RX5 yX5_limit wsX5_limit) := goodIn_app (goodIn_of _ (by decide +kernel)) ggX2_turbineProperty_X5_limit
set_option maxRecDepth 20000 in
theorem ggX2_turbineProperty_X4_placeOf : GoodIn wsX2_turbineProperty wsX4_placeOf := goodIn_r _ [28, 29, 30, 78, 79] (by decide +kernel) (by decide +kernel)
set_option maxRecDepth 20000 in
theorem gX2_turbineProperty_X4_placeOf : GoodIn wsX2_turbineProperty (wsV RX2 128 RX4 yX4_placeOf wsX4_placeOf) := goodIn_app (goodIn_of _ (by decide +kernel)) ggX2_turbineProperty_X4_placeOf
set_option maxRecDepth 20000 in
theorem ggX2_turbineProperty_X3_unloadedFor : GoodIn wsX2_turbineProperty wsX3_unloadedFor := goodIn_r _ [35, 36, 37, 38, 80, 81, 82] (by decide +kernel) (by decide +kernel)
set_option maxRecDepth 20000 in
theorem gX2_turbineProperty_X3_unloadedFor : GoodIn wsX2_turbineProperty (wsV RX2 131 RX3 yX3_unloadedFor wsX3_unloadedFor) := goodIn_app (goodIn_of _ (by decide +kernel)) ggX2_turbineProperty_X3_unloadedFor
set_option maxRecDepth 20000 in
theorem ggX2_turbineProperty_X2_windNow : GoodIn wsX2_turbineProperty wsX2_windNow := goodIn_r _ [42, 43, 44, 45, 46, 47, 48, 49, 50, 51, 61, 62, 63, 64, 65, 66, 67, 68, 69, 70, 83, 84] (by decide +kernel) (by decide +kernel)
set_option maxRecDepth 20000 in
theorem gX2_turbineProperty_X2_windNow : GoodIn wsX2_turbineProperty (wsV RX2 137 RX2 yX2_windNow wsX2_windNow) := goodIn_app (goodIn_of _ (by decide +kernel)) ggX2_turbineProperty_X2_windNow
set_option maxRecDepth 20000 in
theorem ggX2_turbineProperty_X5_fullPower : GoodIn wsX2_turbineProperty wsX5_fullPower := goodIn_r _ [55, 56, 57, 58, 59, 60, 71, 72, 73, 74, 75, 76, 77] (by decide +kernel) (by decide +kernel)
set_option maxRecDepth 20000 in
theorem gX2_turbineProperty_X5_fullPower : GoodIn wsX2_turbineProperty (wsV RX2 141 RX5 yX5_fullPower wsX5_fullPower) := goodIn_app (goodIn_of _ (by decide +kernel)) ggX2_turbineProperty_X5_fullPower
theorem dX2_turbineProperty_0 : decode cX2_turbineProperty 0 = .ok (.aload_n 0, 1) := by decide +kernel
theorem dX2_turbineProperty_1 : decode cX2_turbineProperty 1 = .ok (.iload_n 1, 1) := by decide +kernel
theorem dX2_turbineProperty_2 : decode cX2_turbineProperty 2 = .ok (.invokevirtual 112, 3) := by decide +kernel
theorem dX2_turbineProperty_5 : decode cX2_turbineProperty 5 = .ok (.ifCond .ne 5, 3) := by decide +kernel
theorem dX2_turbineProperty_8 : decode cX2_turbineProperty 8 = .ok (.iconst (-1), 1) := by decide +kernel
theorem dX2_turbineProperty_9 : decode cX2_turbineProperty 9 = .ok (.ireturn, 1) := by decide +kernel
theorem dX2_turbineProperty_10 : decode cX2_turbineProperty 10 = .ok (.aload_n 0, 1) := by decide +kernel
theorem dX2_turbineProperty_11 : decode cX2_turbineProperty 11 = .ok (.getfield 11, 3) := by decide +kernel
theorem dX2_turbineProperty_14 : decode cX2_turbineProperty 14 = .ok (.iload_n 1, 1) := by decide +kernel
theorem dX2_turbineProperty_15 : decode cX2_turbineProperty 15 = .ok (.aaload, 1) := by decide +kernel
theorem dX2_turbineProperty_16 : decode cX2_turbineProperty 16 = .ok (.astore_n 3, 1) := by decide +kernel
theorem dX2_turbineProperty_17 : decode cX2_turbineProperty 17 = .ok (.iload_n 2, 1) := by decide +kernel
theorem dX2_turbineProperty_18 : decode cX2_turbineProperty 18 = .ok (.tableswitch 118 0 9 #[54, 59, 64, 69, 74, 79, 90, 99, 108, 113], 54) := by decide +kernel
theorem dX2_turbineProperty_72 : decode cX2_turbineProperty 72 = .ok (.aload_n 3, 1) := by decide +kernel
theorem dX2_turbineProperty_73 : decode cX2_turbineProperty 73 = .ok (.getfield 95, 3) := by decide +kernel
theorem dX2_turbineProperty_76 : decode cX2_turbineProperty 76 = .ok (.ireturn, 1) := by decide +kernel
theorem dX2_turbineProperty_77 : decode cX2_turbineProperty 77 = .ok (.aload_n 3, 1) := by decide +kernel
theorem dX2_turbineProperty_78 : decode cX2_turbineProperty 78 = .ok (.getfield 116, 3) := by decide +kernel
theorem dX2_turbineProperty_81 : decode cX2_turbineProperty 81 = .ok (.ireturn, 1) := by decide +kernel
theorem dX2_turbineProperty_82 : decode cX2_turbineProperty 82 = .ok (.aload_n 3, 1) := by decide +kernel
theorem dX2_turbineProperty_83 : decode cX2_turbineProperty 83 = .ok (.getfield 119, 3) := by decide +kernel
theorem dX2_turbineProperty_86 : decode cX2_turbineProperty 86 = .ok (.ireturn, 1) := by decide +kernel
theorem dX2_turbineProperty_87 : decode cX2_turbineProperty 87 = .ok (.aload_n 3, 1) := by decide +kernel
theorem dX2_turbineProperty_88 : decode cX2_turbineProperty 88 = .ok (.getfield 102, 3) := by decide +kernel
theorem dX2_turbineProperty_91 : decode cX2_turbineProperty 91 = .ok (.ireturn, 1) := by decide +kernel
theorem dX2_turbineProperty_92 : decode cX2_turbineProperty 92 = .ok (.aload_n 3, 1) := by decide +kernel
theorem dX2_turbineProperty_93 : decode cX2_turbineProperty 93 = .ok (.getfield 122, 3) := by decide +kernel
theorem dX2_turbineProperty_96 : decode cX2_turbineProperty 96 = .ok (.ireturn, 1) := by decide +kernel
theorem dX2_turbineProperty_97 : decode cX2_turbineProperty 97 = .ok (.aload_n 3, 1) := by decide +kernel
theorem dX2_turbineProperty_98 : decode cX2_turbineProperty 98 = .ok (.aload_n 0, 1) := by decide +kernel
theorem dX2_turbineProperty_99 : decode cX2_turbineProperty 99 = .ok (.getfield 56, 3) := by decide +kernel
theorem dX2_turbineProperty_102 : decode cX2_turbineProperty 102 = .ok (.iconst 0, 1) := by decide +kernel
theorem dX2_turbineProperty_103 : decode cX2_turbineProperty 103 = .ok (.iaload, 1) := by decide +kernel
theorem dX2_turbineProperty_104 : decode cX2_turbineProperty 104 = .ok (.invokevirtual 125, 3) := by decide +kernel
theorem dX2_turbineProperty_107 : decode cX2_turbineProperty 107 = .ok (.ireturn, 1) := by decide +kernel
theorem dX2_turbineProperty_108 : decode cX2_turbineProperty 108 = .ok (.aload_n 0, 1) := by decide +kernel
theorem dX2_turbineProperty_109 : decode cX2_turbineProperty 109 = .ok (.getfield 38, 3) := by decide +kernel
theorem dX2_turbineProperty_112 : decode cX2_turbineProperty 112 = .ok (.iload_n 1, 1) := by decide +kernel
theorem dX2_turbineProperty_113 : decode cX2_turbineProperty 113 = .ok (.invokevirtual 128, 3) := by decide +kernel
theorem dX2_turbineProperty_116 : decode cX2_turbineProperty 116 = .ok (.ireturn, 1) := by decide +kernel
theorem dX2_turbineProperty_117 : decode cX2_turbineProperty 117 = .ok (.aload_n 0, 1) := by decide +kernel
theorem dX2_turbineProperty_118 : decode cX2_turbineProperty 118 = .ok (.getfield 31, 3) := by decide +kernel
theorem dX2_turbineProperty_121 : decode cX2_turbineProperty 121 = .ok (.iload_n 1, 1) := by decide +kernel
theorem dX2_turbineProperty_122 : decode cX2_turbineProperty 122 = .ok (.invokevirtual 131, 3) := by decide +kernel
theorem dX2_turbineProperty_125 : decode cX2_turbineProperty 125 = .ok (.ireturn, 1) := by decide +kernel
theorem dX2_turbineProperty_126 : decode cX2_turbineProperty 126 = .ok (.aload_n 3, 1) := by decide +kernel
theorem dX2_turbineProperty_127 : decode cX2_turbineProperty 127 = .ok (.getfield 134, 3) := by decide +kernel
theorem dX2_turbineProperty_130 : decode cX2_turbineProperty 130 = .ok (.ireturn, 1) := by decide +kernel
theorem dX2_turbineProperty_131 : decode cX2_turbineProperty 131 = .ok (.aload_n 3, 1) := by decide +kernel
theorem dX2_turbineProperty_132 : decode cX2_turbineProperty 132 = .ok (.getfield 105, 3) := by decide +kernel
theorem dX2_turbineProperty_135 : decode cX2_turbineProperty 135 = .ok (.ireturn, 1) := by decide +kernel
theorem dX2_turbineProperty_136 : decode cX2_turbineProperty 136 = .ok (.aload_n 3, 1) := by decide +kernel
theorem dX2_turbineProperty_137 : decode cX2_turbineProperty 137 = .ok (.aload_n 0, 1) := by decide +kernel
theorem dX2_turbineProperty_138 : decode cX2_turbineProperty 138 = .ok (.invokevirtual 137, 3) := by decide +kernel
theorem dX2_turbineProperty_141 : decode cX2_turbineProperty 141 = .ok (.invokevirtual 141, 3) := by decide +kernel
theorem dX2_turbineProperty_144 : decode cX2_turbineProperty 144 = .ok (.ireturn, 1) := by decide +kernel
set_option maxRecDepth 20000 in
theorem ggX2_outcome_X2_lostPower : GoodIn wsX2_outcome wsX2_lostPower := goodIn_r _ [8, 3, 21, 22, 23, 24, 25, 26, 27, 28, 29, 30] (by decide +kernel) (by decide +kernel)
set_option maxRecDepth 20000 in
theorem gX2_outcome_X2_lostPower : GoodIn wsX2_outcome (wsV RX2 144 RX2 yX2_lostPower wsX2_lostPower) := goodIn_app (goodIn_of _ (by decide +kernel)) ggX2_outcome_X2_lostPower
set_option maxRecDepth 20000 in
theorem ggX2_outcome_X2_wonPower : GoodIn wsX2_outcome wsX2_wonPower := goodIn_r _ [12, 13, 14, 15, 21, 22, 23, 24, 25, 26, 27, 28, 29, 30, 33, 34, 35, 36, 37, 38, 39] (by decide +kernel) (by decide +kernel)
set_option maxRecDepth 20000 in
theorem gX2_outcome_X2_wonPower : GoodIn wsX2_outcome (wsV RX2 147 RX2 yX2_wonPower wsX2_wonPower) := goodIn_app (goodIn_of _ (by decide +kernel)) ggX2_outcome_X2_wonPower
set_option maxRecDepth 20000 in
theorem ggX2_outcome_X2_faultCount : GoodIn wsX2_outcome wsX2_faultCount := goodIn_r _ [19, 13, 14, 20, 21, 22, 23, 24, 25, 26, 27, 28, 29, 30, 33, 34, 35, 36, 37, 38, 39] (by decide +kernel) (by decide +kernel)
set_option maxRecDepth 20000 in
theorem gX2_outcome_X2_faultCount : GoodIn wsX2_outcome (wsV RX2 150 RX2 yX2_faultCount wsX2_faultCount) := goodIn_app (goodIn_of _ (by decide +kernel)) ggX2_outcome_X2_faultCount
theorem dX2_outcome_0 : decode cX2_outcome 0 = .ok (.iload_n 1, 1) := by decide +kernel
theorem dX2_outcome_1 : decode cX2_outcome 1 = .ok (.tableswitch 54 5 8 #[31, 36, 41, 46], 31) := by decide +kernel
theorem dX2_outcome_32 : decode cX2_outcome 32 = .ok (.aload_n 0, 1) := by decide +kernel
theorem dX2_outcome_33 : decode cX2_outcome 33 = .ok (.invokevirtual 144, 3) := by decide +kernel
theorem dX2_outcome_36 : decode cX2_outcome 36 = .ok (.ireturn, 1) := by decide +kernel
theorem dX2_outcome_37 : decode cX2_outcome 37 = .ok (.aload_n 0, 1) := by decide +kernel
theorem dX2_outcome_38 : decode cX2_outcome 38 = .ok (.invokevirtual 147, 3) := by decide +kernel
theorem dX2_outcome_41 : decode cX2_outcome 41 = .ok (.ireturn, 1) := by decide +kernel
theorem dX2_outcome_42 : decode cX2_outcome 42 = .ok (.aload_n 0, 1) := by decide +kernel
theorem dX2_outcome_43 : decode cX2_outcome 43 = .ok (.invokevirtual 150, 3) := by decide +kernel
theorem dX2_outcome_46 : decode cX2_outcome 46 = .ok (.ireturn, 1) := by decide +kernel
theorem dX2_outcome_47 : decode cX2_outcome 47 = .ok (.aload_n 0, 1) := by decide +kernel
theorem dX2_outcome_48 : decode cX2_outcome 48 = .ok (.getfield 38, 3) := by decide +kernel
theorem dX2_outcome_51 : decode cX2_outcome 51 = .ok (.getfield 153, 3) := by decide +kernel
theorem dX2_outcome_54 : decode cX2_outcome 54 = .ok (.ireturn, 1) := by decide +kernel
theorem dX2_outcome_55 : decode cX2_outcome 55 = .ok (.iload_n 1, 1) := by decide +kernel
theorem dX2_outcome_56 : decode cX2_outcome 56 = .ok (.ifCond .lt 17, 3) := by decide +kernel
theorem dX2_outcome_59 : decode cX2_outcome 59 = .ok (.iload_n 1, 1) := by decide +kernel
theorem dX2_outcome_60 : decode cX2_outcome 60 = .ok (.iconst 5, 1) := by decide +kernel
theorem dX2_outcome_61 : decode cX2_outcome 61 = .ok (.if_icmp .ge 12, 3) := by decide +kernel
theorem dX2_outcome_64 : decode cX2_outcome 64 = .ok (.aload_n 0, 1) := by decide +kernel
theorem dX2_outcome_65 : decode cX2_outcome 65 = .ok (.getfield 60, 3) := by decide +kernel
theorem dX2_outcome_68 : decode cX2_outcome 68 = .ok (.iload_n 1, 1) := by decide +kernel
theorem dX2_outcome_69 : decode cX2_outcome 69 = .ok (.iaload, 1) := by decide +kernel
theorem dX2_outcome_70 : decode cX2_outcome 70 = .ok (.goto 4, 3) := by decide +kernel
theorem dX2_outcome_73 : decode cX2_outcome 73 = .ok (.iconst 0, 1) := by decide +kernel
theorem dX2_outcome_74 : decode cX2_outcome 74 = .ok (.ireturn, 1) := by decide +kernel
set_option maxRecDepth 20000 in
theorem ggX2_hoursBetween_X0_countBetween : GoodIn wsX2_hoursBetween wsX0_countBetween := goodIn_r _ [17, 18, 19, 20, 31, 32, 33] (by decide +kernel) (by decide +kernel)
set_option maxRecDepth 20000 in
theorem gX2_hoursBetween_X0_countBetween : GoodIn wsX2_hoursBetween (wsV RX2 168 RX0 yX0_countBetween wsX0_countBetween) := goodIn_app (goodIn_of _ (by decide +kernel)) ggX2_hoursBetween_X0_countBetween
theorem dX2_hoursBetween_0 : decode cX2_hoursBetween 0 = .ok (.iconst 1, 1) := by decide +kernel
theorem dX2_hoursBetween_1 : decode cX2_hoursBetween 1 = .ok (.aload_n 0, 1) := by decide +kernel
theorem dX2_hoursBetween_2 : decode cX2_hoursBetween 2 = .ok (.getfield 56, 3) := by decide +kernel
theorem dX2_hoursBetween_5 : decode cX2_hoursBetween 5 = .ok (.iconst 1, 1) := by decide +kernel
theorem dX2_hoursBetween_6 : decode cX2_hoursBetween 6 = .ok (.iaload, 1) := by decide +kernel
theorem dX2_hoursBetween_7 : decode cX2_hoursBetween 7 = .ok (.invokestatic 156, 3) := by decide +kernel
theorem dX2_hoursBetween_10 : decode cX2_hoursBetween 10 = .ok (.istore_n 3, 1) := by decide +kernel
theorem dX2_hoursBetween_11 : decode cX2_hoursBetween 11 = .ok (.iload_n 1, 1) := by decide +kernel
theorem dX2_hoursBetween_12 : decode cX2_hoursBetween 12 = .ok (.iload_n 2, 1) := by decide +kernel
theorem dX2_hoursBetween_13 : decode cX2_hoursBetween 13 = .ok (.isub, 1) := by decide +kernel
theorem dX2_hoursBetween_14 : decode cX2_hoursBetween 14 = .ok (.invokestatic 162, 3) := by decide +kernel
theorem dX2_hoursBetween_17 : decode cX2_hoursBetween 17 = .ok (.istore 4, 2) := by decide +kernel
theorem dX2_hoursBetween_19 : decode cX2_hoursBetween 19 = .ok (.aload_n 0, 1) := by decide +kernel
theorem dX2_hoursBetween_20 : decode cX2_hoursBetween 20 = .ok (.getfield 24, 3) := by decide +kernel
theorem dX2_hoursBetween_23 : decode cX2_hoursBetween 23 = .ok (.iload_n 1, 1) := by decide +kernel
theorem dX2_hoursBetween_24 : decode cX2_hoursBetween 24 = .ok (.iload_n 2, 1) := by decide +kernel
theorem dX2_hoursBetween_25 : decode cX2_hoursBetween 25 = .ok (.invokestatic 165, 3) := by decide +kernel
theorem dX2_hoursBetween_28 : decode cX2_hoursBetween 28 = .ok (.iload_n 1, 1) := by decide +kernel
theorem dX2_hoursBetween_29 : decode cX2_hoursBetween 29 = .ok (.iload_n 2, 1) := by decide +kernel
theorem dX2_hoursBetween_30 : decode cX2_hoursBetween 30 = .ok (.invokestatic 156, 3) := by decide +kernel
theorem dX2_hoursBetween_33 : decode cX2_hoursBetween 33 = .ok (.aload_n 0, 1) := by decide +kernel
theorem dX2_hoursBetween_34 : decode cX2_hoursBetween 34 = .ok (.getfield 56, 3) := by decide +kernel
theorem dX2_hoursBetween_37 : decode cX2_hoursBetween 37 = .ok (.bipush 6, 2) := by decide +kernel
theorem dX2_hoursBetween_39 : decode cX2_hoursBetween 39 = .ok (.iaload, 1) := by decide +kernel
theorem dX2_hoursBetween_40 : decode cX2_hoursBetween 40 = .ok (.invokevirtual 168, 3) := by decide +kernel
theorem dX2_hoursBetween_43 : decode cX2_hoursBetween 43 = .ok (.istore 5, 2) := by decide +kernel
theorem dX2_hoursBetween_45 : decode cX2_hoursBetween 45 = .ok (.iload 4, 2) := by decide +kernel
theorem dX2_hoursBetween_47 : decode cX2_hoursBetween 47 = .ok (.iload_n 3, 1) := by decide +kernel
theorem dX2_hoursBetween_48 : decode cX2_hoursBetween 48 = .ok (.iadd, 1) := by decide +kernel
theorem dX2_hoursBetween_49 : decode cX2_hoursBetween 49 = .ok (.iconst 1, 1) := by decide +kernel
theorem dX2_hoursBetween_50 : decode cX2_hoursBetween 50 = .ok (.isub, 1) := by decide +kernel
theorem dX2_hoursBetween_51 : decode cX2_hoursBetween 51 = .ok (.iload_n 3, 1) := by decide +kernel
theorem dX2_hoursBetween_52 : decode cX2_hoursBetween 52 = .ok (.idiv, 1) := by decide +kernel
theorem dX2_hoursBetween_53 : decode cX2_hoursBetween 53 = .ok (.iload 5, 2) := by decide +kernel
theorem dX2_hoursBetween_55 : decode cX2_hoursBetween 55 = .ok (.aload_n 0, 1) := by decide +kernel
theorem dX2_hoursBetween_56 : decode cX2_hoursBetween 56 = .ok (.getfield 56, 3) := by decide +kernel
theorem dX2_hoursBetween_59 : decode cX2_hoursBetween 59 = .ok (.iconst 4, 1) := by decide +kernel
theorem dX2_hoursBetween_60 : decode cX2_hoursBetween 60 = .ok (.iaload, 1) := by decide +kernel
theorem dX2_hoursBetween_61 : decode cX2_hoursBetween 61 = .ok (.imul, 1) := by decide +kernel
theorem dX2_hoursBetween_62 : decode cX2_hoursBetween 62 = .ok (.iadd, 1) := by decide +kernel
theorem dX2_hoursBetween_63 : decode cX2_hoursBetween 63 = .ok (.ireturn, 1) := by decide +kernel
set_option maxRecDepth 20000 in
theorem ggX2_hoursUntilCalm_X2_hasTurbine : GoodIn wsX2_hoursUntilCalm wsX2_hasTurbine := goodIn_r _ [9, 10, 24, 25, 26, 27, 28, 29, 30, 31, 32, 33] (by decide +kernel) (by decide +kernel)
set_option maxRecDepth 20000 in
theorem gX2_hoursUntilCalm_X2_hasTurbine : GoodIn wsX2_hoursUntilCalm (wsV RX2 112 RX2 yX2_hasTurbine wsX2_hasTurbine) := goodIn_app (goodIn_of _ (by decide +kernel)) ggX2_hoursUntilCalm_X2_hasTurbine
set_option maxRecDepth 20000 in
theorem ggX2_hoursUntilCalm_X5_limit : GoodIn wsX2_hoursUntilCalm wsX5_limit := goodIn_r _ [15, 16, 34, 35, 36, 37, 38, 39, 40] (by decide +kernel) (by decide +kernel)
set_option maxRecDepth 20000 in
theorem gX2_hoursUntilCalm_X5_limit : GoodIn wsX2_hoursUntilCalm (wsV RX2 125 RX5 yX5_limit wsX5_limit) := goodIn_app (goodIn_of _ (by decide +kernel)) ggX2_hoursUntilCalm_X5_limit
set_option maxRecDepth 20000 in
theorem ggX2_hoursUntilCalm_X7_at : GoodIn wsX2_hoursUntilCalm wsX7_at := goodIn_r _ [21, 22, 23, 41, 42] (by decide +kernel) (by decide +kernel)
set_option maxRecDepth 20000 in
theorem gX2_hoursUntilCalm_X7_at : GoodIn wsX2_hoursUntilCalm (wsV RX2 108 RX7 yX7_at wsX7_at) := goodIn_app (goodIn_of _ (by decide +kernel)) ggX2_hoursUntilCalm_X7_at
theorem dX2_hoursUntilCalm_0 : decode cX2_hoursUntilCalm 0 = .ok (.aload_n 0, 1) := by decide +kernel
theorem dX2_hoursUntilCalm_1 : decode cX2_hoursUntilCalm 1 = .ok (.iload_n 1, 1) := by decide +kernel
theorem dX2_hoursUntilCalm_2 : decode cX2_hoursUntilCalm 2 = .ok (.invokevirtual 112, 3) := by decide +kernel
theorem dX2_hoursUntilCalm_5 : decode cX2_hoursUntilCalm 5 = .ok (.ifCond .ne 5, 3) := by decide +kernel
theorem dX2_hoursUntilCalm_8 : decode cX2_hoursUntilCalm 8 = .ok (.iconst (-1), 1) := by decide +kernel
theorem dX2_hoursUntilCalm_9 : decode cX2_hoursUntilCalm 9 = .ok (.ireturn, 1) := by decide +kernel
theorem dX2_hoursUntilCalm_10 : decode cX2_hoursUntilCalm 10 = .ok (.aload_n 0, 1) := by decide +kernel
theorem dX2_hoursUntilCalm_11 : decode cX2_hoursUntilCalm 11 = .ok (.getfield 11, 3) := by decide +kernel
theorem dX2_hoursUntilCalm_14 : decode cX2_hoursUntilCalm 14 = .ok (.iload_n 1, 1) := by decide +kernel
theorem dX2_hoursUntilCalm_15 : decode cX2_hoursUntilCalm 15 = .ok (.aaload, 1) := by decide +kernel
theorem dX2_hoursUntilCalm_16 : decode cX2_hoursUntilCalm 16 = .ok (.aload_n 0, 1) := by decide +kernel
theorem dX2_hoursUntilCalm_17 : decode cX2_hoursUntilCalm 17 = .ok (.getfield 56, 3) := by decide +kernel
theorem dX2_hoursUntilCalm_20 : decode cX2_hoursUntilCalm 20 = .ok (.iconst 0, 1) := by decide +kernel
theorem dX2_hoursUntilCalm_21 : decode cX2_hoursUntilCalm 21 = .ok (.iaload, 1) := by decide +kernel
theorem dX2_hoursUntilCalm_22 : decode cX2_hoursUntilCalm 22 = .ok (.invokevirtual 125, 3) := by decide +kernel
theorem dX2_hoursUntilCalm_25 : decode cX2_hoursUntilCalm 25 = .ok (.istore_n 3, 1) := by decide +kernel
theorem dX2_hoursUntilCalm_26 : decode cX2_hoursUntilCalm 26 = .ok (.iconst 0, 1) := by decide +kernel
theorem dX2_hoursUntilCalm_27 : decode cX2_hoursUntilCalm 27 = .ok (.istore 4, 2) := by decide +kernel
theorem dX2_hoursUntilCalm_29 : decode cX2_hoursUntilCalm 29 = .ok (.iconst 0, 1) := by decide +kernel
theorem dX2_hoursUntilCalm_30 : decode cX2_hoursUntilCalm 30 = .ok (.istore 5, 2) := by decide +kernel
theorem dX2_hoursUntilCalm_32 : decode cX2_hoursUntilCalm 32 = .ok (.iload 5, 2) := by decide +kernel
theorem dX2_hoursUntilCalm_34 : decode cX2_hoursUntilCalm 34 = .ok (.bipush 96, 2) := by decide +kernel
theorem dX2_hoursUntilCalm_36 : decode cX2_hoursUntilCalm 36 = .ok (.iload_n 2, 1) := by decide +kernel
theorem dX2_hoursUntilCalm_37 : decode cX2_hoursUntilCalm 37 = .ok (.iadd, 1) := by decide +kernel
theorem dX2_hoursUntilCalm_38 : decode cX2_hoursUntilCalm 38 = .ok (.if_icmp .ge 50, 3) := by decide +kernel
theorem dX2_hoursUntilCalm_41 : decode cX2_hoursUntilCalm 41 = .ok (.aload_n 0, 1) := by decide +kernel
theorem dX2_hoursUntilCalm_42 : decode cX2_hoursUntilCalm 42 = .ok (.getfield 52, 3) := by decide +kernel
theorem dX2_hoursUntilCalm_45 : decode cX2_hoursUntilCalm 45 = .ok (.aload_n 0, 1) := by decide +kernel
theorem dX2_hoursUntilCalm_46 : decode cX2_hoursUntilCalm 46 = .ok (.getfield 63, 3) := by decide +kernel
theorem dX2_hoursUntilCalm_49 : decode cX2_hoursUntilCalm 49 = .ok (.iload 5, 2) := by decide +kernel
theorem dX2_hoursUntilCalm_51 : decode cX2_hoursUntilCalm 51 = .ok (.iadd, 1) := by decide +kernel
