theorem dX3_init_0 : decode cX3_init 0 = .ok (.aload_n 0, 1) := by decide +kernel
theorem dX3_init_1 : decode cX3_init 1 = .ok (.invokespecial 3, 3) := by decide +kernel
theorem dX3_init_4 : decode cX3_init 4 = .ok (.aload_n 0, 1) := by decide +kernel
theorem dX3_init_5 : decode cX3_init 5 = .ok (.bipush 10, 2) := by decide +kernel
theorem dX3_init_7 : decode cX3_init 7 = .ok (.newarray .int, 2) := by decide +kernel
theorem dX3_init_9 : decode cX3_init 9 = .ok (.putfield 9, 3) := by decide +kernel
theorem dX3_init_12 : decode cX3_init 12 = .ok (.aload_n 0, 1) := by decide +kernel
theorem dX3_init_13 : decode cX3_init 13 = .ok (.bipush 10, 2) := by decide +kernel
theorem dX3_init_15 : decode cX3_init 15 = .ok (.newarray .int, 2) := by decide +kernel
theorem dX3_init_17 : decode cX3_init 17 = .ok (.putfield 15, 3) := by decide +kernel
theorem dX3_init_20 : decode cX3_init 20 = .ok (.aload_n 0, 1) := by decide +kernel
theorem dX3_init_21 : decode cX3_init 21 = .ok (.iconst 0, 1) := by decide +kernel
theorem dX3_init_22 : decode cX3_init 22 = .ok (.putfield 18, 3) := by decide +kernel
theorem dX3_init_25 : decode cX3_init 25 = .ok (.return_, 1) := by decide +kernel
theorem dX3_copyFrom_0 : decode cX3_copyFrom 0 = .ok (.aload_n 1, 1) := by decide +kernel
theorem dX3_copyFrom_1 : decode cX3_copyFrom 1 = .ok (.getfield 9, 3) := by decide +kernel
theorem dX3_copyFrom_4 : decode cX3_copyFrom 4 = .ok (.iconst 0, 1) := by decide +kernel
theorem dX3_copyFrom_5 : decode cX3_copyFrom 5 = .ok (.aload_n 0, 1) := by decide +kernel
theorem dX3_copyFrom_6 : decode cX3_copyFrom 6 = .ok (.getfield 9, 3) := by decide +kernel
theorem dX3_copyFrom_9 : decode cX3_copyFrom 9 = .ok (.iconst 0, 1) := by decide +kernel
theorem dX3_copyFrom_10 : decode cX3_copyFrom 10 = .ok (.bipush 10, 2) := by decide +kernel
theorem dX3_copyFrom_12 : decode cX3_copyFrom 12 = .ok (.invokestatic 22, 3) := by decide +kernel
theorem dX3_copyFrom_15 : decode cX3_copyFrom 15 = .ok (.aload_n 1, 1) := by decide +kernel
theorem dX3_copyFrom_16 : decode cX3_copyFrom 16 = .ok (.getfield 15, 3) := by decide +kernel
theorem dX3_copyFrom_19 : decode cX3_copyFrom 19 = .ok (.iconst 0, 1) := by decide +kernel
theorem dX3_copyFrom_20 : decode cX3_copyFrom 20 = .ok (.aload_n 0, 1) := by decide +kernel
theorem dX3_copyFrom_21 : decode cX3_copyFrom 21 = .ok (.getfield 15, 3) := by decide +kernel
theorem dX3_copyFrom_24 : decode cX3_copyFrom 24 = .ok (.iconst 0, 1) := by decide +kernel
theorem dX3_copyFrom_25 : decode cX3_copyFrom 25 = .ok (.bipush 10, 2) := by decide +kernel
theorem dX3_copyFrom_27 : decode cX3_copyFrom 27 = .ok (.invokestatic 22, 3) := by decide +kernel
theorem dX3_copyFrom_30 : decode cX3_copyFrom 30 = .ok (.aload_n 0, 1) := by decide +kernel
theorem dX3_copyFrom_31 : decode cX3_copyFrom 31 = .ok (.aload_n 1, 1) := by decide +kernel
theorem dX3_copyFrom_32 : decode cX3_copyFrom 32 = .ok (.getfield 18, 3) := by decide +kernel
theorem dX3_copyFrom_35 : decode cX3_copyFrom 35 = .ok (.putfield 18, 3) := by decide +kernel
theorem dX3_copyFrom_38 : decode cX3_copyFrom 38 = .ok (.return_, 1) := by decide +kernel
theorem dX3_isFull_0 : decode cX3_isFull 0 = .ok (.aload_n 0, 1) := by decide +kernel
theorem dX3_isFull_1 : decode cX3_isFull 1 = .ok (.getfield 18, 3) := by decide +kernel
theorem dX3_isFull_4 : decode cX3_isFull 4 = .ok (.bipush 10, 2) := by decide +kernel
theorem dX3_isFull_6 : decode cX3_isFull 6 = .ok (.if_icmp .lt 7, 3) := by decide +kernel
theorem dX3_isFull_9 : decode cX3_isFull 9 = .ok (.iconst 1, 1) := by decide +kernel
theorem dX3_isFull_10 : decode cX3_isFull 10 = .ok (.goto 4, 3) := by decide +kernel
theorem dX3_isFull_13 : decode cX3_isFull 13 = .ok (.iconst 0, 1) := by decide +kernel
theorem dX3_isFull_14 : decode cX3_isFull 14 = .ok (.ireturn, 1) := by decide +kernel
set_option maxRecDepth 20000 in
theorem ggX3_take_X3_isFull : GoodIn wsX3_take wsX3_isFull := goodIn_r _ [8, 2, 9, 10, 11] (by decide +kernel) (by decide +kernel)
set_option maxRecDepth 20000 in
theorem gX3_take_X3_isFull : GoodIn wsX3_take (wsV RX3 28 RX3 yX3_isFull wsX3_isFull) := goodIn_app (goodIn_of _ (by decide +kernel)) ggX3_take_X3_isFull
theorem dX3_take_0 : decode cX3_take 0 = .ok (.aload_n 0, 1) := by decide +kernel
theorem dX3_take_1 : decode cX3_take 1 = .ok (.invokevirtual 28, 3) := by decide +kernel
theorem dX3_take_4 : decode cX3_take 4 = .ok (.ifCond .eq 4, 3) := by decide +kernel
theorem dX3_take_7 : decode cX3_take 7 = .ok (.return_, 1) := by decide +kernel
theorem dX3_take_8 : decode cX3_take 8 = .ok (.aload_n 0, 1) := by decide +kernel
theorem dX3_take_9 : decode cX3_take 9 = .ok (.getfield 9, 3) := by decide +kernel
theorem dX3_take_12 : decode cX3_take 12 = .ok (.aload_n 0, 1) := by decide +kernel
theorem dX3_take_13 : decode cX3_take 13 = .ok (.getfield 18, 3) := by decide +kernel
theorem dX3_take_16 : decode cX3_take 16 = .ok (.iload_n 1, 1) := by decide +kernel
theorem dX3_take_17 : decode cX3_take 17 = .ok (.iastore, 1) := by decide +kernel
theorem dX3_take_18 : decode cX3_take 18 = .ok (.aload_n 0, 1) := by decide +kernel
theorem dX3_take_19 : decode cX3_take 19 = .ok (.getfield 15, 3) := by decide +kernel
theorem dX3_take_22 : decode cX3_take 22 = .ok (.aload_n 0, 1) := by decide +kernel
theorem dX3_take_23 : decode cX3_take 23 = .ok (.getfield 18, 3) := by decide +kernel
theorem dX3_take_26 : decode cX3_take 26 = .ok (.iload_n 2, 1) := by decide +kernel
theorem dX3_take_27 : decode cX3_take 27 = .ok (.iastore, 1) := by decide +kernel
theorem dX3_take_28 : decode cX3_take 28 = .ok (.aload_n 0, 1) := by decide +kernel
theorem dX3_take_29 : decode cX3_take 29 = .ok (.dup, 1) := by decide +kernel
theorem dX3_take_30 : decode cX3_take 30 = .ok (.getfield 18, 3) := by decide +kernel
theorem dX3_take_33 : decode cX3_take 33 = .ok (.iconst 1, 1) := by decide +kernel
theorem dX3_take_34 : decode cX3_take 34 = .ok (.iadd, 1) := by decide +kernel
theorem dX3_take_35 : decode cX3_take 35 = .ok (.putfield 18, 3) := by decide +kernel
theorem dX3_take_38 : decode cX3_take 38 = .ok (.return_, 1) := by decide +kernel
theorem dX3_unload_0 : decode cX3_unload 0 = .ok (.iload_n 1, 1) := by decide +kernel
theorem dX3_unload_1 : decode cX3_unload 1 = .ok (.istore_n 2, 1) := by decide +kernel
theorem dX3_unload_2 : decode cX3_unload 2 = .ok (.iconst 0, 1) := by decide +kernel
theorem dX3_unload_3 : decode cX3_unload 3 = .ok (.istore_n 3, 1) := by decide +kernel
theorem dX3_unload_4 : decode cX3_unload 4 = .ok (.iload_n 3, 1) := by decide +kernel
theorem dX3_unload_5 : decode cX3_unload 5 = .ok (.aload_n 0, 1) := by decide +kernel
theorem dX3_unload_6 : decode cX3_unload 6 = .ok (.getfield 18, 3) := by decide +kernel
theorem dX3_unload_9 : decode cX3_unload 9 = .ok (.if_icmp .ge 37, 3) := by decide +kernel
theorem dX3_unload_12 : decode cX3_unload 12 = .ok (.iload_n 2, 1) := by decide +kernel
theorem dX3_unload_13 : decode cX3_unload 13 = .ok (.aload_n 0, 1) := by decide +kernel
theorem dX3_unload_14 : decode cX3_unload 14 = .ok (.getfield 15, 3) := by decide +kernel
theorem dX3_unload_17 : decode cX3_unload 17 = .ok (.iload_n 3, 1) := by decide +kernel
theorem dX3_unload_18 : decode cX3_unload 18 = .ok (.iaload, 1) := by decide +kernel
theorem dX3_unload_19 : decode cX3_unload 19 = .ok (.invokestatic 32, 3) := by decide +kernel
theorem dX3_unload_22 : decode cX3_unload 22 = .ok (.istore 4, 2) := by decide +kernel
theorem dX3_unload_24 : decode cX3_unload 24 = .ok (.aload_n 0, 1) := by decide +kernel
theorem dX3_unload_25 : decode cX3_unload 25 = .ok (.getfield 15, 3) := by decide +kernel
theorem dX3_unload_28 : decode cX3_unload 28 = .ok (.iload_n 3, 1) := by decide +kernel
theorem dX3_unload_29 : decode cX3_unload 29 = .ok (.dup2, 1) := by decide +kernel
theorem dX3_unload_30 : decode cX3_unload 30 = .ok (.iaload, 1) := by decide +kernel
theorem dX3_unload_31 : decode cX3_unload 31 = .ok (.iload 4, 2) := by decide +kernel
theorem dX3_unload_33 : decode cX3_unload 33 = .ok (.isub, 1) := by decide +kernel
theorem dX3_unload_34 : decode cX3_unload 34 = .ok (.iastore, 1) := by decide +kernel
theorem dX3_unload_35 : decode cX3_unload 35 = .ok (.iload_n 2, 1) := by decide +kernel
theorem dX3_unload_36 : decode cX3_unload 36 = .ok (.iload 4, 2) := by decide +kernel
theorem dX3_unload_38 : decode cX3_unload 38 = .ok (.isub, 1) := by decide +kernel
theorem dX3_unload_39 : decode cX3_unload 39 = .ok (.istore_n 2, 1) := by decide +kernel
theorem dX3_unload_40 : decode cX3_unload 40 = .ok (.iinc 3 1, 3) := by decide +kernel
theorem dX3_unload_43 : decode cX3_unload 43 = .ok (.goto (-39), 3) := by decide +kernel
theorem dX3_unload_46 : decode cX3_unload 46 = .ok (.return_, 1) := by decide +kernel
theorem dX3_unloadedFor_0 : decode cX3_unloadedFor 0 = .ok (.iconst 0, 1) := by decide +kernel
theorem dX3_unloadedFor_1 : decode cX3_unloadedFor 1 = .ok (.istore_n 2, 1) := by decide +kernel
theorem dX3_unloadedFor_2 : decode cX3_unloadedFor 2 = .ok (.iconst 0, 1) := by decide +kernel
theorem dX3_unloadedFor_3 : decode cX3_unloadedFor 3 = .ok (.istore_n 3, 1) := by decide +kernel
theorem dX3_unloadedFor_4 : decode cX3_unloadedFor 4 = .ok (.iload_n 3, 1) := by decide +kernel
theorem dX3_unloadedFor_5 : decode cX3_unloadedFor 5 = .ok (.aload_n 0, 1) := by decide +kernel
theorem dX3_unloadedFor_6 : decode cX3_unloadedFor 6 = .ok (.getfield 18, 3) := by decide +kernel
theorem dX3_unloadedFor_9 : decode cX3_unloadedFor 9 = .ok (.if_icmp .ge 31, 3) := by decide +kernel
theorem dX3_unloadedFor_12 : decode cX3_unloadedFor 12 = .ok (.aload_n 0, 1) := by decide +kernel
theorem dX3_unloadedFor_13 : decode cX3_unloadedFor 13 = .ok (.getfield 9, 3) := by decide +kernel
theorem dX3_unloadedFor_16 : decode cX3_unloadedFor 16 = .ok (.iload_n 3, 1) := by decide +kernel
theorem dX3_unloadedFor_17 : decode cX3_unloadedFor 17 = .ok (.iaload, 1) := by decide +kernel
theorem dX3_unloadedFor_18 : decode cX3_unloadedFor 18 = .ok (.iload_n 1, 1) := by decide +kernel
theorem dX3_unloadedFor_19 : decode cX3_unloadedFor 19 = .ok (.if_icmp .ne 15, 3) := by decide +kernel
theorem dX3_unloadedFor_22 : decode cX3_unloadedFor 22 = .ok (.aload_n 0, 1) := by decide +kernel
theorem dX3_unloadedFor_23 : decode cX3_unloadedFor 23 = .ok (.getfield 15, 3) := by decide +kernel
theorem dX3_unloadedFor_26 : decode cX3_unloadedFor 26 = .ok (.iload_n 3, 1) := by decide +kernel
theorem dX3_unloadedFor_27 : decode cX3_unloadedFor 27 = .ok (.iaload, 1) := by decide +kernel
theorem dX3_unloadedFor_28 : decode cX3_unloadedFor 28 = .ok (.ifCond .ne 6, 3) := by decide +kernel
theorem dX3_unloadedFor_31 : decode cX3_unloadedFor 31 = .ok (.iinc 2 1, 3) := by decide +kernel
theorem dX3_unloadedFor_34 : decode cX3_unloadedFor 34 = .ok (.iinc 3 1, 3) := by decide +kernel
theorem dX3_unloadedFor_37 : decode cX3_unloadedFor 37 = .ok (.goto (-33), 3) := by decide +kernel
theorem dX3_unloadedFor_40 : decode cX3_unloadedFor 40 = .ok (.iload_n 2, 1) := by decide +kernel
theorem dX3_unloadedFor_41 : decode cX3_unloadedFor 41 = .ok (.ireturn, 1) := by decide +kernel
set_option maxRecDepth 20000 in
theorem ggX3_useBladeFor_X3_removeAt : GoodIn wsX3_useBladeFor wsX3_removeAt := goodIn_r _ [8, 1, 2, 3, 9, 10, 11] (by decide +kernel) (by decide +kernel)
set_option maxRecDepth 20000 in
theorem gX3_useBladeFor_X3_removeAt : GoodIn wsX3_useBladeFor (wsV RX3 38 RX3 yX3_removeAt wsX3_removeAt) := goodIn_app (goodIn_of _ (by decide +kernel)) ggX3_useBladeFor_X3_removeAt
theorem dX3_useBladeFor_0 : decode cX3_useBladeFor 0 = .ok (.iconst 0, 1) := by decide +kernel
theorem dX3_useBladeFor_1 : decode cX3_useBladeFor 1 = .ok (.istore_n 2, 1) := by decide +kernel
theorem dX3_useBladeFor_2 : decode cX3_useBladeFor 2 = .ok (.iload_n 2, 1) := by decide +kernel
theorem dX3_useBladeFor_3 : decode cX3_useBladeFor 3 = .ok (.aload_n 0, 1) := by decide +kernel
theorem dX3_useBladeFor_4 : decode cX3_useBladeFor 4 = .ok (.getfield 18, 3) := by decide +kernel
theorem dX3_useBladeFor_7 : decode cX3_useBladeFor 7 = .ok (.if_icmp .ge 34, 3) := by decide +kernel
theorem dX3_useBladeFor_10 : decode cX3_useBladeFor 10 = .ok (.aload_n 0, 1) := by decide +kernel
theorem dX3_useBladeFor_11 : decode cX3_useBladeFor 11 = .ok (.getfield 9, 3) := by decide +kernel
theorem dX3_useBladeFor_14 : decode cX3_useBladeFor 14 = .ok (.iload_n 2, 1) := by decide +kernel
theorem dX3_useBladeFor_15 : decode cX3_useBladeFor 15 = .ok (.iaload, 1) := by decide +kernel
theorem dX3_useBladeFor_16 : decode cX3_useBladeFor 16 = .ok (.iload_n 1, 1) := by decide +kernel
theorem dX3_useBladeFor_17 : decode cX3_useBladeFor 17 = .ok (.if_icmp .ne 18, 3) := by decide +kernel
theorem dX3_useBladeFor_20 : decode cX3_useBladeFor 20 = .ok (.aload_n 0, 1) := by decide +kernel
theorem dX3_useBladeFor_21 : decode cX3_useBladeFor 21 = .ok (.getfield 15, 3) := by decide +kernel
theorem dX3_useBladeFor_24 : decode cX3_useBladeFor 24 = .ok (.iload_n 2, 1) := by decide +kernel
theorem dX3_useBladeFor_25 : decode cX3_useBladeFor 25 = .ok (.iaload, 1) := by decide +kernel
theorem dX3_useBladeFor_26 : decode cX3_useBladeFor 26 = .ok (.ifCond .ne 9, 3) := by decide +kernel
theorem dX3_useBladeFor_29 : decode cX3_useBladeFor 29 = .ok (.aload_n 0, 1) := by decide +kernel
theorem dX3_useBladeFor_30 : decode cX3_useBladeFor 30 = .ok (.iload_n 2, 1) := by decide +kernel
theorem dX3_useBladeFor_31 : decode cX3_useBladeFor 31 = .ok (.invokevirtual 38, 3) := by decide +kernel
theorem dX3_useBladeFor_34 : decode cX3_useBladeFor 34 = .ok (.return_, 1) := by decide +kernel
theorem dX3_useBladeFor_35 : decode cX3_useBladeFor 35 = .ok (.iinc 2 1, 3) := by decide +kernel
theorem dX3_useBladeFor_38 : decode cX3_useBladeFor 38 = .ok (.goto (-36), 3) := by decide +kernel
theorem dX3_useBladeFor_41 : decode cX3_useBladeFor 41 = .ok (.return_, 1) := by decide +kernel
theorem dX3_removeAt_0 : decode cX3_removeAt 0 = .ok (.iload_n 1, 1) := by decide +kernel
theorem dX3_removeAt_1 : decode cX3_removeAt 1 = .ok (.ifCond .lt 11, 3) := by decide +kernel
theorem dX3_removeAt_4 : decode cX3_removeAt 4 = .ok (.iload_n 1, 1) := by decide +kernel
theorem dX3_removeAt_5 : decode cX3_removeAt 5 = .ok (.aload_n 0, 1) := by decide +kernel
theorem dX3_removeAt_6 : decode cX3_removeAt 6 = .ok (.getfield 18, 3) := by decide +kernel
theorem dX3_removeAt_9 : decode cX3_removeAt 9 = .ok (.if_icmp .lt 4, 3) := by decide +kernel
theorem dX3_removeAt_12 : decode cX3_removeAt 12 = .ok (.return_, 1) := by decide +kernel
theorem dX3_removeAt_13 : decode cX3_removeAt 13 = .ok (.aload_n 0, 1) := by decide +kernel
theorem dX3_removeAt_14 : decode cX3_removeAt 14 = .ok (.dup, 1) := by decide +kernel
theorem dX3_removeAt_15 : decode cX3_removeAt 15 = .ok (.getfield 18, 3) := by decide +kernel
theorem dX3_removeAt_18 : decode cX3_removeAt 18 = .ok (.iconst 1, 1) := by decide +kernel
theorem dX3_removeAt_19 : decode cX3_removeAt 19 = .ok (.isub, 1) := by decide +kernel
theorem dX3_removeAt_20 : decode cX3_removeAt 20 = .ok (.putfield 18, 3) := by decide +kernel
theorem dX3_removeAt_23 : decode cX3_removeAt 23 = .ok (.iload_n 1, 1) := by decide +kernel
theorem dX3_removeAt_24 : decode cX3_removeAt 24 = .ok (.istore_n 2, 1) := by decide +kernel
theorem dX3_removeAt_25 : decode cX3_removeAt 25 = .ok (.iload_n 2, 1) := by decide +kernel
theorem dX3_removeAt_26 : decode cX3_removeAt 26 = .ok (.aload_n 0, 1) := by decide +kernel
theorem dX3_removeAt_27 : decode cX3_removeAt 27 = .ok (.getfield 18, 3) := by decide +kernel
theorem dX3_removeAt_30 : decode cX3_removeAt 30 = .ok (.if_icmp .ge 37, 3) := by decide +kernel
theorem dX3_removeAt_33 : decode cX3_removeAt 33 = .ok (.aload_n 0, 1) := by decide +kernel
theorem dX3_removeAt_34 : decode cX3_removeAt 34 = .ok (.getfield 9, 3) := by decide +kernel
theorem dX3_removeAt_37 : decode cX3_removeAt 37 = .ok (.iload_n 2, 1) := by decide +kernel
theorem dX3_removeAt_38 : decode cX3_removeAt 38 = .ok (.aload_n 0, 1) := by decide +kernel
theorem dX3_removeAt_39 : decode cX3_removeAt 39 = .ok (.getfield 9, 3) := by decide +kernel
theorem dX3_removeAt_42 : decode cX3_removeAt 42 = .ok (.iload_n 2, 1) := by decide +kernel
theorem dX3_removeAt_43 : decode cX3_removeAt 43 = .ok (.iconst 1, 1) := by decide +kernel
theorem dX3_removeAt_44 : decode cX3_removeAt 44 = .ok (.iadd, 1) := by decide +kernel
theorem dX3_removeAt_45 : decode cX3_removeAt 45 = .ok (.iaload, 1) := by decide +kernel
theorem dX3_removeAt_46 : decode cX3_removeAt 46 = .ok (.iastore, 1) := by decide +kernel
theorem dX3_removeAt_47 : decode cX3_removeAt 47 = .ok (.aload_n 0, 1) := by decide +kernel
theorem dX3_removeAt_48 : decode cX3_removeAt 48 = .ok (.getfield 15, 3) := by decide +kernel
theorem dX3_removeAt_51 : decode cX3_removeAt 51 = .ok (.iload_n 2, 1) := by decide +kernel
theorem dX3_removeAt_52 : decode cX3_removeAt 52 = .ok (.aload_n 0, 1) := by decide +kernel
theorem dX3_removeAt_53 : decode cX3_removeAt 53 = .ok (.getfield 15, 3) := by decide +kernel
theorem dX3_removeAt_56 : decode cX3_removeAt 56 = .ok (.iload_n 2, 1) := by decide +kernel
theorem dX3_removeAt_57 : decode cX3_removeAt 57 = .ok (.iconst 1, 1) := by decide +kernel
theorem dX3_removeAt_58 : decode cX3_removeAt 58 = .ok (.iadd, 1) := by decide +kernel
theorem dX3_removeAt_59 : decode cX3_removeAt 59 = .ok (.iaload, 1) := by decide +kernel
theorem dX3_removeAt_60 : decode cX3_removeAt 60 = .ok (.iastore, 1) := by decide +kernel
theorem dX3_removeAt_61 : decode cX3_removeAt 61 = .ok (.iinc 2 1, 3) := by decide +kernel
theorem dX3_removeAt_64 : decode cX3_removeAt 64 = .ok (.goto (-39), 3) := by decide +kernel
theorem dX3_removeAt_67 : decode cX3_removeAt 67 = .ok (.return_, 1) := by decide +kernel
theorem dX4_init_0 : decode cX4_init 0 = .ok (.aload_n 0, 1) := by decide +kernel
theorem dX4_init_1 : decode cX4_init 1 = .ok (.invokespecial 3, 3) := by decide +kernel
theorem dX4_init_4 : decode cX4_init 4 = .ok (.aload_n 0, 1) := by decide +kernel
theorem dX4_init_5 : decode cX4_init 5 = .ok (.bipush 10, 2) := by decide +kernel
theorem dX4_init_7 : decode cX4_init 7 = .ok (.newarray .int, 2) := by decide +kernel
theorem dX4_init_9 : decode cX4_init 9 = .ok (.putfield 9, 3) := by decide +kernel
theorem dX4_init_12 : decode cX4_init 12 = .ok (.aload_n 0, 1) := by decide +kernel
theorem dX4_init_13 : decode cX4_init 13 = .ok (.iconst 0, 1) := by decide +kernel
theorem dX4_init_14 : decode cX4_init 14 = .ok (.putfield 15, 3) := by decide +kernel
theorem dX4_init_17 : decode cX4_init 17 = .ok (.return_, 1) := by decide +kernel
theorem dX4_copyFrom_0 : decode cX4_copyFrom 0 = .ok (.aload_n 1, 1) := by decide +kernel
theorem dX4_copyFrom_1 : decode cX4_copyFrom 1 = .ok (.getfield 9, 3) := by decide +kernel
theorem dX4_copyFrom_4 : decode cX4_copyFrom 4 = .ok (.iconst 0, 1) := by decide +kernel
theorem dX4_copyFrom_5 : decode cX4_copyFrom 5 = .ok (.aload_n 0, 1) := by decide +kernel
theorem dX4_copyFrom_6 : decode cX4_copyFrom 6 = .ok (.getfield 9, 3) := by decide +kernel
theorem dX4_copyFrom_9 : decode cX4_copyFrom 9 = .ok (.iconst 0, 1) := by decide +kernel
theorem dX4_copyFrom_10 : decode cX4_copyFrom 10 = .ok (.bipush 10, 2) := by decide +kernel
theorem dX4_copyFrom_12 : decode cX4_copyFrom 12 = .ok (.invokestatic 19, 3) := by decide +kernel
theorem dX4_copyFrom_15 : decode cX4_copyFrom 15 = .ok (.aload_n 0, 1) := by decide +kernel
theorem dX4_copyFrom_16 : decode cX4_copyFrom 16 = .ok (.aload_n 1, 1) := by decide +kernel
theorem dX4_copyFrom_17 : decode cX4_copyFrom 17 = .ok (.getfield 15, 3) := by decide +kernel
theorem dX4_copyFrom_20 : decode cX4_copyFrom 20 = .ok (.putfield 15, 3) := by decide +kernel
theorem dX4_copyFrom_23 : decode cX4_copyFrom 23 = .ok (.return_, 1) := by decide +kernel
theorem dX4_first_0 : decode cX4_first 0 = .ok (.aload_n 0, 1) := by decide +kernel
theorem dX4_first_1 : decode cX4_first 1 = .ok (.getfield 15, 3) := by decide +kernel
theorem dX4_first_4 : decode cX4_first 4 = .ok (.ifCond .le 12, 3) := by decide +kernel
theorem dX4_first_7 : decode cX4_first 7 = .ok (.aload_n 0, 1) := by decide +kernel
theorem dX4_first_8 : decode cX4_first 8 = .ok (.getfield 9, 3) := by decide +kernel
theorem dX4_first_11 : decode cX4_first 11 = .ok (.iconst 0, 1) := by decide +kernel
theorem dX4_first_12 : decode cX4_first 12 = .ok (.iaload, 1) := by decide +kernel
theorem dX4_first_13 : decode cX4_first 13 = .ok (.goto 4, 3) := by decide +kernel
theorem dX4_first_16 : decode cX4_first 16 = .ok (.iconst (-1), 1) := by decide +kernel
theorem dX4_first_17 : decode cX4_first 17 = .ok (.ireturn, 1) := by decide +kernel
theorem dX4_placeOf_0 : decode cX4_placeOf 0 = .ok (.iconst 0, 1) := by decide +kernel
theorem dX4_placeOf_1 : decode cX4_placeOf 1 = .ok (.istore_n 2, 1) := by decide +kernel
theorem dX4_placeOf_2 : decode cX4_placeOf 2 = .ok (.iload_n 2, 1) := by decide +kernel
theorem dX4_placeOf_3 : decode cX4_placeOf 3 = .ok (.aload_n 0, 1) := by decide +kernel
theorem dX4_placeOf_4 : decode cX4_placeOf 4 = .ok (.getfield 15, 3) := by decide +kernel
theorem dX4_placeOf_7 : decode cX4_placeOf 7 = .ok (.if_icmp .ge 21, 3) := by decide +kernel
theorem dX4_placeOf_10 : decode cX4_placeOf 10 = .ok (.aload_n 0, 1) := by decide +kernel
theorem dX4_placeOf_11 : decode cX4_placeOf 11 = .ok (.getfield 9, 3) := by decide +kernel
theorem dX4_placeOf_14 : decode cX4_placeOf 14 = .ok (.iload_n 2, 1) := by decide +kernel
theorem dX4_placeOf_15 : decode cX4_placeOf 15 = .ok (.iaload, 1) := by decide +kernel
theorem dX4_placeOf_16 : decode cX4_placeOf 16 = .ok (.iload_n 1, 1) := by decide +kernel
theorem dX4_placeOf_17 : decode cX4_placeOf 17 = .ok (.if_icmp .ne 5, 3) := by decide +kernel
theorem dX4_placeOf_20 : decode cX4_placeOf 20 = .ok (.iload_n 2, 1) := by decide +kernel
theorem dX4_placeOf_21 : decode cX4_placeOf 21 = .ok (.ireturn, 1) := by decide +kernel
theorem dX4_placeOf_22 : decode cX4_placeOf 22 = .ok (.iinc 2 1, 3) := by decide +kernel
theorem dX4_placeOf_25 : decode cX4_placeOf 25 = .ok (.goto (-23), 3) := by decide +kernel
theorem dX4_placeOf_28 : decode cX4_placeOf 28 = .ok (.iconst (-1), 1) := by decide +kernel
theorem dX4_placeOf_29 : decode cX4_placeOf 29 = .ok (.ireturn, 1) := by decide +kernel
set_option maxRecDepth 20000 in
theorem ggX4_countWithout_X4_placeOf : GoodIn wsX4_countWithout wsX4_placeOf := goodIn_r _ [6, 1, 7, 8, 9] (by decide +kernel) (by decide +kernel)
set_option maxRecDepth 20000 in
theorem gX4_countWithout_X4_placeOf : GoodIn wsX4_countWithout (wsV RX4 25 RX4 yX4_placeOf wsX4_placeOf) := goodIn_app (goodIn_of _ (by decide +kernel)) ggX4_countWithout_X4_placeOf
theorem dX4_countWithout_0 : decode cX4_countWithout 0 = .ok (.aload_n 0, 1) := by decide +kernel
theorem dX4_countWithout_1 : decode cX4_countWithout 1 = .ok (.iload_n 1, 1) := by decide +kernel
theorem dX4_countWithout_2 : decode cX4_countWithout 2 = .ok (.invokevirtual 25, 3) := by decide +kernel
theorem dX4_countWithout_5 : decode cX4_countWithout 5 = .ok (.iconst (-1), 1) := by decide +kernel
theorem dX4_countWithout_6 : decode cX4_countWithout 6 = .ok (.if_icmp .ne 10, 3) := by decide +kernel
theorem dX4_countWithout_9 : decode cX4_countWithout 9 = .ok (.aload_n 0, 1) := by decide +kernel
theorem dX4_countWithout_10 : decode cX4_countWithout 10 = .ok (.getfield 15, 3) := by decide +kernel
theorem dX4_countWithout_13 : decode cX4_countWithout 13 = .ok (.goto 9, 3) := by decide +kernel
theorem dX4_countWithout_16 : decode cX4_countWithout 16 = .ok (.aload_n 0, 1) := by decide +kernel
theorem dX4_countWithout_17 : decode cX4_countWithout 17 = .ok (.getfield 15, 3) := by decide +kernel
theorem dX4_countWithout_20 : decode cX4_countWithout 20 = .ok (.iconst 1, 1) := by decide +kernel
theorem dX4_countWithout_21 : decode cX4_countWithout 21 = .ok (.isub, 1) := by decide +kernel
theorem dX4_countWithout_22 : decode cX4_countWithout 22 = .ok (.ireturn, 1) := by decide +kernel
set_option maxRecDepth 20000 in
theorem ggX4_moveTo_X4_placeOf : GoodIn wsX4_moveTo wsX4_placeOf := goodIn_r _ [7, 1, 2, 12, 13] (by decide +kernel) (by decide +kernel)
set_option maxRecDepth 20000 in
theorem gX4_moveTo_X4_placeOf : GoodIn wsX4_moveTo (wsV RX4 25 RX4 yX4_placeOf wsX4_placeOf) := goodIn_app (goodIn_of _ (by decide +kernel)) ggX4_moveTo_X4_placeOf
set_option maxRecDepth 20000 in
theorem ggX4_moveTo_X4_removeAt : GoodIn wsX4_moveTo wsX4_removeAt := goodIn_r _ [11, 1, 2, 12, 13] (by decide +kernel) (by decide +kernel)
set_option maxRecDepth 20000 in
theorem gX4_moveTo_X4_removeAt : GoodIn wsX4_moveTo (wsV RX4 29 RX4 yX4_removeAt wsX4_removeAt) := goodIn_app (goodIn_of _ (by decide +kernel)) ggX4_moveTo_X4_removeAt
theorem dX4_moveTo_0 : decode cX4_moveTo 0 = .ok (.aload_n 0, 1) := by decide +kernel
theorem dX4_moveTo_1 : decode cX4_moveTo 1 = .ok (.aload_n 0, 1) := by decide +kernel
theorem dX4_moveTo_2 : decode cX4_moveTo 2 = .ok (.iload_n 1, 1) := by decide +kernel
theorem dX4_moveTo_3 : decode cX4_moveTo 3 = .ok (.invokevirtual 25, 3) := by decide +kernel
theorem dX4_moveTo_6 : decode cX4_moveTo 6 = .ok (.invokevirtual 29, 3) := by decide +kernel
theorem dX4_moveTo_9 : decode cX4_moveTo 9 = .ok (.iload_n 2, 1) := by decide +kernel
theorem dX4_moveTo_10 : decode cX4_moveTo 10 = .ok (.ifCond .lt 20, 3) := by decide +kernel
theorem dX4_moveTo_13 : decode cX4_moveTo 13 = .ok (.iload_n 2, 1) := by decide +kernel
theorem dX4_moveTo_14 : decode cX4_moveTo 14 = .ok (.aload_n 0, 1) := by decide +kernel
theorem dX4_moveTo_15 : decode cX4_moveTo 15 = .ok (.getfield 15, 3) := by decide +kernel
theorem dX4_moveTo_18 : decode cX4_moveTo 18 = .ok (.if_icmp .gt 12, 3) := by decide +kernel
theorem dX4_moveTo_21 : decode cX4_moveTo 21 = .ok (.aload_n 0, 1) := by decide +kernel
theorem dX4_moveTo_22 : decode cX4_moveTo 22 = .ok (.getfield 15, 3) := by decide +kernel
theorem dX4_moveTo_25 : decode cX4_moveTo 25 = .ok (.bipush 10, 2) := by decide +kernel
theorem dX4_moveTo_27 : decode cX4_moveTo 27 = .ok (.if_icmp .lt 4, 3) := by decide +kernel
theorem dX4_moveTo_30 : decode cX4_moveTo 30 = .ok (.return_, 1) := by decide +kernel
theorem dX4_moveTo_31 : decode cX4_moveTo 31 = .ok (.aload_n 0, 1) := by decide +kernel
theorem dX4_moveTo_32 : decode cX4_moveTo 32 = .ok (.getfield 15, 3) := by decide +kernel
theorem dX4_moveTo_35 : decode cX4_moveTo 35 = .ok (.istore_n 3, 1) := by decide +kernel
theorem dX4_moveTo_36 : decode cX4_moveTo 36 = .ok (.iload_n 3, 1) := by decide +kernel
theorem dX4_moveTo_37 : decode cX4_moveTo 37 = .ok (.iload_n 2, 1) := by decide +kernel
theorem dX4_moveTo_38 : decode cX4_moveTo 38 = .ok (.if_icmp .le 23, 3) := by decide +kernel
theorem dX4_moveTo_41 : decode cX4_moveTo 41 = .ok (.aload_n 0, 1) := by decide +kernel
theorem dX4_moveTo_42 : decode cX4_moveTo 42 = .ok (.getfield 9, 3) := by decide +kernel
theorem dX4_moveTo_45 : decode cX4_moveTo 45 = .ok (.iload_n 3, 1) := by decide +kernel
theorem dX4_moveTo_46 : decode cX4_moveTo 46 = .ok (.aload_n 0, 1) := by decide +kernel
theorem dX4_moveTo_47 : decode cX4_moveTo 47 = .ok (.getfield 9, 3) := by decide +kernel
theorem dX4_moveTo_50 : decode cX4_moveTo 50 = .ok (.iload_n 3, 1) := by decide +kernel
theorem dX4_moveTo_51 : decode cX4_moveTo 51 = .ok (.iconst 1, 1) := by decide +kernel
theorem dX4_moveTo_52 : decode cX4_moveTo 52 = .ok (.isub, 1) := by decide +kernel
theorem dX4_moveTo_53 : decode cX4_moveTo 53 = .ok (.iaload, 1) := by decide +kernel
theorem dX4_moveTo_54 : decode cX4_moveTo 54 = .ok (.iastore, 1) := by decide +kernel
theorem dX4_moveTo_55 : decode cX4_moveTo 55 = .ok (.iinc 3 (-1), 3) := by decide +kernel
theorem dX4_moveTo_58 : decode cX4_moveTo 58 = .ok (.goto (-22), 3) := by decide +kernel
theorem dX4_moveTo_61 : decode cX4_moveTo 61 = .ok (.aload_n 0, 1) := by decide +kernel
theorem dX4_moveTo_62 : decode cX4_moveTo 62 = .ok (.getfield 9, 3) := by decide +kernel
theorem dX4_moveTo_65 : decode cX4_moveTo 65 = .ok (.iload_n 2, 1) := by decide +kernel
theorem dX4_moveTo_66 : decode cX4_moveTo 66 = .ok (.iload_n 1, 1) := by decide +kernel
theorem dX4_moveTo_67 : decode cX4_moveTo 67 = .ok (.iastore, 1) := by decide +kernel
theorem dX4_moveTo_68 : decode cX4_moveTo 68 = .ok (.aload_n 0, 1) := by decide +kernel
theorem dX4_moveTo_69 : decode cX4_moveTo 69 = .ok (.dup, 1) := by decide +kernel
theorem dX4_moveTo_70 : decode cX4_moveTo 70 = .ok (.getfield 15, 3) := by decide +kernel
theorem dX4_moveTo_73 : decode cX4_moveTo 73 = .ok (.iconst 1, 1) := by decide +kernel
theorem dX4_moveTo_74 : decode cX4_moveTo 74 = .ok (.iadd, 1) := by decide +kernel
theorem dX4_moveTo_75 : decode cX4_moveTo 75 = .ok (.putfield 15, 3) := by decide +kernel
theorem dX4_moveTo_78 : decode cX4_moveTo 78 = .ok (.return_, 1) := by decide +kernel
theorem dX4_removeAt_0 : decode cX4_removeAt 0 = .ok (.iload_n 1, 1) := by decide +kernel
theorem dX4_removeAt_1 : decode cX4_removeAt 1 = .ok (.ifCond .lt 11, 3) := by decide +kernel
theorem dX4_removeAt_4 : decode cX4_removeAt 4 = .ok (.iload_n 1, 1) := by decide +kernel
theorem dX4_removeAt_5 : decode cX4_removeAt 5 = .ok (.aload_n 0, 1) := by decide +kernel
theorem dX4_removeAt_6 : decode cX4_removeAt 6 = .ok (.getfield 15, 3) := by decide +kernel
theorem dX4_removeAt_9 : decode cX4_removeAt 9 = .ok (.if_icmp .lt 4, 3) := by decide +kernel
theorem dX4_removeAt_12 : decode cX4_removeAt 12 = .ok (.return_, 1) := by decide +kernel
theorem dX4_removeAt_13 : decode cX4_removeAt 13 = .ok (.aload_n 0, 1) := by decide +kernel
theorem dX4_removeAt_14 : decode cX4_removeAt 14 = .ok (.dup, 1) := by decide +kernel
theorem dX4_removeAt_15 : decode cX4_removeAt 15 = .ok (.getfield 15, 3) := by decide +kernel
theorem dX4_removeAt_18 : decode cX4_removeAt 18 = .ok (.iconst 1, 1) := by decide +kernel
theorem dX4_removeAt_19 : decode cX4_removeAt 19 = .ok (.isub, 1) := by decide +kernel
theorem dX4_removeAt_20 : decode cX4_removeAt 20 = .ok (.putfield 15, 3) := by decide +kernel
theorem dX4_removeAt_23 : decode cX4_removeAt 23 = .ok (.iload_n 1, 1) := by decide +kernel
theorem dX4_removeAt_24 : decode cX4_removeAt 24 = .ok (.istore_n 2, 1) := by decide +kernel
theorem dX4_removeAt_25 : decode cX4_removeAt 25 = .ok (.iload_n 2, 1) := by decide +kernel
theorem dX4_removeAt_26 : decode cX4_removeAt 26 = .ok (.aload_n 0, 1) := by decide +kernel
theorem dX4_removeAt_27 : decode cX4_removeAt 27 = .ok (.getfield 15, 3) := by decide +kernel
theorem dX4_removeAt_30 : decode cX4_removeAt 30 = .ok (.if_icmp .ge 23, 3) := by decide +kernel
theorem dX4_removeAt_33 : decode cX4_removeAt 33 = .ok (.aload_n 0, 1) := by decide +kernel
theorem dX4_removeAt_34 : decode cX4_removeAt 34 = .ok (.getfield 9, 3) := by decide +kernel
theorem dX4_removeAt_37 : decode cX4_removeAt 37 = .ok (.iload_n 2, 1) := by decide +kernel
theorem dX4_removeAt_38 : decode cX4_removeAt 38 = .ok (.aload_n 0, 1) := by decide +kernel
theorem dX4_removeAt_39 : decode cX4_removeAt 39 = .ok (.getfield 9, 3) := by decide +kernel
theorem dX4_removeAt_42 : decode cX4_removeAt 42 = .ok (.iload_n 2, 1) := by decide +kernel
theorem dX4_removeAt_43 : decode cX4_removeAt 43 = .ok (.iconst 1, 1) := by decide +kernel
theorem dX4_removeAt_44 : decode cX4_removeAt 44 = .ok (.iadd, 1) := by decide +kernel
theorem dX4_removeAt_45 : decode cX4_removeAt 45 = .ok (.iaload, 1) := by decide +kernel
theorem dX4_removeAt_46 : decode cX4_removeAt 46 = .ok (.iastore, 1) := by decide +kernel
theorem dX4_removeAt_47 : decode cX4_removeAt 47 = .ok (.iinc 2 1, 3) := by decide +kernel
theorem dX4_removeAt_50 : decode cX4_removeAt 50 = .ok (.goto (-25), 3) := by decide +kernel
theorem dX4_removeAt_53 : decode cX4_removeAt 53 = .ok (.return_, 1) := by decide +kernel
theorem dX5_init_0 : decode cX5_init 0 = .ok (.aload_n 0, 1) := by decide +kernel
theorem dX5_init_1 : decode cX5_init 1 = .ok (.invokespecial 3, 3) := by decide +kernel
theorem dX5_init_4 : decode cX5_init 4 = .ok (.return_, 1) := by decide +kernel
theorem dX5_begin_0 : decode cX5_begin 0 = .ok (.aload_n 0, 1) := by decide +kernel
theorem dX5_begin_1 : decode cX5_begin 1 = .ok (.iload_n 1, 1) := by decide +kernel
theorem dX5_begin_2 : decode cX5_begin 2 = .ok (.putfield 9, 3) := by decide +kernel
theorem dX5_begin_5 : decode cX5_begin 5 = .ok (.aload_n 0, 1) := by decide +kernel
theorem dX5_begin_6 : decode cX5_begin 6 = .ok (.iload_n 2, 1) := by decide +kernel
theorem dX5_begin_7 : decode cX5_begin 7 = .ok (.putfield 15, 3) := by decide +kernel
theorem dX5_begin_10 : decode cX5_begin 10 = .ok (.aload_n 0, 1) := by decide +kernel
theorem dX5_begin_11 : decode cX5_begin 11 = .ok (.iload_n 3, 1) := by decide +kernel
theorem dX5_begin_12 : decode cX5_begin 12 = .ok (.putfield 18, 3) := by decide +kernel
theorem dX5_begin_15 : decode cX5_begin 15 = .ok (.aload_n 0, 1) := by decide +kernel
theorem dX5_begin_16 : decode cX5_begin 16 = .ok (.iconst 0, 1) := by decide +kernel
theorem dX5_begin_17 : decode cX5_begin 17 = .ok (.putfield 21, 3) := by decide +kernel
theorem dX5_begin_20 : decode cX5_begin 20 = .ok (.aload_n 0, 1) := by decide +kernel
theorem dX5_begin_21 : decode cX5_begin 21 = .ok (.iconst 0, 1) := by decide +kernel
theorem dX5_begin_22 : decode cX5_begin 22 = .ok (.putfield 24, 3) := by decide +kernel
theorem dX5_begin_25 : decode cX5_begin 25 = .ok (.aload_n 0, 1) := by decide +kernel
theorem dX5_begin_26 : decode cX5_begin 26 = .ok (.iconst 0, 1) := by decide +kernel
theorem dX5_begin_27 : decode cX5_begin 27 = .ok (.putfield 27, 3) := by decide +kernel
theorem dX5_begin_30 : decode cX5_begin 30 = .ok (.aload_n 0, 1) := by decide +kernel
theorem dX5_begin_31 : decode cX5_begin 31 = .ok (.iconst 0, 1) := by decide +kernel
theorem dX5_begin_32 : decode cX5_begin 32 = .ok (.putfield 30, 3) := by decide +kernel
theorem dX5_begin_35 : decode cX5_begin 35 = .ok (.return_, 1) := by decide +kernel
theorem dX5_copyFrom_0 : decode cX5_copyFrom 0 = .ok (.aload_n 0, 1) := by decide +kernel
theorem dX5_copyFrom_1 : decode cX5_copyFrom 1 = .ok (.aload_n 1, 1) := by decide +kernel
theorem dX5_copyFrom_2 : decode cX5_copyFrom 2 = .ok (.getfield 9, 3) := by decide +kernel
theorem dX5_copyFrom_5 : decode cX5_copyFrom 5 = .ok (.putfield 9, 3) := by decide +kernel
theorem dX5_copyFrom_8 : decode cX5_copyFrom 8 = .ok (.aload_n 0, 1) := by decide +kernel
theorem dX5_copyFrom_9 : decode cX5_copyFrom 9 = .ok (.aload_n 1, 1) := by decide +kernel
theorem dX5_copyFrom_10 : decode cX5_copyFrom 10 = .ok (.getfield 15, 3) := by decide +kernel
theorem dX5_copyFrom_13 : decode cX5_copyFrom 13 = .ok (.putfield 15, 3) := by decide +kernel
theorem dX5_copyFrom_16 : decode cX5_copyFrom 16 = .ok (.aload_n 0, 1) := by decide +kernel
theorem dX5_copyFrom_17 : decode cX5_copyFrom 17 = .ok (.aload_n 1, 1) := by decide +kernel
theorem dX5_copyFrom_18 : decode cX5_copyFrom 18 = .ok (.getfield 18, 3) := by decide +kernel
theorem dX5_copyFrom_21 : decode cX5_copyFrom 21 = .ok (.putfield 18, 3) := by decide +kernel
theorem dX5_copyFrom_24 : decode cX5_copyFrom 24 = .ok (.aload_n 0, 1) := by decide +kernel
theorem dX5_copyFrom_25 : decode cX5_copyFrom 25 = .ok (.aload_n 1, 1) := by decide +kernel
theorem dX5_copyFrom_26 : decode cX5_copyFrom 26 = .ok (.getfield 21, 3) := by decide +kernel
theorem dX5_copyFrom_29 : decode cX5_copyFrom 29 = .ok (.putfield 21, 3) := by decide +kernel
theorem dX5_copyFrom_32 : decode cX5_copyFrom 32 = .ok (.aload_n 0, 1) := by decide +kernel
theorem dX5_copyFrom_33 : decode cX5_copyFrom 33 = .ok (.aload_n 1, 1) := by decide +kernel
theorem dX5_copyFrom_34 : decode cX5_copyFrom 34 = .ok (.getfield 24, 3) := by decide +kernel
theorem dX5_copyFrom_37 : decode cX5_copyFrom 37 = .ok (.putfield 24, 3) := by decide +kernel
theorem dX5_copyFrom_40 : decode cX5_copyFrom 40 = .ok (.aload_n 0, 1) := by decide +kernel
theorem dX5_copyFrom_41 : decode cX5_copyFrom 41 = .ok (.aload_n 1, 1) := by decide +kernel
theorem dX5_copyFrom_42 : decode cX5_copyFrom 42 = .ok (.getfield 27, 3) := by decide +kernel
theorem dX5_copyFrom_45 : decode cX5_copyFrom 45 = .ok (.putfield 27, 3) := by decide +kernel
theorem dX5_copyFrom_48 : decode cX5_copyFrom 48 = .ok (.aload_n 0, 1) := by decide +kernel
theorem dX5_copyFrom_49 : decode cX5_copyFrom 49 = .ok (.aload_n 1, 1) := by decide +kernel
theorem dX5_copyFrom_50 : decode cX5_copyFrom 50 = .ok (.getfield 30, 3) := by decide +kernel
theorem dX5_copyFrom_53 : decode cX5_copyFrom 53 = .ok (.putfield 30, 3) := by decide +kernel
theorem dX5_copyFrom_56 : decode cX5_copyFrom 56 = .ok (.return_, 1) := by decide +kernel
theorem dX5_limit_0 : decode cX5_limit 0 = .ok (.iload_n 1, 1) := by decide +kernel
theorem dX5_limit_1 : decode cX5_limit 1 = .ok (.aload_n 0, 1) := by decide +kernel
theorem dX5_limit_2 : decode cX5_limit 2 = .ok (.getfield 15, 3) := by decide +kernel
theorem dX5_limit_5 : decode cX5_limit 5 = .ok (.bipush 25, 2) := by decide +kernel
theorem dX5_limit_7 : decode cX5_limit 7 = .ok (.idiv, 1) := by decide +kernel
theorem dX5_limit_8 : decode cX5_limit 8 = .ok (.isub, 1) := by decide +kernel
theorem dX5_limit_9 : decode cX5_limit 9 = .ok (.ireturn, 1) := by decide +kernel
theorem dX5_bladeWeight_0 : decode cX5_bladeWeight 0 = .ok (.aload_n 0, 1) := by decide +kernel
theorem dX5_bladeWeight_1 : decode cX5_bladeWeight 1 = .ok (.getfield 15, 3) := by decide +kernel
theorem dX5_bladeWeight_4 : decode cX5_bladeWeight 4 = .ok (.bipush 10, 2) := by decide +kernel
theorem dX5_bladeWeight_6 : decode cX5_bladeWeight 6 = .ok (.idiv, 1) := by decide +kernel
theorem dX5_bladeWeight_7 : decode cX5_bladeWeight 7 = .ok (.ireturn, 1) := by decide +kernel
theorem dX5_fullPower_0 : decode cX5_fullPower 0 = .ok (.iload_n 1, 1) := by decide +kernel
theorem dX5_fullPower_1 : decode cX5_fullPower 1 = .ok (.iconst 3, 1) := by decide +kernel
theorem dX5_fullPower_2 : decode cX5_fullPower 2 = .ok (.if_icmp .lt 9, 3) := by decide +kernel
theorem dX5_fullPower_5 : decode cX5_fullPower 5 = .ok (.iload_n 1, 1) := by decide +kernel
theorem dX5_fullPower_6 : decode cX5_fullPower 6 = .ok (.bipush 25, 2) := by decide +kernel
theorem dX5_fullPower_8 : decode cX5_fullPower 8 = .ok (.if_icmp .le 7, 3) := by decide +kernel
theorem dX5_fullPower_11 : decode cX5_fullPower 11 = .ok (.iconst 0, 1) := by decide +kernel
theorem dX5_fullPower_12 : decode cX5_fullPower 12 = .ok (.goto 17, 3) := by decide +kernel
theorem dX5_fullPower_15 : decode cX5_fullPower 15 = .ok (.aload_n 0, 1) := by decide +kernel
theorem dX5_fullPower_16 : decode cX5_fullPower 16 = .ok (.getfield 18, 3) := by decide +kernel
theorem dX5_fullPower_19 : decode cX5_fullPower 19 = .ok (.iload_n 1, 1) := by decide +kernel
theorem dX5_fullPower_20 : decode cX5_fullPower 20 = .ok (.bipush 12, 2) := by decide +kernel
theorem dX5_fullPower_22 : decode cX5_fullPower 22 = .ok (.invokestatic 33, 3) := by decide +kernel
theorem dX5_fullPower_25 : decode cX5_fullPower 25 = .ok (.imul, 1) := by decide +kernel
theorem dX5_fullPower_26 : decode cX5_fullPower 26 = .ok (.bipush 12, 2) := by decide +kernel
theorem dX5_fullPower_28 : decode cX5_fullPower 28 = .ok (.idiv, 1) := by decide +kernel
theorem dX5_fullPower_29 : decode cX5_fullPower 29 = .ok (.ireturn, 1) := by decide +kernel
theorem dX5_growOlder_0 : decode cX5_growOlder 0 = .ok (.aload_n 0, 1) := by decide +kernel
theorem dX5_growOlder_1 : decode cX5_growOlder 1 = .ok (.getfield 21, 3) := by decide +kernel
theorem dX5_growOlder_4 : decode cX5_growOlder 4 = .ok (.ifCond .eq 11, 3) := by decide +kernel
theorem dX5_growOlder_7 : decode cX5_growOlder 7 = .ok (.aload_n 0, 1) := by decide +kernel
theorem dX5_growOlder_8 : decode cX5_growOlder 8 = .ok (.getfield 21, 3) := by decide +kernel
theorem dX5_growOlder_11 : decode cX5_growOlder 11 = .ok (.iconst 4, 1) := by decide +kernel
theorem dX5_growOlder_12 : decode cX5_growOlder 12 = .ok (.if_icmp .ne 4, 3) := by decide +kernel
theorem dX5_growOlder_15 : decode cX5_growOlder 15 = .ok (.return_, 1) := by decide +kernel
theorem dX5_growOlder_16 : decode cX5_growOlder 16 = .ok (.aload_n 0, 1) := by decide +kernel
theorem dX5_growOlder_17 : decode cX5_growOlder 17 = .ok (.dup, 1) := by decide +kernel
theorem dX5_growOlder_18 : decode cX5_growOlder 18 = .ok (.getfield 24, 3) := by decide +kernel
theorem dX5_growOlder_21 : decode cX5_growOlder 21 = .ok (.iconst 1, 1) := by decide +kernel
theorem dX5_growOlder_22 : decode cX5_growOlder 22 = .ok (.iadd, 1) := by decide +kernel
theorem dX5_growOlder_23 : decode cX5_growOlder 23 = .ok (.putfield 24, 3) := by decide +kernel
theorem dX5_growOlder_26 : decode cX5_growOlder 26 = .ok (.aload_n 0, 1) := by decide +kernel
theorem dX5_growOlder_27 : decode cX5_growOlder 27 = .ok (.getfield 24, 3) := by decide +kernel
theorem dX5_growOlder_30 : decode cX5_growOlder 30 = .ok (.iload_n 1, 1) := by decide +kernel
theorem dX5_growOlder_31 : decode cX5_growOlder 31 = .ok (.if_icmp .lt 18, 3) := by decide +kernel
theorem dX5_growOlder_34 : decode cX5_growOlder 34 = .ok (.aload_n 0, 1) := by decide +kernel
theorem dX5_growOlder_35 : decode cX5_growOlder 35 = .ok (.dup, 1) := by decide +kernel
theorem dX5_growOlder_36 : decode cX5_growOlder 36 = .ok (.getfield 21, 3) := by decide +kernel
theorem dX5_growOlder_39 : decode cX5_growOlder 39 = .ok (.iconst 1, 1) := by decide +kernel
theorem dX5_growOlder_40 : decode cX5_growOlder 40 = .ok (.iadd, 1) := by decide +kernel
theorem dX5_growOlder_41 : decode cX5_growOlder 41 = .ok (.putfield 21, 3) := by decide +kernel
theorem dX5_growOlder_44 : decode cX5_growOlder 44 = .ok (.aload_n 0, 1) := by decide +kernel
theorem dX5_growOlder_45 : decode cX5_growOlder 45 = .ok (.iconst 0, 1) := by decide +kernel
theorem dX5_growOlder_46 : decode cX5_growOlder 46 = .ok (.putfield 24, 3) := by decide +kernel
theorem dX5_growOlder_49 : decode cX5_growOlder 49 = .ok (.return_, 1) := by decide +kernel
theorem dX6_init_0 : decode cX6_init 0 = .ok (.aload_n 0, 1) := by decide +kernel
theorem dX6_init_1 : decode cX6_init 1 = .ok (.invokespecial 3, 3) := by decide +kernel
theorem dX6_init_4 : decode cX6_init 4 = .ok (.aload_n 0, 1) := by decide +kernel
theorem dX6_init_5 : decode cX6_init 5 = .ok (.bipush 60, 2) := by decide +kernel
theorem dX6_init_7 : decode cX6_init 7 = .ok (.newarray .int, 2) := by decide +kernel
theorem dX6_init_9 : decode cX6_init 9 = .ok (.putfield 9, 3) := by decide +kernel
theorem dX6_init_12 : decode cX6_init 12 = .ok (.aload_n 0, 1) := by decide +kernel
theorem dX6_init_13 : decode cX6_init 13 = .ok (.iconst 0, 1) := by decide +kernel
theorem dX6_init_14 : decode cX6_init 14 = .ok (.putfield 15, 3) := by decide +kernel
theorem dX6_init_17 : decode cX6_init 17 = .ok (.return_, 1) := by decide +kernel
theorem dX6_isFull_0 : decode cX6_isFull 0 = .ok (.aload_n 0, 1) := by decide +kernel
theorem dX6_isFull_1 : decode cX6_isFull 1 = .ok (.getfield 15, 3) := by decide +kernel
theorem dX6_isFull_4 : decode cX6_isFull 4 = .ok (.bipush 60, 2) := by decide +kernel
theorem dX6_isFull_6 : decode cX6_isFull 6 = .ok (.if_icmp .lt 7, 3) := by decide +kernel
theorem dX6_isFull_9 : decode cX6_isFull 9 = .ok (.iconst 1, 1) := by decide +kernel
theorem dX6_isFull_10 : decode cX6_isFull 10 = .ok (.goto 4, 3) := by decide +kernel
theorem dX6_isFull_13 : decode cX6_isFull 13 = .ok (.iconst 0, 1) := by decide +kernel
theorem dX6_isFull_14 : decode cX6_isFull 14 = .ok (.ireturn, 1) := by decide +kernel
set_option maxRecDepth 20000 in
theorem ggX6_add_X6_isFull : GoodIn wsX6_add wsX6_isFull := goodIn_r _ [7, 2, 8, 9] (by decide +kernel) (by decide +kernel)
set_option maxRecDepth 20000 in
theorem gX6_add_X6_isFull : GoodIn wsX6_add (wsV RX6 19 RX6 yX6_isFull wsX6_isFull) := goodIn_app (goodIn_of _ (by decide +kernel)) ggX6_add_X6_isFull
theorem dX6_add_0 : decode cX6_add 0 = .ok (.aload_n 0, 1) := by decide +kernel
theorem dX6_add_1 : decode cX6_add 1 = .ok (.invokevirtual 19, 3) := by decide +kernel
theorem dX6_add_4 : decode cX6_add 4 = .ok (.ifCond .ne 23, 3) := by decide +kernel
theorem dX6_add_7 : decode cX6_add 7 = .ok (.aload_n 0, 1) := by decide +kernel
theorem dX6_add_8 : decode cX6_add 8 = .ok (.getfield 9, 3) := by decide +kernel
theorem dX6_add_11 : decode cX6_add 11 = .ok (.aload_n 0, 1) := by decide +kernel
theorem dX6_add_12 : decode cX6_add 12 = .ok (.getfield 15, 3) := by decide +kernel
theorem dX6_add_15 : decode cX6_add 15 = .ok (.iload_n 1, 1) := by decide +kernel
theorem dX6_add_16 : decode cX6_add 16 = .ok (.iastore, 1) := by decide +kernel
theorem dX6_add_17 : decode cX6_add 17 = .ok (.aload_n 0, 1) := by decide +kernel
theorem dX6_add_18 : decode cX6_add 18 = .ok (.dup, 1) := by decide +kernel
theorem dX6_add_19 : decode cX6_add 19 = .ok (.getfield 15, 3) := by decide +kernel
theorem dX6_add_22 : decode cX6_add 22 = .ok (.iconst 1, 1) := by decide +kernel
theorem dX6_add_23 : decode cX6_add 23 = .ok (.iadd, 1) := by decide +kernel
theorem dX6_add_24 : decode cX6_add 24 = .ok (.putfield 15, 3) := by decide +kernel
theorem dX6_add_27 : decode cX6_add 27 = .ok (.return_, 1) := by decide +kernel
set_option maxRecDepth 20000 in
theorem ggX6_errorIndex_X6_after : GoodIn wsX6_errorIndex wsX6_after := goodIn_r _ [6, 7, 8, 5, 9, 10, 11, 12, 13, 14, 15, 16, 17, 18, 19, 20, 21] (by decide +kernel) (by decide +kernel)
set_option maxRecDepth 20000 in
theorem gX6_errorIndex_X6_after : GoodIn wsX6_errorIndex (va_wsS RX6 23 yX6_after wsX6_after) := goodIn_app (goodIn_of _ (by decide +kernel)) ggX6_errorIndex_X6_after
theorem dX6_errorIndex_0 : decode cX6_errorIndex 0 = .ok (.iconst 1, 1) := by decide +kernel
theorem dX6_errorIndex_1 : decode cX6_errorIndex 1 = .ok (.istore_n 1, 1) := by decide +kernel
theorem dX6_errorIndex_2 : decode cX6_errorIndex 2 = .ok (.iconst 0, 1) := by decide +kernel
theorem dX6_errorIndex_3 : decode cX6_errorIndex 3 = .ok (.istore_n 2, 1) := by decide +kernel
theorem dX6_errorIndex_4 : decode cX6_errorIndex 4 = .ok (.iload_n 2, 1) := by decide +kernel
theorem dX6_errorIndex_5 : decode cX6_errorIndex 5 = .ok (.aload_n 0, 1) := by decide +kernel
theorem dX6_errorIndex_6 : decode cX6_errorIndex 6 = .ok (.getfield 15, 3) := by decide +kernel
theorem dX6_errorIndex_9 : decode cX6_errorIndex 9 = .ok (.if_icmp .ge 26, 3) := by decide +kernel
theorem dX6_errorIndex_12 : decode cX6_errorIndex 12 = .ok (.iload_n 1, 1) := by decide +kernel
theorem dX6_errorIndex_13 : decode cX6_errorIndex 13 = .ok (.aload_n 0, 1) := by decide +kernel
theorem dX6_errorIndex_14 : decode cX6_errorIndex 14 = .ok (.getfield 9, 3) := by decide +kernel
theorem dX6_errorIndex_17 : decode cX6_errorIndex 17 = .ok (.iload_n 2, 1) := by decide +kernel
theorem dX6_errorIndex_18 : decode cX6_errorIndex 18 = .ok (.iaload, 1) := by decide +kernel
theorem dX6_errorIndex_19 : decode cX6_errorIndex 19 = .ok (.invokestatic 23, 3) := by decide +kernel
theorem dX6_errorIndex_22 : decode cX6_errorIndex 22 = .ok (.istore_n 1, 1) := by decide +kernel
theorem dX6_errorIndex_23 : decode cX6_errorIndex 23 = .ok (.iload_n 1, 1) := by decide +kernel
theorem dX6_errorIndex_24 : decode cX6_errorIndex 24 = .ok (.ifCond .ne 5, 3) := by decide +kernel
theorem dX6_errorIndex_27 : decode cX6_errorIndex 27 = .ok (.iload_n 2, 1) := by decide +kernel
theorem dX6_errorIndex_28 : decode cX6_errorIndex 28 = .ok (.ireturn, 1) := by decide +kernel
theorem dX6_errorIndex_29 : decode cX6_errorIndex 29 = .ok (.iinc 2 1, 3) := by decide +kernel
theorem dX6_errorIndex_32 : decode cX6_errorIndex 32 = .ok (.goto (-28), 3) := by decide +kernel
theorem dX6_errorIndex_35 : decode cX6_errorIndex 35 = .ok (.aload_n 0, 1) := by decide +kernel
theorem dX6_errorIndex_36 : decode cX6_errorIndex 36 = .ok (.getfield 15, 3) := by decide +kernel
theorem dX6_errorIndex_39 : decode cX6_errorIndex 39 = .ok (.ireturn, 1) := by decide +kernel
set_option maxRecDepth 20000 in
theorem ggX6_isComplete_X6_after : GoodIn wsX6_isComplete wsX6_after := goodIn_r _ [6, 7, 8, 5, 9, 10, 11, 12, 13, 14, 15, 16, 17, 18, 19, 20, 21] (by decide +kernel) (by decide +kernel)
set_option maxRecDepth 20000 in
theorem gX6_isComplete_X6_after : GoodIn wsX6_isComplete (va_wsS RX6 23 yX6_after wsX6_after) := goodIn_app (goodIn_of _ (by decide +kernel)) ggX6_isComplete_X6_after
set_option maxRecDepth 20000 in
theorem ggX6_isComplete_X6_isEndOfPart : GoodIn wsX6_isComplete wsX6_isEndOfPart := goodIn_r _ [9, 10, 11, 5, 12] (by decide +kernel) (by decide +kernel)
set_option maxRecDepth 20000 in
theorem gX6_isComplete_X6_isEndOfPart : GoodIn wsX6_isComplete (va_wsS RX6 27 yX6_isEndOfPart wsX6_isEndOfPart) := goodIn_app (goodIn_of _ (by decide +kernel)) ggX6_isComplete_X6_isEndOfPart
theorem dX6_isComplete_0 : decode cX6_isComplete 0 = .ok (.iconst 1, 1) := by decide +kernel
theorem dX6_isComplete_1 : decode cX6_isComplete 1 = .ok (.istore_n 1, 1) := by decide +kernel
theorem dX6_isComplete_2 : decode cX6_isComplete 2 = .ok (.iconst 0, 1) := by decide +kernel
theorem dX6_isComplete_3 : decode cX6_isComplete 3 = .ok (.istore_n 2, 1) := by decide +kernel
theorem dX6_isComplete_4 : decode cX6_isComplete 4 = .ok (.iload_n 2, 1) := by decide +kernel
theorem dX6_isComplete_5 : decode cX6_isComplete 5 = .ok (.aload_n 0, 1) := by decide +kernel
theorem dX6_isComplete_6 : decode cX6_isComplete 6 = .ok (.getfield 15, 3) := by decide +kernel
theorem dX6_isComplete_9 : decode cX6_isComplete 9 = .ok (.if_icmp .ge 20, 3) := by decide +kernel
theorem dX6_isComplete_12 : decode cX6_isComplete 12 = .ok (.iload_n 1, 1) := by decide +kernel
theorem dX6_isComplete_13 : decode cX6_isComplete 13 = .ok (.aload_n 0, 1) := by decide +kernel
theorem dX6_isComplete_14 : decode cX6_isComplete 14 = .ok (.getfield 9, 3) := by decide +kernel
theorem dX6_isComplete_17 : decode cX6_isComplete 17 = .ok (.iload_n 2, 1) := by decide +kernel
theorem dX6_isComplete_18 : decode cX6_isComplete 18 = .ok (.iaload, 1) := by decide +kernel
theorem dX6_isComplete_19 : decode cX6_isComplete 19 = .ok (.invokestatic 23, 3) := by decide +kernel
theorem dX6_isComplete_22 : decode cX6_isComplete 22 = .ok (.istore_n 1, 1) := by decide +kernel
theorem dX6_isComplete_23 : decode cX6_isComplete 23 = .ok (.iinc 2 1, 3) := by decide +kernel
theorem dX6_isComplete_26 : decode cX6_isComplete 26 = .ok (.goto (-22), 3) := by decide +kernel
theorem dX6_isComplete_29 : decode cX6_isComplete 29 = .ok (.iload_n 1, 1) := by decide +kernel
theorem dX6_isComplete_30 : decode cX6_isComplete 30 = .ok (.invokestatic 27, 3) := by decide +kernel
theorem dX6_isComplete_33 : decode cX6_isComplete 33 = .ok (.ireturn, 1) := by decide +kernel
set_option maxRecDepth 20000 in
theorem ggX6_isEndOfPart_X6_isNumber : GoodIn wsX6_isEndOfPart wsX6_isNumber := goodIn_r _ [4] (by decide +kernel) (by decide +kernel)
set_option maxRecDepth 20000 in
theorem gX6_isEndOfPart_X6_isNumber : GoodIn wsX6_isEndOfPart (va_wsS RX6 31 yX6_isNumber wsX6_isNumber) := goodIn_app (goodIn_of _ (by decide +kernel)) ggX6_isEndOfPart_X6_isNumber
theorem dX6_isEndOfPart_0 : decode cX6_isEndOfPart 0 = .ok (.iload_n 0, 1) := by decide +kernel
theorem dX6_isEndOfPart_1 : decode cX6_isEndOfPart 1 = .ok (.invokestatic 31, 3) := by decide +kernel
theorem dX6_isEndOfPart_4 : decode cX6_isEndOfPart 4 = .ok (.ifCond .ne 21, 3) := by decide +kernel
theorem dX6_isEndOfPart_7 : decode cX6_isEndOfPart 7 = .ok (.iload_n 0, 1) := by decide +kernel
theorem dX6_isEndOfPart_8 : decode cX6_isEndOfPart 8 = .ok (.bipush 7, 2) := by decide +kernel
theorem dX6_isEndOfPart_10 : decode cX6_isEndOfPart 10 = .ok (.if_icmp .eq 15, 3) := by decide +kernel
theorem dX6_isEndOfPart_13 : decode cX6_isEndOfPart 13 = .ok (.iload_n 0, 1) := by decide +kernel
theorem dX6_isEndOfPart_14 : decode cX6_isEndOfPart 14 = .ok (.bipush 8, 2) := by decide +kernel
theorem dX6_isEndOfPart_16 : decode cX6_isEndOfPart 16 = .ok (.if_icmp .eq 9, 3) := by decide +kernel
theorem dX6_isEndOfPart_19 : decode cX6_isEndOfPart 19 = .ok (.iload_n 0, 1) := by decide +kernel
theorem dX6_isEndOfPart_20 : decode cX6_isEndOfPart 20 = .ok (.bipush 9, 2) := by decide +kernel
theorem dX6_isEndOfPart_22 : decode cX6_isEndOfPart 22 = .ok (.if_icmp .ne 7, 3) := by decide +kernel
theorem dX6_isEndOfPart_25 : decode cX6_isEndOfPart 25 = .ok (.iconst 1, 1) := by decide +kernel
theorem dX6_isEndOfPart_26 : decode cX6_isEndOfPart 26 = .ok (.goto 4, 3) := by decide +kernel
theorem dX6_isEndOfPart_29 : decode cX6_isEndOfPart 29 = .ok (.iconst 0, 1) := by decide +kernel
theorem dX6_isEndOfPart_30 : decode cX6_isEndOfPart 30 = .ok (.ireturn, 1) := by decide +kernel
theorem dX6_isNumber_0 : decode cX6_isNumber 0 = .ok (.iload_n 0, 1) := by decide +kernel
theorem dX6_isNumber_1 : decode cX6_isNumber 1 = .ok (.iconst 2, 1) := by decide +kernel
theorem dX6_isNumber_2 : decode cX6_isNumber 2 = .ok (.if_icmp .eq 13, 3) := by decide +kernel
theorem dX6_isNumber_5 : decode cX6_isNumber 5 = .ok (.iload_n 0, 1) := by decide +kernel
theorem dX6_isNumber_6 : decode cX6_isNumber 6 = .ok (.iconst 3, 1) := by decide +kernel
theorem dX6_isNumber_7 : decode cX6_isNumber 7 = .ok (.if_icmp .eq 8, 3) := by decide +kernel
theorem dX6_isNumber_10 : decode cX6_isNumber 10 = .ok (.iload_n 0, 1) := by decide +kernel
theorem dX6_isNumber_11 : decode cX6_isNumber 11 = .ok (.iconst 4, 1) := by decide +kernel
theorem dX6_isNumber_12 : decode cX6_isNumber 12 = .ok (.if_icmp .ne 7, 3) := by decide +kernel
theorem dX6_isNumber_15 : decode cX6_isNumber 15 = .ok (.iconst 1, 1) := by decide +kernel
theorem dX6_isNumber_16 : decode cX6_isNumber 16 = .ok (.goto 4, 3) := by decide +kernel
theorem dX6_isNumber_19 : decode cX6_isNumber 19 = .ok (.iconst 0, 1) := by decide +kernel
theorem dX6_isNumber_20 : decode cX6_isNumber 20 = .ok (.ireturn, 1) := by decide +kernel
set_option maxRecDepth 20000 in
theorem ggX6_after_X6_isEndOfPart : GoodIn wsX6_after wsX6_isEndOfPart := goodIn_r _ [4, 5, 6, 3, 7] (by decide +kernel) (by decide +kernel)
set_option maxRecDepth 20000 in
theorem gX6_after_X6_isEndOfPart : GoodIn wsX6_after (va_wsS RX6 27 yX6_isEndOfPart wsX6_isEndOfPart) := goodIn_app (goodIn_of _ (by decide +kernel)) ggX6_after_X6_isEndOfPart
set_option maxRecDepth 20000 in
theorem ggX6_after_X6_isNumber : GoodIn wsX6_after wsX6_isNumber := goodIn_r _ [7] (by decide +kernel) (by decide +kernel)
set_option maxRecDepth 20000 in
theorem gX6_after_X6_isNumber : GoodIn wsX6_after (va_wsS RX6 31 yX6_isNumber wsX6_isNumber) := goodIn_app (goodIn_of _ (by decide +kernel)) ggX6_after_X6_isNumber
set_option maxRecDepth 20000 in
theorem ggX6_after_X6_afterDigit : GoodIn wsX6_after wsX6_afterDigit := goodIn_r _ [10, 11, 12, 3, 13, 14, 15, 16] (by decide +kernel) (by decide +kernel)
set_option maxRecDepth 20000 in
theorem gX6_after_X6_afterDigit : GoodIn wsX6_after (va_wsS RX6 34 yX6_afterDigit wsX6_afterDigit) := goodIn_app (goodIn_of _ (by decide +kernel)) ggX6_after_X6_afterDigit
theorem dX6_after_0 : decode cX6_after 0 = .ok (.iload_n 1, 1) := by decide +kernel
theorem dX6_after_1 : decode cX6_after 1 = .ok (.bipush 44, 2) := by decide +kernel
theorem dX6_after_3 : decode cX6_after 3 = .ok (.if_icmp .ne 16, 3) := by decide +kernel
theorem dX6_after_6 : decode cX6_after 6 = .ok (.iload_n 0, 1) := by decide +kernel
theorem dX6_after_7 : decode cX6_after 7 = .ok (.invokestatic 27, 3) := by decide +kernel
theorem dX6_after_10 : decode cX6_after 10 = .ok (.ifCond .eq 7, 3) := by decide +kernel
theorem dX6_after_13 : decode cX6_after 13 = .ok (.iconst 1, 1) := by decide +kernel
theorem dX6_after_14 : decode cX6_after 14 = .ok (.goto 4, 3) := by decide +kernel
theorem dX6_after_17 : decode cX6_after 17 = .ok (.iconst 0, 1) := by decide +kernel
theorem dX6_after_18 : decode cX6_after 18 = .ok (.ireturn, 1) := by decide +kernel
theorem dX6_after_19 : decode cX6_after 19 = .ok (.iload_n 1, 1) := by decide +kernel
theorem dX6_after_20 : decode cX6_after 20 = .ok (.bipush 42, 2) := by decide +kernel
theorem dX6_after_22 : decode cX6_after 22 = .ok (.if_icmp .ne 16, 3) := by decide +kernel
theorem dX6_after_25 : decode cX6_after 25 = .ok (.iload_n 0, 1) := by decide +kernel
theorem dX6_after_26 : decode cX6_after 26 = .ok (.invokestatic 31, 3) := by decide +kernel
theorem dX6_after_29 : decode cX6_after 29 = .ok (.ifCond .eq 7, 3) := by decide +kernel
theorem dX6_after_32 : decode cX6_after 32 = .ok (.iconst 5, 1) := by decide +kernel
theorem dX6_after_33 : decode cX6_after 33 = .ok (.goto 4, 3) := by decide +kernel
theorem dX6_after_36 : decode cX6_after 36 = .ok (.iconst 0, 1) := by decide +kernel
theorem dX6_after_37 : decode cX6_after 37 = .ok (.ireturn, 1) := by decide +kernel
theorem dX6_after_38 : decode cX6_after 38 = .ok (.iload_n 1, 1) := by decide +kernel
theorem dX6_after_39 : decode cX6_after 39 = .ok (.bipush 48, 2) := by decide +kernel
theorem dX6_after_41 : decode cX6_after 41 = .ok (.if_icmp .lt 20, 3) := by decide +kernel
theorem dX6_after_44 : decode cX6_after 44 = .ok (.iload_n 1, 1) := by decide +kernel
theorem dX6_after_45 : decode cX6_after 45 = .ok (.bipush 57, 2) := by decide +kernel
theorem dX6_after_47 : decode cX6_after 47 = .ok (.if_icmp .gt 14, 3) := by decide +kernel
theorem dX6_after_50 : decode cX6_after 50 = .ok (.iload_n 0, 1) := by decide +kernel
theorem dX6_after_51 : decode cX6_after 51 = .ok (.iload_n 1, 1) := by decide +kernel
theorem dX6_after_52 : decode cX6_after 52 = .ok (.bipush 48, 2) := by decide +kernel
theorem dX6_after_54 : decode cX6_after 54 = .ok (.isub, 1) := by decide +kernel
theorem dX6_after_55 : decode cX6_after 55 = .ok (.invokestatic 34, 3) := by decide +kernel
theorem dX6_after_58 : decode cX6_after 58 = .ok (.goto 4, 3) := by decide +kernel
theorem dX6_after_61 : decode cX6_after 61 = .ok (.iconst 0, 1) := by decide +kernel
theorem dX6_after_62 : decode cX6_after 62 = .ok (.ireturn, 1) := by decide +kernel
set_option maxRecDepth 20000 in
theorem ggX6_afterDigit_X6_afterFirstOfNumber : GoodIn wsX6_afterDigit wsX6_afterFirstOfNumber := goodIn_r _ [4] (by decide +kernel) (by decide +kernel)
set_option maxRecDepth 20000 in
theorem gX6_afterDigit_X6_afterFirstOfNumber : GoodIn wsX6_afterDigit (va_wsS RX6 37 yX6_afterFirstOfNumber wsX6_afterFirstOfNumber) := goodIn_app (goodIn_of _ (by decide +kernel)) ggX6_afterDigit_X6_afterFirstOfNumber
set_option maxRecDepth 20000 in
theorem ggX6_afterDigit_X6_afterFirstOfTimes : GoodIn wsX6_afterDigit wsX6_afterFirstOfTimes := goodIn_r _ [7] (by decide +kernel) (by decide +kernel)
set_option maxRecDepth 20000 in
theorem gX6_afterDigit_X6_afterFirstOfTimes : GoodIn wsX6_afterDigit (va_wsS RX6 41 yX6_afterFirstOfTimes wsX6_afterFirstOfTimes) := goodIn_app (goodIn_of _ (by decide +kernel)) ggX6_afterDigit_X6_afterFirstOfTimes
theorem dX6_afterDigit_0 : decode cX6_afterDigit 0 = .ok (.iload_n 0, 1) := by decide +kernel
theorem dX6_afterDigit_1 : decode cX6_afterDigit 1 = .ok (.tableswitch 85 1 8 #[47, 52, 54, 85, 64, 69, 69, 72], 47) := by decide +kernel
theorem dX6_afterDigit_48 : decode cX6_afterDigit 48 = .ok (.iload_n 1, 1) := by decide +kernel
theorem dX6_afterDigit_49 : decode cX6_afterDigit 49 = .ok (.invokestatic 37, 3) := by decide +kernel
theorem dX6_afterDigit_52 : decode cX6_afterDigit 52 = .ok (.ireturn, 1) := by decide +kernel
theorem dX6_afterDigit_53 : decode cX6_afterDigit 53 = .ok (.iconst 4, 1) := by decide +kernel
theorem dX6_afterDigit_54 : decode cX6_afterDigit 54 = .ok (.ireturn, 1) := by decide +kernel
theorem dX6_afterDigit_55 : decode cX6_afterDigit 55 = .ok (.iload_n 1, 1) := by decide +kernel
theorem dX6_afterDigit_56 : decode cX6_afterDigit 56 = .ok (.ifCond .ne 7, 3) := by decide +kernel
theorem dX6_afterDigit_59 : decode cX6_afterDigit 59 = .ok (.iconst 4, 1) := by decide +kernel
theorem dX6_afterDigit_60 : decode cX6_afterDigit 60 = .ok (.goto 4, 3) := by decide +kernel
theorem dX6_afterDigit_63 : decode cX6_afterDigit 63 = .ok (.iconst 0, 1) := by decide +kernel
theorem dX6_afterDigit_64 : decode cX6_afterDigit 64 = .ok (.ireturn, 1) := by decide +kernel
theorem dX6_afterDigit_65 : decode cX6_afterDigit 65 = .ok (.iload_n 1, 1) := by decide +kernel
theorem dX6_afterDigit_66 : decode cX6_afterDigit 66 = .ok (.invokestatic 41, 3) := by decide +kernel
theorem dX6_afterDigit_69 : decode cX6_afterDigit 69 = .ok (.ireturn, 1) := by decide +kernel
theorem dX6_afterDigit_70 : decode cX6_afterDigit 70 = .ok (.bipush 9, 2) := by decide +kernel
theorem dX6_afterDigit_72 : decode cX6_afterDigit 72 = .ok (.ireturn, 1) := by decide +kernel
theorem dX6_afterDigit_73 : decode cX6_afterDigit 73 = .ok (.iload_n 1, 1) := by decide +kernel
theorem dX6_afterDigit_74 : decode cX6_afterDigit 74 = .ok (.bipush 8, 2) := by decide +kernel
theorem dX6_afterDigit_76 : decode cX6_afterDigit 76 = .ok (.if_icmp .gt 8, 3) := by decide +kernel
theorem dX6_afterDigit_79 : decode cX6_afterDigit 79 = .ok (.bipush 9, 2) := by decide +kernel
theorem dX6_afterDigit_81 : decode cX6_afterDigit 81 = .ok (.goto 4, 3) := by decide +kernel
theorem dX6_afterDigit_84 : decode cX6_afterDigit 84 = .ok (.iconst 0, 1) := by decide +kernel
theorem dX6_afterDigit_85 : decode cX6_afterDigit 85 = .ok (.ireturn, 1) := by decide +kernel
theorem dX6_afterDigit_86 : decode cX6_afterDigit 86 = .ok (.iconst 0, 1) := by decide +kernel
theorem dX6_afterDigit_87 : decode cX6_afterDigit 87 = .ok (.ireturn, 1) := by decide +kernel
theorem dX6_afterFirstOfNumber_0 : decode cX6_afterFirstOfNumber 0 = .ok (.iload_n 0, 1) := by decide +kernel
theorem dX6_afterFirstOfNumber_1 : decode cX6_afterFirstOfNumber 1 = .ok (.tableswitch 31 1 3 #[27, 27, 29], 27) := by decide +kernel
theorem dX6_afterFirstOfNumber_28 : decode cX6_afterFirstOfNumber 28 = .ok (.iconst 2, 1) := by decide +kernel
theorem dX6_afterFirstOfNumber_29 : decode cX6_afterFirstOfNumber 29 = .ok (.ireturn, 1) := by decide +kernel
theorem dX6_afterFirstOfNumber_30 : decode cX6_afterFirstOfNumber 30 = .ok (.iconst 3, 1) := by decide +kernel
theorem dX6_afterFirstOfNumber_31 : decode cX6_afterFirstOfNumber 31 = .ok (.ireturn, 1) := by decide +kernel
theorem dX6_afterFirstOfNumber_32 : decode cX6_afterFirstOfNumber 32 = .ok (.iconst 4, 1) := by decide +kernel
theorem dX6_afterFirstOfNumber_33 : decode cX6_afterFirstOfNumber 33 = .ok (.ireturn, 1) := by decide +kernel
theorem dX6_afterFirstOfTimes_0 : decode cX6_afterFirstOfTimes 0 = .ok (.iload_n 0, 1) := by decide +kernel
theorem dX6_afterFirstOfTimes_1 : decode cX6_afterFirstOfTimes 1 = .ok (.tableswitch 46 0 4 #[35, 37, 40, 40, 43], 35) := by decide +kernel
theorem dX6_afterFirstOfTimes_36 : decode cX6_afterFirstOfTimes 36 = .ok (.iconst 0, 1) := by decide +kernel
theorem dX6_afterFirstOfTimes_37 : decode cX6_afterFirstOfTimes 37 = .ok (.ireturn, 1) := by decide +kernel
theorem dX6_afterFirstOfTimes_38 : decode cX6_afterFirstOfTimes 38 = .ok (.bipush 6, 2) := by decide +kernel
theorem dX6_afterFirstOfTimes_40 : decode cX6_afterFirstOfTimes 40 = .ok (.ireturn, 1) := by decide +kernel
theorem dX6_afterFirstOfTimes_41 : decode cX6_afterFirstOfTimes 41 = .ok (.bipush 7, 2) := by decide +kernel
theorem dX6_afterFirstOfTimes_43 : decode cX6_afterFirstOfTimes 43 = .ok (.ireturn, 1) := by decide +kernel
theorem dX6_afterFirstOfTimes_44 : decode cX6_afterFirstOfTimes 44 = .ok (.bipush 8, 2) := by decide +kernel
theorem dX6_afterFirstOfTimes_46 : decode cX6_afterFirstOfTimes 46 = .ok (.ireturn, 1) := by decide +kernel
theorem dX6_afterFirstOfTimes_47 : decode cX6_afterFirstOfTimes 47 = .ok (.bipush 9, 2) := by decide +kernel
theorem dX6_afterFirstOfTimes_49 : decode cX6_afterFirstOfTimes 49 = .ok (.ireturn, 1) := by decide +kernel
set_option maxRecDepth 20000 in
theorem ggX6_numberCount_X6_timesFrom : GoodIn wsX6_numberCount wsX6_timesFrom := goodIn_r _ [7, 1, 2, 8, 9, 10, 6, 11, 12, 13] (by decide +kernel) (by decide +kernel)
set_option maxRecDepth 20000 in
theorem gX6_numberCount_X6_timesFrom : GoodIn wsX6_numberCount (wsV RX6 44 RX6 yX6_timesFrom wsX6_timesFrom) := goodIn_app (goodIn_of _ (by decide +kernel)) ggX6_numberCount_X6_timesFrom
theorem dX6_numberCount_0 : decode cX6_numberCount 0 = .ok (.iconst 0, 1) := by decide +kernel
theorem dX6_numberCount_1 : decode cX6_numberCount 1 = .ok (.istore_n 1, 1) := by decide +kernel
theorem dX6_numberCount_2 : decode cX6_numberCount 2 = .ok (.iconst 0, 1) := by decide +kernel
theorem dX6_numberCount_3 : decode cX6_numberCount 3 = .ok (.istore_n 2, 1) := by decide +kernel
theorem dX6_numberCount_4 : decode cX6_numberCount 4 = .ok (.iload_n 2, 1) := by decide +kernel
theorem dX6_numberCount_5 : decode cX6_numberCount 5 = .ok (.aload_n 0, 1) := by decide +kernel
theorem dX6_numberCount_6 : decode cX6_numberCount 6 = .ok (.getfield 15, 3) := by decide +kernel
theorem dX6_numberCount_9 : decode cX6_numberCount 9 = .ok (.if_icmp .ge 34, 3) := by decide +kernel
theorem dX6_numberCount_12 : decode cX6_numberCount 12 = .ok (.iload_n 2, 1) := by decide +kernel
theorem dX6_numberCount_13 : decode cX6_numberCount 13 = .ok (.ifCond .eq 16, 3) := by decide +kernel
theorem dX6_numberCount_16 : decode cX6_numberCount 16 = .ok (.aload_n 0, 1) := by decide +kernel
theorem dX6_numberCount_17 : decode cX6_numberCount 17 = .ok (.getfield 9, 3) := by decide +kernel
theorem dX6_numberCount_20 : decode cX6_numberCount 20 = .ok (.iload_n 2, 1) := by decide +kernel
theorem dX6_numberCount_21 : decode cX6_numberCount 21 = .ok (.iconst 1, 1) := by decide +kernel
theorem dX6_numberCount_22 : decode cX6_numberCount 22 = .ok (.isub, 1) := by decide +kernel
theorem dX6_numberCount_23 : decode cX6_numberCount 23 = .ok (.iaload, 1) := by decide +kernel
theorem dX6_numberCount_24 : decode cX6_numberCount 24 = .ok (.bipush 44, 2) := by decide +kernel
theorem dX6_numberCount_26 : decode cX6_numberCount 26 = .ok (.if_icmp .ne 11, 3) := by decide +kernel
theorem dX6_numberCount_29 : decode cX6_numberCount 29 = .ok (.iload_n 1, 1) := by decide +kernel
theorem dX6_numberCount_30 : decode cX6_numberCount 30 = .ok (.aload_n 0, 1) := by decide +kernel
theorem dX6_numberCount_31 : decode cX6_numberCount 31 = .ok (.iload_n 2, 1) := by decide +kernel
theorem dX6_numberCount_32 : decode cX6_numberCount 32 = .ok (.invokevirtual 44, 3) := by decide +kernel
theorem dX6_numberCount_35 : decode cX6_numberCount 35 = .ok (.iadd, 1) := by decide +kernel
theorem dX6_numberCount_36 : decode cX6_numberCount 36 = .ok (.istore_n 1, 1) := by decide +kernel
theorem dX6_numberCount_37 : decode cX6_numberCount 37 = .ok (.iinc 2 1, 3) := by decide +kernel
theorem dX6_numberCount_40 : decode cX6_numberCount 40 = .ok (.goto (-36), 3) := by decide +kernel
theorem dX6_numberCount_43 : decode cX6_numberCount 43 = .ok (.iload_n 1, 1) := by decide +kernel
theorem dX6_numberCount_44 : decode cX6_numberCount 44 = .ok (.ireturn, 1) := by decide +kernel
set_option maxRecDepth 20000 in
theorem ggX6_writeTo_X6_valueFrom : GoodIn wsX6_writeTo wsX6_valueFrom := goodIn_r _ [8, 2, 3, 22, 23] (by decide +kernel) (by decide +kernel)
set_option maxRecDepth 20000 in
theorem gX6_writeTo_X6_valueFrom : GoodIn wsX6_writeTo (wsV RX6 52 RX6 yX6_valueFrom wsX6_valueFrom) := goodIn_app (goodIn_of _ (by decide +kernel)) ggX6_writeTo_X6_valueFrom
set_option maxRecDepth 20000 in
theorem ggX6_writeTo_X6_timesFrom : GoodIn wsX6_writeTo wsX6_timesFrom := goodIn_r _ [12, 2, 3, 4, 5, 6, 7, 8, 22, 23] (by decide +kernel) (by decide +kernel)
set_option maxRecDepth 20000 in
theorem gX6_writeTo_X6_timesFrom : GoodIn wsX6_writeTo (wsV RX6 44 RX6 yX6_timesFrom wsX6_timesFrom) := goodIn_app (goodIn_of _ (by decide +kernel)) ggX6_writeTo_X6_timesFrom
set_option maxRecDepth 20000 in
theorem ggX6_writeTo_X7_add : GoodIn wsX6_writeTo wsX7_add := goodIn_r _ [17, 18, 19, 20, 21] (by decide +kernel) (by decide +kernel)
set_option maxRecDepth 20000 in
theorem gX6_writeTo_X7_add : GoodIn wsX6_writeTo (wsV RX6 55 RX7 yX7_add wsX7_add) := goodIn_app (goodIn_of _ (by decide +kernel)) ggX6_writeTo_X7_add
theorem dX6_writeTo_0 : decode cX6_writeTo 0 = .ok (.aload_n 1, 1) := by decide +kernel
theorem dX6_writeTo_1 : decode cX6_writeTo 1 = .ok (.iconst 0, 1) := by decide +kernel
theorem dX6_writeTo_2 : decode cX6_writeTo 2 = .ok (.putfield 47, 3) := by decide +kernel
theorem dX6_writeTo_5 : decode cX6_writeTo 5 = .ok (.iconst 0, 1) := by decide +kernel
theorem dX6_writeTo_6 : decode cX6_writeTo 6 = .ok (.istore_n 2, 1) := by decide +kernel
theorem dX6_writeTo_7 : decode cX6_writeTo 7 = .ok (.iload_n 2, 1) := by decide +kernel
theorem dX6_writeTo_8 : decode cX6_writeTo 8 = .ok (.aload_n 0, 1) := by decide +kernel
theorem dX6_writeTo_9 : decode cX6_writeTo 9 = .ok (.getfield 15, 3) := by decide +kernel
theorem dX6_writeTo_12 : decode cX6_writeTo 12 = .ok (.if_icmp .ge 60, 3) := by decide +kernel
theorem dX6_writeTo_15 : decode cX6_writeTo 15 = .ok (.iload_n 2, 1) := by decide +kernel
theorem dX6_writeTo_16 : decode cX6_writeTo 16 = .ok (.ifCond .eq 16, 3) := by decide +kernel
theorem dX6_writeTo_19 : decode cX6_writeTo 19 = .ok (.aload_n 0, 1) := by decide +kernel
theorem dX6_writeTo_20 : decode cX6_writeTo 20 = .ok (.getfield 9, 3) := by decide +kernel
theorem dX6_writeTo_23 : decode cX6_writeTo 23 = .ok (.iload_n 2, 1) := by decide +kernel
theorem dX6_writeTo_24 : decode cX6_writeTo 24 = .ok (.iconst 1, 1) := by decide +kernel
theorem dX6_writeTo_25 : decode cX6_writeTo 25 = .ok (.isub, 1) := by decide +kernel
theorem dX6_writeTo_26 : decode cX6_writeTo 26 = .ok (.iaload, 1) := by decide +kernel
theorem dX6_writeTo_27 : decode cX6_writeTo 27 = .ok (.bipush 44, 2) := by decide +kernel
theorem dX6_writeTo_29 : decode cX6_writeTo 29 = .ok (.if_icmp .ne 37, 3) := by decide +kernel
theorem dX6_writeTo_32 : decode cX6_writeTo 32 = .ok (.aload_n 0, 1) := by decide +kernel
theorem dX6_writeTo_33 : decode cX6_writeTo 33 = .ok (.iload_n 2, 1) := by decide +kernel
theorem dX6_writeTo_34 : decode cX6_writeTo 34 = .ok (.invokevirtual 52, 3) := by decide +kernel
theorem dX6_writeTo_37 : decode cX6_writeTo 37 = .ok (.istore_n 3, 1) := by decide +kernel
theorem dX6_writeTo_38 : decode cX6_writeTo 38 = .ok (.aload_n 0, 1) := by decide +kernel
theorem dX6_writeTo_39 : decode cX6_writeTo 39 = .ok (.iload_n 2, 1) := by decide +kernel
theorem dX6_writeTo_40 : decode cX6_writeTo 40 = .ok (.invokevirtual 44, 3) := by decide +kernel
theorem dX6_writeTo_43 : decode cX6_writeTo 43 = .ok (.istore 4, 2) := by decide +kernel
theorem dX6_writeTo_45 : decode cX6_writeTo 45 = .ok (.iconst 0, 1) := by decide +kernel
theorem dX6_writeTo_46 : decode cX6_writeTo 46 = .ok (.istore 5, 2) := by decide +kernel
theorem dX6_writeTo_48 : decode cX6_writeTo 48 = .ok (.iload 5, 2) := by decide +kernel
theorem dX6_writeTo_50 : decode cX6_writeTo 50 = .ok (.iload 4, 2) := by decide +kernel
theorem dX6_writeTo_52 : decode cX6_writeTo 52 = .ok (.if_icmp .ge 14, 3) := by decide +kernel
theorem dX6_writeTo_55 : decode cX6_writeTo 55 = .ok (.aload_n 1, 1) := by decide +kernel
theorem dX6_writeTo_56 : decode cX6_writeTo 56 = .ok (.iload_n 3, 1) := by decide +kernel
theorem dX6_writeTo_57 : decode cX6_writeTo 57 = .ok (.invokevirtual 55, 3) := by decide +kernel
theorem dX6_writeTo_60 : decode cX6_writeTo 60 = .ok (.iinc 5 1, 3) := by decide +kernel
theorem dX6_writeTo_63 : decode cX6_writeTo 63 = .ok (.goto (-15), 3) := by decide +kernel
theorem dX6_writeTo_66 : decode cX6_writeTo 66 = .ok (.iinc 2 1, 3) := by decide +kernel
theorem dX6_writeTo_69 : decode cX6_writeTo 69 = .ok (.goto (-62), 3) := by decide +kernel
theorem dX6_writeTo_72 : decode cX6_writeTo 72 = .ok (.return_, 1) := by decide +kernel
set_option maxRecDepth 20000 in
theorem ggX6_timesFrom_X6_valueFrom : GoodIn wsX6_timesFrom wsX6_valueFrom := goodIn_r _ [7, 1, 2, 8, 9] (by decide +kernel) (by decide +kernel)
set_option maxRecDepth 20000 in
theorem gX6_timesFrom_X6_valueFrom : GoodIn wsX6_timesFrom (wsV RX6 52 RX6 yX6_valueFrom wsX6_valueFrom) := goodIn_app (goodIn_of _ (by decide +kernel)) ggX6_timesFrom_X6_valueFrom
theorem dX6_timesFrom_0 : decode cX6_timesFrom 0 = .ok (.iload_n 1, 1) := by decide +kernel
theorem dX6_timesFrom_1 : decode cX6_timesFrom 1 = .ok (.istore_n 2, 1) := by decide +kernel
theorem dX6_timesFrom_2 : decode cX6_timesFrom 2 = .ok (.iload_n 2, 1) := by decide +kernel
theorem dX6_timesFrom_3 : decode cX6_timesFrom 3 = .ok (.aload_n 0, 1) := by decide +kernel
theorem dX6_timesFrom_4 : decode cX6_timesFrom 4 = .ok (.getfield 15, 3) := by decide +kernel
theorem dX6_timesFrom_7 : decode cX6_timesFrom 7 = .ok (.if_icmp .ge 39, 3) := by decide +kernel
theorem dX6_timesFrom_10 : decode cX6_timesFrom 10 = .ok (.aload_n 0, 1) := by decide +kernel
theorem dX6_timesFrom_11 : decode cX6_timesFrom 11 = .ok (.getfield 9, 3) := by decide +kernel
theorem dX6_timesFrom_14 : decode cX6_timesFrom 14 = .ok (.iload_n 2, 1) := by decide +kernel
theorem dX6_timesFrom_15 : decode cX6_timesFrom 15 = .ok (.iaload, 1) := by decide +kernel
theorem dX6_timesFrom_16 : decode cX6_timesFrom 16 = .ok (.bipush 44, 2) := by decide +kernel
theorem dX6_timesFrom_18 : decode cX6_timesFrom 18 = .ok (.if_icmp .eq 28, 3) := by decide +kernel
theorem dX6_timesFrom_21 : decode cX6_timesFrom 21 = .ok (.aload_n 0, 1) := by decide +kernel
theorem dX6_timesFrom_22 : decode cX6_timesFrom 22 = .ok (.getfield 9, 3) := by decide +kernel
theorem dX6_timesFrom_25 : decode cX6_timesFrom 25 = .ok (.iload_n 2, 1) := by decide +kernel
theorem dX6_timesFrom_26 : decode cX6_timesFrom 26 = .ok (.iaload, 1) := by decide +kernel
theorem dX6_timesFrom_27 : decode cX6_timesFrom 27 = .ok (.bipush 42, 2) := by decide +kernel
theorem dX6_timesFrom_29 : decode cX6_timesFrom 29 = .ok (.if_icmp .ne 11, 3) := by decide +kernel
theorem dX6_timesFrom_32 : decode cX6_timesFrom 32 = .ok (.aload_n 0, 1) := by decide +kernel
theorem dX6_timesFrom_33 : decode cX6_timesFrom 33 = .ok (.iload_n 2, 1) := by decide +kernel
theorem dX6_timesFrom_34 : decode cX6_timesFrom 34 = .ok (.iconst 1, 1) := by decide +kernel
theorem dX6_timesFrom_35 : decode cX6_timesFrom 35 = .ok (.iadd, 1) := by decide +kernel
theorem dX6_timesFrom_36 : decode cX6_timesFrom 36 = .ok (.invokevirtual 52, 3) := by decide +kernel
theorem dX6_timesFrom_39 : decode cX6_timesFrom 39 = .ok (.ireturn, 1) := by decide +kernel
theorem dX6_timesFrom_40 : decode cX6_timesFrom 40 = .ok (.iinc 2 1, 3) := by decide +kernel
theorem dX6_timesFrom_43 : decode cX6_timesFrom 43 = .ok (.goto (-41), 3) := by decide +kernel
theorem dX6_timesFrom_46 : decode cX6_timesFrom 46 = .ok (.iconst 1, 1) := by decide +kernel
theorem dX6_timesFrom_47 : decode cX6_timesFrom 47 = .ok (.ireturn, 1) := by decide +kernel
theorem dX6_valueFrom_0 : decode cX6_valueFrom 0 = .ok (.iconst 0, 1) := by decide +kernel
theorem dX6_valueFrom_1 : decode cX6_valueFrom 1 = .ok (.istore_n 2, 1) := by decide +kernel
theorem dX6_valueFrom_2 : decode cX6_valueFrom 2 = .ok (.iload_n 1, 1) := by decide +kernel
theorem dX6_valueFrom_3 : decode cX6_valueFrom 3 = .ok (.istore_n 3, 1) := by decide +kernel
theorem dX6_valueFrom_4 : decode cX6_valueFrom 4 = .ok (.iload_n 3, 1) := by decide +kernel
theorem dX6_valueFrom_5 : decode cX6_valueFrom 5 = .ok (.aload_n 0, 1) := by decide +kernel
theorem dX6_valueFrom_6 : decode cX6_valueFrom 6 = .ok (.getfield 15, 3) := by decide +kernel
theorem dX6_valueFrom_9 : decode cX6_valueFrom 9 = .ok (.if_icmp .ge 46, 3) := by decide +kernel
theorem dX6_valueFrom_12 : decode cX6_valueFrom 12 = .ok (.aload_n 0, 1) := by decide +kernel
theorem dX6_valueFrom_13 : decode cX6_valueFrom 13 = .ok (.getfield 9, 3) := by decide +kernel
theorem dX6_valueFrom_16 : decode cX6_valueFrom 16 = .ok (.iload_n 3, 1) := by decide +kernel
theorem dX6_valueFrom_17 : decode cX6_valueFrom 17 = .ok (.iaload, 1) := by decide +kernel
theorem dX6_valueFrom_18 : decode cX6_valueFrom 18 = .ok (.bipush 48, 2) := by decide +kernel
theorem dX6_valueFrom_20 : decode cX6_valueFrom 20 = .ok (.if_icmp .lt 35, 3) := by decide +kernel
theorem dX6_valueFrom_23 : decode cX6_valueFrom 23 = .ok (.aload_n 0, 1) := by decide +kernel
theorem dX6_valueFrom_24 : decode cX6_valueFrom 24 = .ok (.getfield 9, 3) := by decide +kernel
theorem dX6_valueFrom_27 : decode cX6_valueFrom 27 = .ok (.iload_n 3, 1) := by decide +kernel
theorem dX6_valueFrom_28 : decode cX6_valueFrom 28 = .ok (.iaload, 1) := by decide +kernel
theorem dX6_valueFrom_29 : decode cX6_valueFrom 29 = .ok (.bipush 57, 2) := by decide +kernel
theorem dX6_valueFrom_31 : decode cX6_valueFrom 31 = .ok (.if_icmp .gt 24, 3) := by decide +kernel
theorem dX6_valueFrom_34 : decode cX6_valueFrom 34 = .ok (.bipush 10, 2) := by decide +kernel
theorem dX6_valueFrom_36 : decode cX6_valueFrom 36 = .ok (.iload_n 2, 1) := by decide +kernel
theorem dX6_valueFrom_37 : decode cX6_valueFrom 37 = .ok (.imul, 1) := by decide +kernel
theorem dX6_valueFrom_38 : decode cX6_valueFrom 38 = .ok (.aload_n 0, 1) := by decide +kernel
theorem dX6_valueFrom_39 : decode cX6_valueFrom 39 = .ok (.getfield 9, 3) := by decide +kernel
theorem dX6_valueFrom_42 : decode cX6_valueFrom 42 = .ok (.iload_n 3, 1) := by decide +kernel
theorem dX6_valueFrom_43 : decode cX6_valueFrom 43 = .ok (.iaload, 1) := by decide +kernel
theorem dX6_valueFrom_44 : decode cX6_valueFrom 44 = .ok (.iadd, 1) := by decide +kernel
theorem dX6_valueFrom_45 : decode cX6_valueFrom 45 = .ok (.bipush 48, 2) := by decide +kernel
theorem dX6_valueFrom_47 : decode cX6_valueFrom 47 = .ok (.isub, 1) := by decide +kernel
theorem dX6_valueFrom_48 : decode cX6_valueFrom 48 = .ok (.istore_n 2, 1) := by decide +kernel
theorem dX6_valueFrom_49 : decode cX6_valueFrom 49 = .ok (.iinc 3 1, 3) := by decide +kernel
theorem dX6_valueFrom_52 : decode cX6_valueFrom 52 = .ok (.goto (-48), 3) := by decide +kernel
theorem dX6_valueFrom_55 : decode cX6_valueFrom 55 = .ok (.iload_n 2, 1) := by decide +kernel
theorem dX6_valueFrom_56 : decode cX6_valueFrom 56 = .ok (.ireturn, 1) := by decide +kernel
theorem dX7_init_0 : decode cX7_init 0 = .ok (.aload_n 0, 1) := by decide +kernel
theorem dX7_init_1 : decode cX7_init 1 = .ok (.invokespecial 3, 3) := by decide +kernel
theorem dX7_init_4 : decode cX7_init 4 = .ok (.aload_n 0, 1) := by decide +kernel
theorem dX7_init_5 : decode cX7_init 5 = .ok (.bipush 48, 2) := by decide +kernel
theorem dX7_init_7 : decode cX7_init 7 = .ok (.newarray .int, 2) := by decide +kernel
theorem dX7_init_9 : decode cX7_init 9 = .ok (.putfield 9, 3) := by decide +kernel
theorem dX7_init_12 : decode cX7_init 12 = .ok (.aload_n 0, 1) := by decide +kernel
theorem dX7_init_13 : decode cX7_init 13 = .ok (.iconst 0, 1) := by decide +kernel
theorem dX7_init_14 : decode cX7_init 14 = .ok (.putfield 15, 3) := by decide +kernel
theorem dX7_init_17 : decode cX7_init 17 = .ok (.return_, 1) := by decide +kernel
theorem dX7_copyFrom_0 : decode cX7_copyFrom 0 = .ok (.aload_n 1, 1) := by decide +kernel
theorem dX7_copyFrom_1 : decode cX7_copyFrom 1 = .ok (.getfield 9, 3) := by decide +kernel
theorem dX7_copyFrom_4 : decode cX7_copyFrom 4 = .ok (.iconst 0, 1) := by decide +kernel
theorem dX7_copyFrom_5 : decode cX7_copyFrom 5 = .ok (.aload_n 0, 1) := by decide +kernel
theorem dX7_copyFrom_6 : decode cX7_copyFrom 6 = .ok (.getfield 9, 3) := by decide +kernel
theorem dX7_copyFrom_9 : decode cX7_copyFrom 9 = .ok (.iconst 0, 1) := by decide +kernel
theorem dX7_copyFrom_10 : decode cX7_copyFrom 10 = .ok (.bipush 48, 2) := by decide +kernel
theorem dX7_copyFrom_12 : decode cX7_copyFrom 12 = .ok (.invokestatic 19, 3) := by decide +kernel
theorem dX7_copyFrom_15 : decode cX7_copyFrom 15 = .ok (.aload_n 0, 1) := by decide +kernel
theorem dX7_copyFrom_16 : decode cX7_copyFrom 16 = .ok (.aload_n 1, 1) := by decide +kernel
theorem dX7_copyFrom_17 : decode cX7_copyFrom 17 = .ok (.getfield 15, 3) := by decide +kernel
theorem dX7_copyFrom_20 : decode cX7_copyFrom 20 = .ok (.putfield 15, 3) := by decide +kernel
theorem dX7_copyFrom_23 : decode cX7_copyFrom 23 = .ok (.return_, 1) := by decide +kernel
theorem dX7_add_0 : decode cX7_add 0 = .ok (.aload_n 0, 1) := by decide +kernel
theorem dX7_add_1 : decode cX7_add 1 = .ok (.getfield 15, 3) := by decide +kernel
theorem dX7_add_4 : decode cX7_add 4 = .ok (.bipush 48, 2) := by decide +kernel
theorem dX7_add_6 : decode cX7_add 6 = .ok (.if_icmp .ge 23, 3) := by decide +kernel
theorem dX7_add_9 : decode cX7_add 9 = .ok (.aload_n 0, 1) := by decide +kernel
theorem dX7_add_10 : decode cX7_add 10 = .ok (.getfield 9, 3) := by decide +kernel
theorem dX7_add_13 : decode cX7_add 13 = .ok (.aload_n 0, 1) := by decide +kernel
theorem dX7_add_14 : decode cX7_add 14 = .ok (.getfield 15, 3) := by decide +kernel
theorem dX7_add_17 : decode cX7_add 17 = .ok (.iload_n 1, 1) := by decide +kernel
theorem dX7_add_18 : decode cX7_add 18 = .ok (.iastore, 1) := by decide +kernel
theorem dX7_add_19 : decode cX7_add 19 = .ok (.aload_n 0, 1) := by decide +kernel
theorem dX7_add_20 : decode cX7_add 20 = .ok (.dup, 1) := by decide +kernel
theorem dX7_add_21 : decode cX7_add 21 = .ok (.getfield 15, 3) := by decide +kernel
theorem dX7_add_24 : decode cX7_add 24 = .ok (.iconst 1, 1) := by decide +kernel
theorem dX7_add_25 : decode cX7_add 25 = .ok (.iadd, 1) := by decide +kernel
theorem dX7_add_26 : decode cX7_add 26 = .ok (.putfield 15, 3) := by decide +kernel
theorem dX7_add_29 : decode cX7_add 29 = .ok (.return_, 1) := by decide +kernel
theorem dX7_at_0 : decode cX7_at 0 = .ok (.aload_n 0, 1) := by decide +kernel
theorem dX7_at_1 : decode cX7_at 1 = .ok (.getfield 15, 3) := by decide +kernel
theorem dX7_at_4 : decode cX7_at 4 = .ok (.ifCond .le 21, 3) := by decide +kernel
theorem dX7_at_7 : decode cX7_at 7 = .ok (.iload_n 1, 1) := by decide +kernel
theorem dX7_at_8 : decode cX7_at 8 = .ok (.ifCond .lt 17, 3) := by decide +kernel
theorem dX7_at_11 : decode cX7_at 11 = .ok (.aload_n 0, 1) := by decide +kernel
theorem dX7_at_12 : decode cX7_at 12 = .ok (.getfield 9, 3) := by decide +kernel
theorem dX7_at_15 : decode cX7_at 15 = .ok (.iload_n 1, 1) := by decide +kernel
theorem dX7_at_16 : decode cX7_at 16 = .ok (.aload_n 0, 1) := by decide +kernel
theorem dX7_at_17 : decode cX7_at 17 = .ok (.getfield 15, 3) := by decide +kernel
theorem dX7_at_20 : decode cX7_at 20 = .ok (.irem, 1) := by decide +kernel
theorem dX7_at_21 : decode cX7_at 21 = .ok (.iaload, 1) := by decide +kernel
theorem dX7_at_22 : decode cX7_at 22 = .ok (.goto 5, 3) := by decide +kernel
theorem dX7_at_25 : decode cX7_at 25 = .ok (.bipush 8, 2) := by decide +kernel
theorem dX7_at_27 : decode cX7_at 27 = .ok (.ireturn, 1) := by decide +kernel
theorem dX7_sum_0 : decode cX7_sum 0 = .ok (.iconst 0, 1) := by decide +kernel
theorem dX7_sum_1 : decode cX7_sum 1 = .ok (.istore_n 1, 1) := by decide +kernel
theorem dX7_sum_2 : decode cX7_sum 2 = .ok (.iconst 0, 1) := by decide +kernel
theorem dX7_sum_3 : decode cX7_sum 3 = .ok (.istore_n 2, 1) := by decide +kernel
theorem dX7_sum_4 : decode cX7_sum 4 = .ok (.iload_n 2, 1) := by decide +kernel
theorem dX7_sum_5 : decode cX7_sum 5 = .ok (.aload_n 0, 1) := by decide +kernel
theorem dX7_sum_6 : decode cX7_sum 6 = .ok (.getfield 15, 3) := by decide +kernel
theorem dX7_sum_9 : decode cX7_sum 9 = .ok (.if_icmp .ge 18, 3) := by decide +kernel
theorem dX7_sum_12 : decode cX7_sum 12 = .ok (.iload_n 1, 1) := by decide +kernel
theorem dX7_sum_13 : decode cX7_sum 13 = .ok (.aload_n 0, 1) := by decide +kernel
theorem dX7_sum_14 : decode cX7_sum 14 = .ok (.getfield 9, 3) := by decide +kernel
theorem dX7_sum_17 : decode cX7_sum 17 = .ok (.iload_n 2, 1) := by decide +kernel
theorem dX7_sum_18 : decode cX7_sum 18 = .ok (.iaload, 1) := by decide +kernel
theorem dX7_sum_19 : decode cX7_sum 19 = .ok (.iadd, 1) := by decide +kernel
theorem dX7_sum_20 : decode cX7_sum 20 = .ok (.istore_n 1, 1) := by decide +kernel
theorem dX7_sum_21 : decode cX7_sum 21 = .ok (.iinc 2 1, 3) := by decide +kernel
theorem dX7_sum_24 : decode cX7_sum 24 = .ok (.goto (-20), 3) := by decide +kernel
theorem dX7_sum_27 : decode cX7_sum 27 = .ok (.iload_n 1, 1) := by decide +kernel
theorem dX7_sum_28 : decode cX7_sum 28 = .ok (.ireturn, 1) := by decide +kernel
set_option maxRecDepth 20000 in
theorem ggX8_init_X2_init : GoodIn wsX8_init wsX2_init := goodIn_r _ [18, 19, 2, 3, 20, 21, 22, 23, 24, 25, 26, 27, 28, 29, 30, 31, 32, 33, 34, 35, 36, 37, 38, 39, 40, 41, 42, 43, 44, 45, 46, 47, 48, 49, 50, 51, 52, 53, 54, 55, 56, 57, 58, 59, 60, 61, 62, 63, 64, 65, 66, 67, 68, 69, 70, 71, 72, 73, 74, 75, 76, 77, 78, 79, 80, 81, 82, 83, 84, 85, 91, 92, 93, 94, 95, 96, 97, 98, 99, 100, 109, 110, 111, 112, 113, 114, 115, 116, 117, 118, 119, 120, 121, 122, 123, 124, 125, 126, 127, 128, 129, 130] (by decide +kernel) (by decide +kernel)
set_option maxRecDepth 20000 in
theorem gX8_init_X2_init : GoodIn wsX8_init (wsX2_init) := ggX8_init_X2_init
set_option maxRecDepth 20000 in
theorem ggX8_init_X6_init : GoodIn wsX8_init wsX6_init := goodIn_r _ [87, 88, 2, 3, 43, 89, 90, 107, 108] (by decide +kernel) (by decide +kernel)
set_option maxRecDepth 20000 in
theorem gX8_init_X6_init_n32 : GoodIn wsX8_init (wsX6_init) := ggX8_init_X6_init
