theorem dX5_copyFrom_18 : decode cX5_copyFrom 18 = .ok (.getfield 18, 3) := by decide +kernel
theorem dX5_copyFrom_21 : decode cX5_copyFrom 21 = .ok (.putfield 18, 3) := by decide +kernel
theorem dX5_copyFrom_24 : decode cX5_copyFrom 24 = .ok (.aload_n 0, 1) := by decide +kernel
theorem dX5_copyFrom_25 : decode cX5_copyFrom 25 = .ok (.aload_n 1, 1) := by decide +kernel
theorem dX5_copyFrom_26 : decode cX5_copyFrom 26 = .ok (.getfield 21, 3) := by decide +kernel
theorem dX5_copyFrom_29 : decode cX5_copyFrom 29 = .ok (.putfield 21, 3) := by decide +kernel
theorem dX5_copyFrom_32 : decode cX5_copyFrom 32 = .ok (.aload_n 0, 1) := by decide +kernel
theorem dX5_copyFrom_33 : decode cX5_copyFrom 33 = .ok (.aload_n 1, 1) := by decide +kernel
theorem dX5_copyFrom_34 : decode cX5_copyFrom 34 = .ok (.getfield 24, 3) := by decide +kernel
theorem dX5_copyFrom_37 : decode cX5_copyFrom 37 = .ok (.putfield 24, 3) := by decide +kernel
theorem dX5_copyFrom_40 : decode cX5_copyFrom 40 = .ok (.aload_n 0, 1) := by decide +kernel
theorem dX5_copyFrom_41 : decode cX5_copyFrom 41 = .ok (.aload_n 1, 1) := by decide +kernel
theorem dX5_copyFrom_42 : decode cX5_copyFrom 42 = .ok (.getfield 27, 3) := by decide +kernel
theorem dX5_copyFrom_45 : decode cX5_copyFrom 45 = .ok (.putfield 27, 3) := by decide +kernel
theorem dX5_copyFrom_48 : decode cX5_copyFrom 48 = .ok (.aload_n 0, 1) := by decide +kernel
theorem dX5_copyFrom_49 : decode cX5_copyFrom 49 = .ok (.aload_n 1, 1) := by decide +kernel
theorem dX5_copyFrom_50 : decode cX5_copyFrom 50 = .ok (.getfield 30, 3) := by decide +kernel
theorem dX5_copyFrom_53 : decode cX5_copyFrom 53 = .ok (.putfield 30, 3) := by decide +kernel
theorem dX5_copyFrom_56 : decode cX5_copyFrom 56 = .ok (.return_, 1) := by decide +kernel
theorem dX5_limit_0 : decode cX5_limit 0 = .ok (.iload_n 1, 1) := by decide +kernel
theorem dX5_limit_1 : decode cX5_limit 1 = .ok (.aload_n 0, 1) := by decide +kernel
theorem dX5_limit_2 : decode cX5_limit 2 = .ok (.getfield 15, 3) := by decide +kernel
theorem dX5_limit_5 : decode cX5_limit 5 = .ok (.bipush 25, 2) := by decide +kernel
theorem dX5_limit_7 : decode cX5_limit 7 = .ok (.idiv, 1) := by decide +kernel
theorem dX5_limit_8 : decode cX5_limit 8 = .ok (.isub, 1) := by decide +kernel
theorem dX5_limit_9 : decode cX5_limit 9 = .ok (.ireturn, 1) := by decide +kernel
theorem dX5_bladeWeight_0 : decode cX5_bladeWeight 0 = .ok (.aload_n 0, 1) := by decide +kernel
theorem dX5_bladeWeight_1 : decode cX5_bladeWeight 1 = .ok (.getfield 15, 3) := by decide +kernel
theorem dX5_bladeWeight_4 : decode cX5_bladeWeight 4 = .ok (.bipush 10, 2) := by decide +kernel
theorem dX5_bladeWeight_6 : decode cX5_bladeWeight 6 = .ok (.idiv, 1) := by decide +kernel
theorem dX5_bladeWeight_7 : decode cX5_bladeWeight 7 = .ok (.ireturn, 1) := by decide +kernel
theorem dX5_fullPower_0 : decode cX5_fullPower 0 = .ok (.iload_n 1, 1) := by decide +kernel
theorem dX5_fullPower_1 : decode cX5_fullPower 1 = .ok (.iconst 3, 1) := by decide +kernel
theorem dX5_fullPower_2 : decode cX5_fullPower 2 = .ok (.if_icmp .lt 9, 3) := by decide +kernel
theorem dX5_fullPower_5 : decode cX5_fullPower 5 = .ok (.iload_n 1, 1) := by decide +kernel
theorem dX5_fullPower_6 : decode cX5_fullPower 6 = .ok (.bipush 25, 2) := by decide +kernel
theorem dX5_fullPower_8 : decode cX5_fullPower 8 = .ok (.if_icmp .le 7, 3) := by decide +kernel
theorem dX5_fullPower_11 : decode cX5_fullPower 11 = .ok (.iconst 0, 1) := by decide +kernel
theorem dX5_fullPower_12 : decode cX5_fullPower 12 = .ok (.goto 17, 3) := by decide +kernel
theorem dX5_fullPower_15 : decode cX5_fullPower 15 = .ok (.aload_n 0, 1) := by decide +kernel
theorem dX5_fullPower_16 : decode cX5_fullPower 16 = .ok (.getfield 18, 3) := by decide +kernel
theorem dX5_fullPower_19 : decode cX5_fullPower 19 = .ok (.iload_n 1, 1) := by decide +kernel
theorem dX5_fullPower_20 : decode cX5_fullPower 20 = .ok (.bipush 12, 2) := by decide +kernel
theorem dX5_fullPower_22 : decode cX5_fullPower 22 = .ok (.invokestatic 33, 3) := by decide +kernel
theorem dX5_fullPower_25 : decode cX5_fullPower 25 = .ok (.imul, 1) := by decide +kernel
theorem dX5_fullPower_26 : decode cX5_fullPower 26 = .ok (.bipush 12, 2) := by decide +kernel
theorem dX5_fullPower_28 : decode cX5_fullPower 28 = .ok (.idiv, 1) := by decide +kernel
theorem dX5_fullPower_29 : decode cX5_fullPower 29 = .ok (.ireturn, 1) := by decide +kernel
theorem dX5_growOlder_0 : decode cX5_growOlder 0 = .ok (.aload_n 0, 1) := by decide +kernel
theorem dX5_growOlder_1 : decode cX5_growOlder 1 = .ok (.getfield 21, 3) := by decide +kernel
theorem dX5_growOlder_4 : decode cX5_growOlder 4 = .ok (.ifCond .eq 11, 3) := by decide +kernel
theorem dX5_growOlder_7 : decode cX5_growOlder 7 = .ok (.aload_n 0, 1) := by decide +kernel
theorem dX5_growOlder_8 : decode cX5_growOlder 8 = .ok (.getfield 21, 3) := by decide +kernel
theorem dX5_growOlder_11 : decode cX5_growOlder 11 = .ok (.iconst 4, 1) := by decide +kernel
theorem dX5_growOlder_12 : decode cX5_growOlder 12 = .ok (.if_icmp .ne 4, 3) := by decide +kernel
theorem dX5_growOlder_15 : decode cX5_growOlder 15 = .ok (.return_, 1) := by decide +kernel
theorem dX5_growOlder_16 : decode cX5_growOlder 16 = .ok (.aload_n 0, 1) := by decide +kernel
theorem dX5_growOlder_17 : decode cX5_growOlder 17 = .ok (.dup, 1) := by decide +kernel
theorem dX5_growOlder_18 : decode cX5_growOlder 18 = .ok (.getfield 24, 3) := by decide +kernel
theorem dX5_growOlder_21 : decode cX5_growOlder 21 = .ok (.iconst 1, 1) := by decide +kernel
theorem dX5_growOlder_22 : decode cX5_growOlder 22 = .ok (.iadd, 1) := by decide +kernel
theorem dX5_growOlder_23 : decode cX5_growOlder 23 = .ok (.putfield 24, 3) := by decide +kernel
theorem dX5_growOlder_26 : decode cX5_growOlder 26 = .ok (.aload_n 0, 1) := by decide +kernel
theorem dX5_growOlder_27 : decode cX5_growOlder 27 = .ok (.getfield 24, 3) := by decide +kernel
theorem dX5_growOlder_30 : decode cX5_growOlder 30 = .ok (.iload_n 1, 1) := by decide +kernel
theorem dX5_growOlder_31 : decode cX5_growOlder 31 = .ok (.if_icmp .lt 18, 3) := by decide +kernel
theorem dX5_growOlder_34 : decode cX5_growOlder 34 = .ok (.aload_n 0, 1) := by decide +kernel
theorem dX5_growOlder_35 : decode cX5_growOlder 35 = .ok (.dup, 1) := by decide +kernel
theorem dX5_growOlder_36 : decode cX5_growOlder 36 = .ok (.getfield 21, 3) := by decide +kernel
theorem dX5_growOlder_39 : decode cX5_growOlder 39 = .ok (.iconst 1, 1) := by decide +kernel
theorem dX5_growOlder_40 : decode cX5_growOlder 40 = .ok (.iadd, 1) := by decide +kernel
theorem dX5_growOlder_41 : decode cX5_growOlder 41 = .ok (.putfield 21, 3) := by decide +kernel
theorem dX5_growOlder_44 : decode cX5_growOlder 44 = .ok (.aload_n 0, 1) := by decide +kernel
theorem dX5_growOlder_45 : decode cX5_growOlder 45 = .ok (.iconst 0, 1) := by decide +kernel
theorem dX5_growOlder_46 : decode cX5_growOlder 46 = .ok (.putfield 24, 3) := by decide +kernel
theorem dX5_growOlder_49 : decode cX5_growOlder 49 = .ok (.return_, 1) := by decide +kernel
theorem dX6_init_0 : decode cX6_init 0 = .ok (.aload_n 0, 1) := by decide +kernel
theorem dX6_init_1 : decode cX6_init 1 = .ok (.invokespecial 3, 3) := by decide +kernel
theorem dX6_init_4 : decode cX6_init 4 = .ok (.aload_n 0, 1) := by decide +kernel
theorem dX6_init_5 : decode cX6_init 5 = .ok (.bipush 60, 2) := by decide +kernel
theorem dX6_init_7 : decode cX6_init 7 = .ok (.newarray .int, 2) := by decide +kernel
theorem dX6_init_9 : decode cX6_init 9 = .ok (.putfield 9, 3) := by decide +kernel
theorem dX6_init_12 : decode cX6_init 12 = .ok (.aload_n 0, 1) := by decide +kernel
theorem dX6_init_13 : decode cX6_init 13 = .ok (.iconst 0, 1) := by decide +kernel
theorem dX6_init_14 : decode cX6_init 14 = .ok (.putfield 15, 3) := by decide +kernel
theorem dX6_init_17 : decode cX6_init 17 = .ok (.return_, 1) := by decide +kernel
theorem dX6_isFull_0 : decode cX6_isFull 0 = .ok (.aload_n 0, 1) := by decide +kernel
theorem dX6_isFull_1 : decode cX6_isFull 1 = .ok (.getfield 15, 3) := by decide +kernel
theorem dX6_isFull_4 : decode cX6_isFull 4 = .ok (.bipush 60, 2) := by decide +kernel
theorem dX6_isFull_6 : decode cX6_isFull 6 = .ok (.if_icmp .lt 7, 3) := by decide +kernel
theorem dX6_isFull_9 : decode cX6_isFull 9 = .ok (.iconst 1, 1) := by decide +kernel
theorem dX6_isFull_10 : decode cX6_isFull 10 = .ok (.goto 4, 3) := by decide +kernel
theorem dX6_isFull_13 : decode cX6_isFull 13 = .ok (.iconst 0, 1) := by decide +kernel
theorem dX6_isFull_14 : decode cX6_isFull 14 = .ok (.ireturn, 1) := by decide +kernel
set_option maxRecDepth 20000 in
theorem ggX6_add_X6_isFull : GoodIn wsX6_add wsX6_isFull := goodIn_r _ [7, 2, 8, 9] (by decide +kernel) (by decide +kernel)
set_option maxRecDepth 20000 in
theorem gX6_add_X6_isFull : GoodIn wsX6_add (wsV RX6 19 RX6 yX6_isFull wsX6_isFull) := goodIn_app (goodIn_of _ (by decide +kernel)) ggX6_add_X6_isFull
theorem dX6_add_0 : decode cX6_add 0 = .ok (.aload_n 0, 1) := by decide +kernel
theorem dX6_add_1 : decode cX6_add 1 = .ok (.invokevirtual 19, 3) := by decide +kernel
theorem dX6_add_4 : decode cX6_add 4 = .ok (.ifCond .ne 23, 3) := by decide +kernel
theorem dX6_add_7 : decode cX6_add 7 = .ok (.aload_n 0, 1) := by decide +kernel
theorem dX6_add_8 : decode cX6_add 8 = .ok (.getfield 9, 3) := by decide +kernel
theorem dX6_add_11 : decode cX6_add 11 = .ok (.aload_n 0, 1) := by decide +kernel
theorem dX6_add_12 : decode cX6_add 12 = .ok (.getfield 15, 3) := by decide +kernel
theorem dX6_add_15 : decode cX6_add 15 = .ok (.iload_n 1, 1) := by decide +kernel
theorem dX6_add_16 : decode cX6_add 16 = .ok (.iastore, 1) := by decide +kernel
theorem dX6_add_17 : decode cX6_add 17 = .ok (.aload_n 0, 1) := by decide +kernel
theorem dX6_add_18 : decode cX6_add 18 = .ok (.dup, 1) := by decide +kernel
theorem dX6_add_19 : decode cX6_add 19 = .ok (.getfield 15, 3) := by decide +kernel
theorem dX6_add_22 : decode cX6_add 22 = .ok (.iconst 1, 1) := by decide +kernel
theorem dX6_add_23 : decode cX6_add 23 = .ok (.iadd, 1) := by decide +kernel
theorem dX6_add_24 : decode cX6_add 24 = .ok (.putfield 15, 3) := by decide +kernel
theorem dX6_add_27 : decode cX6_add 27 = .ok (.return_, 1) := by decide +kernel
set_option maxRecDepth 20000 in
theorem ggX6_isComplete_X6_after : GoodIn wsX6_isComplete wsX6_after := goodIn_r _ [6, 7, 8, 5, 9, 10, 11, 12, 13, 14, 15, 16, 17, 18, 19, 20, 21] (by decide +kernel) (by decide +kernel)
set_option maxRecDepth 20000 in
theorem gX6_isComplete_X6_after : GoodIn wsX6_isComplete (va_wsS RX6 23 yX6_after wsX6_after) := goodIn_app (goodIn_of _ (by decide +kernel)) ggX6_isComplete_X6_after
set_option maxRecDepth 20000 in
theorem ggX6_isComplete_X6_isEndOfPart : GoodIn wsX6_isComplete wsX6_isEndOfPart := goodIn_r _ [9, 10, 11, 5, 12] (by decide +kernel) (by decide +kernel)
set_option maxRecDepth 20000 in
theorem gX6_isComplete_X6_isEndOfPart : GoodIn wsX6_isComplete (va_wsS RX6 27 yX6_isEndOfPart wsX6_isEndOfPart) := goodIn_app (goodIn_of _ (by decide +kernel)) ggX6_isComplete_X6_isEndOfPart
theorem dX6_isComplete_0 : decode cX6_isComplete 0 = .ok (.iconst 1, 1) := by decide +kernel
theorem dX6_isComplete_1 : decode cX6_isComplete 1 = .ok (.istore_n 1, 1) := by decide +kernel
theorem dX6_isComplete_2 : decode cX6_isComplete 2 = .ok (.iconst 0, 1) := by decide +kernel
theorem dX6_isComplete_3 : decode cX6_isComplete 3 = .ok (.istore_n 2, 1) := by decide +kernel
theorem dX6_isComplete_4 : decode cX6_isComplete 4 = .ok (.iload_n 2, 1) := by decide +kernel
theorem dX6_isComplete_5 : decode cX6_isComplete 5 = .ok (.aload_n 0, 1) := by decide +kernel
theorem dX6_isComplete_6 : decode cX6_isComplete 6 = .ok (.getfield 15, 3) := by decide +kernel
theorem dX6_isComplete_9 : decode cX6_isComplete 9 = .ok (.if_icmp .ge 20, 3) := by decide +kernel
theorem dX6_isComplete_12 : decode cX6_isComplete 12 = .ok (.iload_n 1, 1) := by decide +kernel
theorem dX6_isComplete_13 : decode cX6_isComplete 13 = .ok (.aload_n 0, 1) := by decide +kernel
theorem dX6_isComplete_14 : decode cX6_isComplete 14 = .ok (.getfield 9, 3) := by decide +kernel
theorem dX6_isComplete_17 : decode cX6_isComplete 17 = .ok (.iload_n 2, 1) := by decide +kernel
theorem dX6_isComplete_18 : decode cX6_isComplete 18 = .ok (.iaload, 1) := by decide +kernel
theorem dX6_isComplete_19 : decode cX6_isComplete 19 = .ok (.invokestatic 23, 3) := by decide +kernel
theorem dX6_isComplete_22 : decode cX6_isComplete 22 = .ok (.istore_n 1, 1) := by decide +kernel
theorem dX6_isComplete_23 : decode cX6_isComplete 23 = .ok (.iinc 2 1, 3) := by decide +kernel
theorem dX6_isComplete_26 : decode cX6_isComplete 26 = .ok (.goto (-22), 3) := by decide +kernel
theorem dX6_isComplete_29 : decode cX6_isComplete 29 = .ok (.iload_n 1, 1) := by decide +kernel
theorem dX6_isComplete_30 : decode cX6_isComplete 30 = .ok (.invokestatic 27, 3) := by decide +kernel
theorem dX6_isComplete_33 : decode cX6_isComplete 33 = .ok (.ireturn, 1) := by decide +kernel
set_option maxRecDepth 20000 in
theorem ggX6_isEndOfPart_X6_isNumber : GoodIn wsX6_isEndOfPart wsX6_isNumber := goodIn_r _ [4] (by decide +kernel) (by decide +kernel)
set_option maxRecDepth 20000 in
theorem gX6_isEndOfPart_X6_isNumber : GoodIn wsX6_isEndOfPart (va_wsS RX6 31 yX6_isNumber wsX6_isNumber) := goodIn_app (goodIn_of _ (by decide +kernel)) ggX6_isEndOfPart_X6_isNumber
theorem dX6_isEndOfPart_0 : decode cX6_isEndOfPart 0 = .ok (.iload_n 0, 1) := by decide +kernel
theorem dX6_isEndOfPart_1 : decode cX6_isEndOfPart 1 = .ok (.invokestatic 31, 3) := by decide +kernel
theorem dX6_isEndOfPart_4 : decode cX6_isEndOfPart 4 = .ok (.ifCond .ne 21, 3) := by decide +kernel
theorem dX6_isEndOfPart_7 : decode cX6_isEndOfPart 7 = .ok (.iload_n 0, 1) := by decide +kernel
theorem dX6_isEndOfPart_8 : decode cX6_isEndOfPart 8 = .ok (.bipush 7, 2) := by decide +kernel
theorem dX6_isEndOfPart_10 : decode cX6_isEndOfPart 10 = .ok (.if_icmp .eq 15, 3) := by decide +kernel
theorem dX6_isEndOfPart_13 : decode cX6_isEndOfPart 13 = .ok (.iload_n 0, 1) := by decide +kernel
theorem dX6_isEndOfPart_14 : decode cX6_isEndOfPart 14 = .ok (.bipush 8, 2) := by decide +kernel
theorem dX6_isEndOfPart_16 : decode cX6_isEndOfPart 16 = .ok (.if_icmp .eq 9, 3) := by decide +kernel
theorem dX6_isEndOfPart_19 : decode cX6_isEndOfPart 19 = .ok (.iload_n 0, 1) := by decide +kernel
theorem dX6_isEndOfPart_20 : decode cX6_isEndOfPart 20 = .ok (.bipush 9, 2) := by decide +kernel
theorem dX6_isEndOfPart_22 : decode cX6_isEndOfPart 22 = .ok (.if_icmp .ne 7, 3) := by decide +kernel
theorem dX6_isEndOfPart_25 : decode cX6_isEndOfPart 25 = .ok (.iconst 1, 1) := by decide +kernel
theorem dX6_isEndOfPart_26 : decode cX6_isEndOfPart 26 = .ok (.goto 4, 3) := by decide +kernel
theorem dX6_isEndOfPart_29 : decode cX6_isEndOfPart 29 = .ok (.iconst 0, 1) := by decide +kernel
theorem dX6_isEndOfPart_30 : decode cX6_isEndOfPart 30 = .ok (.ireturn, 1) := by decide +kernel
theorem dX6_isNumber_0 : decode cX6_isNumber 0 = .ok (.iload_n 0, 1) := by decide +kernel
theorem dX6_isNumber_1 : decode cX6_isNumber 1 = .ok (.iconst 2, 1) := by decide +kernel
theorem dX6_isNumber_2 : decode cX6_isNumber 2 = .ok (.if_icmp .eq 13, 3) := by decide +kernel
theorem dX6_isNumber_5 : decode cX6_isNumber 5 = .ok (.iload_n 0, 1) := by decide +kernel
theorem dX6_isNumber_6 : decode cX6_isNumber 6 = .ok (.iconst 3, 1) := by decide +kernel
theorem dX6_isNumber_7 : decode cX6_isNumber 7 = .ok (.if_icmp .eq 8, 3) := by decide +kernel
theorem dX6_isNumber_10 : decode cX6_isNumber 10 = .ok (.iload_n 0, 1) := by decide +kernel
theorem dX6_isNumber_11 : decode cX6_isNumber 11 = .ok (.iconst 4, 1) := by decide +kernel
theorem dX6_isNumber_12 : decode cX6_isNumber 12 = .ok (.if_icmp .ne 7, 3) := by decide +kernel
theorem dX6_isNumber_15 : decode cX6_isNumber 15 = .ok (.iconst 1, 1) := by decide +kernel
theorem dX6_isNumber_16 : decode cX6_isNumber 16 = .ok (.goto 4, 3) := by decide +kernel
theorem dX6_isNumber_19 : decode cX6_isNumber 19 = .ok (.iconst 0, 1) := by decide +kernel
theorem dX6_isNumber_20 : decode cX6_isNumber 20 = .ok (.ireturn, 1) := by decide +kernel
set_option maxRecDepth 20000 in
theorem ggX6_after_X6_isEndOfPart : GoodIn wsX6_after wsX6_isEndOfPart := goodIn_r _ [4, 5, 6, 3, 7] (by decide +kernel) (by decide +kernel)
set_option maxRecDepth 20000 in
theorem gX6_after_X6_isEndOfPart : GoodIn wsX6_after (va_wsS RX6 27 yX6_isEndOfPart wsX6_isEndOfPart) := goodIn_app (goodIn_of _ (by decide +kernel)) ggX6_after_X6_isEndOfPart
set_option maxRecDepth 20000 in
theorem ggX6_after_X6_isNumber : GoodIn wsX6_after wsX6_isNumber := goodIn_r _ [7] (by decide +kernel) (by decide +kernel)
set_option maxRecDepth 20000 in
theorem gX6_after_X6_isNumber : GoodIn wsX6_after (va_wsS RX6 31 yX6_isNumber wsX6_isNumber) := goodIn_app (goodIn_of _ (by decide +kernel)) ggX6_after_X6_isNumber
set_option maxRecDepth 20000 in
theorem ggX6_after_X6_afterDigit : GoodIn wsX6_after wsX6_afterDigit := goodIn_r _ [10, 11, 12, 3, 13, 14, 15, 16] (by decide +kernel) (by decide +kernel)
set_option maxRecDepth 20000 in
theorem gX6_after_X6_afterDigit : GoodIn wsX6_after (va_wsS RX6 34 yX6_afterDigit wsX6_afterDigit) := goodIn_app (goodIn_of _ (by decide +kernel)) ggX6_after_X6_afterDigit
theorem dX6_after_0 : decode cX6_after 0 = .ok (.iload_n 1, 1) := by decide +kernel
theorem dX6_after_1 : decode cX6_after 1 = .ok (.bipush 44, 2) := by decide +kernel
theorem dX6_after_3 : decode cX6_after 3 = .ok (.if_icmp .ne 16, 3) := by decide +kernel
theorem dX6_after_6 : decode cX6_after 6 = .ok (.iload_n 0, 1) := by decide +kernel
theorem dX6_after_7 : decode cX6_after 7 = .ok (.invokestatic 27, 3) := by decide +kernel
theorem dX6_after_10 : decode cX6_after 10 = .ok (.ifCond .eq 7, 3) := by decide +kernel
theorem dX6_after_13 : decode cX6_after 13 = .ok (.iconst 1, 1) := by decide +kernel
theorem dX6_after_14 : decode cX6_after 14 = .ok (.goto 4, 3) := by decide +kernel
theorem dX6_after_17 : decode cX6_after 17 = .ok (.iconst 0, 1) := by decide +kernel
theorem dX6_after_18 : decode cX6_after 18 = .ok (.ireturn, 1) := by decide +kernel
theorem dX6_after_19 : decode cX6_after 19 = .ok (.iload_n 1, 1) := by decide +kernel
theorem dX6_after_20 : decode cX6_after 20 = .ok (.bipush 42, 2) := by decide +kernel
theorem dX6_after_22 : decode cX6_after 22 = .ok (.if_icmp .ne 16, 3) := by decide +kernel
theorem dX6_after_25 : decode cX6_after 25 = .ok (.iload_n 0, 1) := by decide +kernel
theorem dX6_after_26 : decode cX6_after 26 = .ok (.invokestatic 31, 3) := by decide +kernel
theorem dX6_after_29 : decode cX6_after 29 = .ok (.ifCond .eq 7, 3) := by decide +kernel
theorem dX6_after_32 : decode cX6_after 32 = .ok (.iconst 5, 1) := by decide +kernel
theorem dX6_after_33 : decode cX6_after 33 = .ok (.goto 4, 3) := by decide +kernel
theorem dX6_after_36 : decode cX6_after 36 = .ok (.iconst 0, 1) := by decide +kernel
theorem dX6_after_37 : decode cX6_after 37 = .ok (.ireturn, 1) := by decide +kernel
theorem dX6_after_38 : decode cX6_after 38 = .ok (.iload_n 1, 1) := by decide +kernel
theorem dX6_after_39 : decode cX6_after 39 = .ok (.bipush 48, 2) := by decide +kernel
theorem dX6_after_41 : decode cX6_after 41 = .ok (.if_icmp .lt 20, 3) := by decide +kernel
theorem dX6_after_44 : decode cX6_after 44 = .ok (.iload_n 1, 1) := by decide +kernel
theorem dX6_after_45 : decode cX6_after 45 = .ok (.bipush 57, 2) := by decide +kernel
theorem dX6_after_47 : decode cX6_after 47 = .ok (.if_icmp .gt 14, 3) := by decide +kernel
theorem dX6_after_50 : decode cX6_after 50 = .ok (.iload_n 0, 1) := by decide +kernel
theorem dX6_after_51 : decode cX6_after 51 = .ok (.iload_n 1, 1) := by decide +kernel
theorem dX6_after_52 : decode cX6_after 52 = .ok (.bipush 48, 2) := by decide +kernel
theorem dX6_after_54 : decode cX6_after 54 = .ok (.isub, 1) := by decide +kernel
theorem dX6_after_55 : decode cX6_after 55 = .ok (.invokestatic 34, 3) := by decide +kernel
theorem dX6_after_58 : decode cX6_after 58 = .ok (.goto 4, 3) := by decide +kernel
theorem dX6_after_61 : decode cX6_after 61 = .ok (.iconst 0, 1) := by decide +kernel
theorem dX6_after_62 : decode cX6_after 62 = .ok (.ireturn, 1) := by decide +kernel
set_option maxRecDepth 20000 in
theorem ggX6_afterDigit_X6_afterFirstOfNumber : GoodIn wsX6_afterDigit wsX6_afterFirstOfNumber := goodIn_r _ [4] (by decide +kernel) (by decide +kernel)
set_option maxRecDepth 20000 in
theorem gX6_afterDigit_X6_afterFirstOfNumber : GoodIn wsX6_afterDigit (va_wsS RX6 37 yX6_afterFirstOfNumber wsX6_afterFirstOfNumber) := goodIn_app (goodIn_of _ (by decide +kernel)) ggX6_afterDigit_X6_afterFirstOfNumber
set_option maxRecDepth 20000 in
theorem ggX6_afterDigit_X6_afterFirstOfTimes : GoodIn wsX6_afterDigit wsX6_afterFirstOfTimes := goodIn_r _ [7] (by decide +kernel) (by decide +kernel)
set_option maxRecDepth 20000 in
theorem gX6_afterDigit_X6_afterFirstOfTimes : GoodIn wsX6_afterDigit (va_wsS RX6 41 yX6_afterFirstOfTimes wsX6_afterFirstOfTimes) := goodIn_app (goodIn_of _ (by decide +kernel)) ggX6_afterDigit_X6_afterFirstOfTimes
theorem dX6_afterDigit_0 : decode cX6_afterDigit 0 = .ok (.iload_n 0, 1) := by decide +kernel
theorem dX6_afterDigit_1 : decode cX6_afterDigit 1 = .ok (.tableswitch 85 1 8 #[47, 52, 54, 85, 64, 69, 69, 72], 47) := by decide +kernel
theorem dX6_afterDigit_48 : decode cX6_afterDigit 48 = .ok (.iload_n 1, 1) := by decide +kernel
theorem dX6_afterDigit_49 : decode cX6_afterDigit 49 = .ok (.invokestatic 37, 3) := by decide +kernel
theorem dX6_afterDigit_52 : decode cX6_afterDigit 52 = .ok (.ireturn, 1) := by decide +kernel
theorem dX6_afterDigit_53 : decode cX6_afterDigit 53 = .ok (.iconst 4, 1) := by decide +kernel
theorem dX6_afterDigit_54 : decode cX6_afterDigit 54 = .ok (.ireturn, 1) := by decide +kernel
theorem dX6_afterDigit_55 : decode cX6_afterDigit 55 = .ok (.iload_n 1, 1) := by decide +kernel
theorem dX6_afterDigit_56 : decode cX6_afterDigit 56 = .ok (.ifCond .ne 7, 3) := by decide +kernel
theorem dX6_afterDigit_59 : decode cX6_afterDigit 59 = .ok (.iconst 4, 1) := by decide +kernel
theorem dX6_afterDigit_60 : decode cX6_afterDigit 60 = .ok (.goto 4, 3) := by decide +kernel
theorem dX6_afterDigit_63 : decode cX6_afterDigit 63 = .ok (.iconst 0, 1) := by decide +kernel
theorem dX6_afterDigit_64 : decode cX6_afterDigit 64 = .ok (.ireturn, 1) := by decide +kernel
theorem dX6_afterDigit_65 : decode cX6_afterDigit 65 = .ok (.iload_n 1, 1) := by decide +kernel
theorem dX6_afterDigit_66 : decode cX6_afterDigit 66 = .ok (.invokestatic 41, 3) := by decide +kernel
theorem dX6_afterDigit_69 : decode cX6_afterDigit 69 = .ok (.ireturn, 1) := by decide +kernel
theorem dX6_afterDigit_70 : decode cX6_afterDigit 70 = .ok (.bipush 9, 2) := by decide +kernel
theorem dX6_afterDigit_72 : decode cX6_afterDigit 72 = .ok (.ireturn, 1) := by decide +kernel
theorem dX6_afterDigit_73 : decode cX6_afterDigit 73 = .ok (.iload_n 1, 1) := by decide +kernel
theorem dX6_afterDigit_74 : decode cX6_afterDigit 74 = .ok (.bipush 8, 2) := by decide +kernel
theorem dX6_afterDigit_76 : decode cX6_afterDigit 76 = .ok (.if_icmp .gt 8, 3) := by decide +kernel
theorem dX6_afterDigit_79 : decode cX6_afterDigit 79 = .ok (.bipush 9, 2) := by decide +kernel
theorem dX6_afterDigit_81 : decode cX6_afterDigit 81 = .ok (.goto 4, 3) := by decide +kernel
theorem dX6_afterDigit_84 : decode cX6_afterDigit 84 = .ok (.iconst 0, 1) := by decide +kernel
theorem dX6_afterDigit_85 : decode cX6_afterDigit 85 = .ok (.ireturn, 1) := by decide +kernel
theorem dX6_afterDigit_86 : decode cX6_afterDigit 86 = .ok (.iconst 0, 1) := by decide +kernel
theorem dX6_afterDigit_87 : decode cX6_afterDigit 87 = .ok (.ireturn, 1) := by decide +kernel
theorem dX6_afterFirstOfNumber_0 : decode cX6_afterFirstOfNumber 0 = .ok (.iload_n 0, 1) := by decide +kernel
theorem dX6_afterFirstOfNumber_1 : decode cX6_afterFirstOfNumber 1 = .ok (.tableswitch 31 1 3 #[27, 27, 29], 27) := by decide +kernel
theorem dX6_afterFirstOfNumber_28 : decode cX6_afterFirstOfNumber 28 = .ok (.iconst 2, 1) := by decide +kernel
theorem dX6_afterFirstOfNumber_29 : decode cX6_afterFirstOfNumber 29 = .ok (.ireturn, 1) := by decide +kernel
theorem dX6_afterFirstOfNumber_30 : decode cX6_afterFirstOfNumber 30 = .ok (.iconst 3, 1) := by decide +kernel
theorem dX6_afterFirstOfNumber_31 : decode cX6_afterFirstOfNumber 31 = .ok (.ireturn, 1) := by decide +kernel
theorem dX6_afterFirstOfNumber_32 : decode cX6_afterFirstOfNumber 32 = .ok (.iconst 4, 1) := by decide +kernel
theorem dX6_afterFirstOfNumber_33 : decode cX6_afterFirstOfNumber 33 = .ok (.ireturn, 1) := by decide +kernel
theorem dX6_afterFirstOfTimes_0 : decode cX6_afterFirstOfTimes 0 = .ok (.iload_n 0, 1) := by decide +kernel
theorem dX6_afterFirstOfTimes_1 : decode cX6_afterFirstOfTimes 1 = .ok (.tableswitch 46 0 4 #[35, 37, 40, 40, 43], 35) := by decide +kernel
theorem dX6_afterFirstOfTimes_36 : decode cX6_afterFirstOfTimes 36 = .ok (.iconst 0, 1) := by decide +kernel
theorem dX6_afterFirstOfTimes_37 : decode cX6_afterFirstOfTimes 37 = .ok (.ireturn, 1) := by decide +kernel
theorem dX6_afterFirstOfTimes_38 : decode cX6_afterFirstOfTimes 38 = .ok (.bipush 6, 2) := by decide +kernel
theorem dX6_afterFirstOfTimes_40 : decode cX6_afterFirstOfTimes 40 = .ok (.ireturn, 1) := by decide +kernel
theorem dX6_afterFirstOfTimes_41 : decode cX6_afterFirstOfTimes 41 = .ok (.bipush 7, 2) := by decide +kernel
theorem dX6_afterFirstOfTimes_43 : decode cX6_afterFirstOfTimes 43 = .ok (.ireturn, 1) := by decide +kernel
theorem dX6_afterFirstOfTimes_44 : decode cX6_afterFirstOfTimes 44 = .ok (.bipush 8, 2) := by decide +kernel
theorem dX6_afterFirstOfTimes_46 : decode cX6_afterFirstOfTimes 46 = .ok (.ireturn, 1) := by decide +kernel
theorem dX6_afterFirstOfTimes_47 : decode cX6_afterFirstOfTimes 47 = .ok (.bipush 9, 2) := by decide +kernel
theorem dX6_afterFirstOfTimes_49 : decode cX6_afterFirstOfTimes 49 = .ok (.ireturn, 1) := by decide +kernel
set_option maxRecDepth 20000 in
theorem ggX6_numberCount_X6_timesFrom : GoodIn wsX6_numberCount wsX6_timesFrom := goodIn_r _ [7, 1, 2, 8, 9, 10, 6, 11, 12, 13] (by decide +kernel) (by decide +kernel)
set_option maxRecDepth 20000 in
theorem gX6_numberCount_X6_timesFrom : GoodIn wsX6_numberCount (wsV RX6 44 RX6 yX6_timesFrom wsX6_timesFrom) := goodIn_app (goodIn_of _ (by decide +kernel)) ggX6_numberCount_X6_timesFrom
theorem dX6_numberCount_0 : decode cX6_numberCount 0 = .ok (.iconst 0, 1) := by decide +kernel
theorem dX6_numberCount_1 : decode cX6_numberCount 1 = .ok (.istore_n 1, 1) := by decide +kernel
theorem dX6_numberCount_2 : decode cX6_numberCount 2 = .ok (.iconst 0, 1) := by decide +kernel
theorem dX6_numberCount_3 : decode cX6_numberCount 3 = .ok (.istore_n 2, 1) := by decide +kernel
theorem dX6_numberCount_4 : decode cX6_numberCount 4 = .ok (.iload_n 2, 1) := by decide +kernel
theorem dX6_numberCount_5 : decode cX6_numberCount 5 = .ok (.aload_n 0, 1) := by decide +kernel
theorem dX6_numberCount_6 : decode cX6_numberCount 6 = .ok (.getfield 15, 3) := by decide +kernel
theorem dX6_numberCount_9 : decode cX6_numberCount 9 = .ok (.if_icmp .ge 34, 3) := by decide +kernel
theorem dX6_numberCount_12 : decode cX6_numberCount 12 = .ok (.iload_n 2, 1) := by decide +kernel
theorem dX6_numberCount_13 : decode cX6_numberCount 13 = .ok (.ifCond .eq 16, 3) := by decide +kernel
theorem dX6_numberCount_16 : decode cX6_numberCount 16 = .ok (.aload_n 0, 1) := by decide +kernel
theorem dX6_numberCount_17 : decode cX6_numberCount 17 = .ok (.getfield 9, 3) := by decide +kernel
theorem dX6_numberCount_20 : decode cX6_numberCount 20 = .ok (.iload_n 2, 1) := by decide +kernel
theorem dX6_numberCount_21 : decode cX6_numberCount 21 = .ok (.iconst 1, 1) := by decide +kernel
theorem dX6_numberCount_22 : decode cX6_numberCount 22 = .ok (.isub, 1) := by decide +kernel
theorem dX6_numberCount_23 : decode cX6_numberCount 23 = .ok (.iaload, 1) := by decide +kernel
theorem dX6_numberCount_24 : decode cX6_numberCount 24 = .ok (.bipush 44, 2) := by decide +kernel
theorem dX6_numberCount_26 : decode cX6_numberCount 26 = .ok (.if_icmp .ne 11, 3) := by decide +kernel
theorem dX6_numberCount_29 : decode cX6_numberCount 29 = .ok (.iload_n 1, 1) := by decide +kernel
theorem dX6_numberCount_30 : decode cX6_numberCount 30 = .ok (.aload_n 0, 1) := by decide +kernel
theorem dX6_numberCount_31 : decode cX6_numberCount 31 = .ok (.iload_n 2, 1) := by decide +kernel
theorem dX6_numberCount_32 : decode cX6_numberCount 32 = .ok (.invokevirtual 44, 3) := by decide +kernel
theorem dX6_numberCount_35 : decode cX6_numberCount 35 = .ok (.iadd, 1) := by decide +kernel
theorem dX6_numberCount_36 : decode cX6_numberCount 36 = .ok (.istore_n 1, 1) := by decide +kernel
theorem dX6_numberCount_37 : decode cX6_numberCount 37 = .ok (.iinc 2 1, 3) := by decide +kernel
theorem dX6_numberCount_40 : decode cX6_numberCount 40 = .ok (.goto (-36), 3) := by decide +kernel
theorem dX6_numberCount_43 : decode cX6_numberCount 43 = .ok (.iload_n 1, 1) := by decide +kernel
theorem dX6_numberCount_44 : decode cX6_numberCount 44 = .ok (.ireturn, 1) := by decide +kernel
set_option maxRecDepth 20000 in
theorem ggX6_writeTo_X6_valueFrom : GoodIn wsX6_writeTo wsX6_valueFrom := goodIn_r _ [8, 2, 3, 22, 23] (by decide +kernel) (by decide +kernel)
set_option maxRecDepth 20000 in
theorem gX6_writeTo_X6_valueFrom : GoodIn wsX6_writeTo (wsV RX6 52 RX6 yX6_valueFrom wsX6_valueFrom) := goodIn_app (goodIn_of _ (by decide +kernel)) ggX6_writeTo_X6_valueFrom
set_option maxRecDepth 20000 in
theorem ggX6_writeTo_X6_timesFrom : GoodIn wsX6_writeTo wsX6_timesFrom := goodIn_r _ [12, 2, 3, 4, 5, 6, 7, 8, 22, 23] (by decide +kernel) (by decide +kernel)
set_option maxRecDepth 20000 in
theorem gX6_writeTo_X6_timesFrom : GoodIn wsX6_writeTo (wsV RX6 44 RX6 yX6_timesFrom wsX6_timesFrom) := goodIn_app (goodIn_of _ (by decide +kernel)) ggX6_writeTo_X6_timesFrom
set_option maxRecDepth 20000 in
theorem ggX6_writeTo_X7_add : GoodIn wsX6_writeTo wsX7_add := goodIn_r _ [17, 18, 19, 20, 21] (by decide +kernel) (by decide +kernel)
set_option maxRecDepth 20000 in
theorem gX6_writeTo_X7_add : GoodIn wsX6_writeTo (wsV RX6 55 RX7 yX7_add wsX7_add) := goodIn_app (goodIn_of _ (by decide +kernel)) ggX6_writeTo_X7_add
theorem dX6_writeTo_0 : decode cX6_writeTo 0 = .ok (.aload_n 1, 1) := by decide +kernel
theorem dX6_writeTo_1 : decode cX6_writeTo 1 = .ok (.iconst 0, 1) := by decide +kernel
theorem dX6_writeTo_2 : decode cX6_writeTo 2 = .ok (.putfield 47, 3) := by decide +kernel
theorem dX6_writeTo_5 : decode cX6_writeTo 5 = .ok (.iconst 0, 1) := by decide +kernel
theorem dX6_writeTo_6 : decode cX6_writeTo 6 = .ok (.istore_n 2, 1) := by decide +kernel
theorem dX6_writeTo_7 : decode cX6_writeTo 7 = .ok (.iload_n 2, 1) := by decide +kernel
theorem dX6_writeTo_8 : decode cX6_writeTo 8 = .ok (.aload_n 0, 1) := by decide +kernel
theorem dX6_writeTo_9 : decode cX6_writeTo 9 = .ok (.getfield 15, 3) := by decide +kernel
theorem dX6_writeTo_12 : decode cX6_writeTo 12 = .ok (.if_icmp .ge 60, 3) := by decide +kernel
theorem dX6_writeTo_15 : decode cX6_writeTo 15 = .ok (.iload_n 2, 1) := by decide +kernel
theorem dX6_writeTo_16 : decode cX6_writeTo 16 = .ok (.ifCond .eq 16, 3) := by decide +kernel
theorem dX6_writeTo_19 : decode cX6_writeTo 19 = .ok (.aload_n 0, 1) := by decide +kernel
theorem dX6_writeTo_20 : decode cX6_writeTo 20 = .ok (.getfield 9, 3) := by decide +kernel
theorem dX6_writeTo_23 : decode cX6_writeTo 23 = .ok (.iload_n 2, 1) := by decide +kernel
theorem dX6_writeTo_24 : decode cX6_writeTo 24 = .ok (.iconst 1, 1) := by decide +kernel
theorem dX6_writeTo_25 : decode cX6_writeTo 25 = .ok (.isub, 1) := by decide +kernel
theorem dX6_writeTo_26 : decode cX6_writeTo 26 = .ok (.iaload, 1) := by decide +kernel
theorem dX6_writeTo_27 : decode cX6_writeTo 27 = .ok (.bipush 44, 2) := by decide +kernel
theorem dX6_writeTo_29 : decode cX6_writeTo 29 = .ok (.if_icmp .ne 37, 3) := by decide +kernel
theorem dX6_writeTo_32 : decode cX6_writeTo 32 = .ok (.aload_n 0, 1) := by decide +kernel
theorem dX6_writeTo_33 : decode cX6_writeTo 33 = .ok (.iload_n 2, 1) := by decide +kernel
theorem dX6_writeTo_34 : decode cX6_writeTo 34 = .ok (.invokevirtual 52, 3) := by decide +kernel
theorem dX6_writeTo_37 : decode cX6_writeTo 37 = .ok (.istore_n 3, 1) := by decide +kernel
theorem dX6_writeTo_38 : decode cX6_writeTo 38 = .ok (.aload_n 0, 1) := by decide +kernel
theorem dX6_writeTo_39 : decode cX6_writeTo 39 = .ok (.iload_n 2, 1) := by decide +kernel
theorem dX6_writeTo_40 : decode cX6_writeTo 40 = .ok (.invokevirtual 44, 3) := by decide +kernel
theorem dX6_writeTo_43 : decode cX6_writeTo 43 = .ok (.istore 4, 2) := by decide +kernel
theorem dX6_writeTo_45 : decode cX6_writeTo 45 = .ok (.iconst 0, 1) := by decide +kernel
theorem dX6_writeTo_46 : decode cX6_writeTo 46 = .ok (.istore 5, 2) := by decide +kernel
theorem dX6_writeTo_48 : decode cX6_writeTo 48 = .ok (.iload 5, 2) := by decide +kernel
theorem dX6_writeTo_50 : decode cX6_writeTo 50 = .ok (.iload 4, 2) := by decide +kernel
theorem dX6_writeTo_52 : decode cX6_writeTo 52 = .ok (.if_icmp .ge 14, 3) := by decide +kernel
theorem dX6_writeTo_55 : decode cX6_writeTo 55 = .ok (.aload_n 1, 1) := by decide +kernel
theorem dX6_writeTo_56 : decode cX6_writeTo 56 = .ok (.iload_n 3, 1) := by decide +kernel
theorem dX6_writeTo_57 : decode cX6_writeTo 57 = .ok (.invokevirtual 55, 3) := by decide +kernel
theorem dX6_writeTo_60 : decode cX6_writeTo 60 = .ok (.iinc 5 1, 3) := by decide +kernel
theorem dX6_writeTo_63 : decode cX6_writeTo 63 = .ok (.goto (-15), 3) := by decide +kernel
theorem dX6_writeTo_66 : decode cX6_writeTo 66 = .ok (.iinc 2 1, 3) := by decide +kernel
theorem dX6_writeTo_69 : decode cX6_writeTo 69 = .ok (.goto (-62), 3) := by decide +kernel
theorem dX6_writeTo_72 : decode cX6_writeTo 72 = .ok (.return_, 1) := by decide +kernel
set_option maxRecDepth 20000 in
theorem ggX6_timesFrom_X6_valueFrom : GoodIn wsX6_timesFrom wsX6_valueFrom := goodIn_r _ [7, 1, 2, 8, 9] (by decide +kernel) (by decide +kernel)
set_option maxRecDepth 20000 in
theorem gX6_timesFrom_X6_valueFrom : GoodIn wsX6_timesFrom (wsV RX6 52 RX6 yX6_valueFrom wsX6_valueFrom) := goodIn_app (goodIn_of _ (by decide +kernel)) ggX6_timesFrom_X6_valueFrom
theorem dX6_timesFrom_0 : decode cX6_timesFrom 0 = .ok (.iload_n 1, 1) := by decide +kernel
theorem dX6_timesFrom_1 : decode cX6_timesFrom 1 = .ok (.istore_n 2, 1) := by decide +kernel
theorem dX6_timesFrom_2 : decode cX6_timesFrom 2 = .ok (.iload_n 2, 1) := by decide +kernel
theorem dX6_timesFrom_3 : decode cX6_timesFrom 3 = .ok (.aload_n 0, 1) := by decide +kernel
theorem dX6_timesFrom_4 : decode cX6_timesFrom 4 = .ok (.getfield 15, 3) := by decide +kernel
theorem dX6_timesFrom_7 : decode cX6_timesFrom 7 = .ok (.if_icmp .ge 39, 3) := by decide +kernel
theorem dX6_timesFrom_10 : decode cX6_timesFrom 10 = .ok (.aload_n 0, 1) := by decide +kernel
theorem dX6_timesFrom_11 : decode cX6_timesFrom 11 = .ok (.getfield 9, 3) := by decide +kernel
theorem dX6_timesFrom_14 : decode cX6_timesFrom 14 = .ok (.iload_n 2, 1) := by decide +kernel
theorem dX6_timesFrom_15 : decode cX6_timesFrom 15 = .ok (.iaload, 1) := by decide +kernel
theorem dX6_timesFrom_16 : decode cX6_timesFrom 16 = .ok (.bipush 44, 2) := by decide +kernel
theorem dX6_timesFrom_18 : decode cX6_timesFrom 18 = .ok (.if_icmp .eq 28, 3) := by decide +kernel
theorem dX6_timesFrom_21 : decode cX6_timesFrom 21 = .ok (.aload_n 0, 1) := by decide +kernel
theorem dX6_timesFrom_22 : decode cX6_timesFrom 22 = .ok (.getfield 9, 3) := by decide +kernel
theorem dX6_timesFrom_25 : decode cX6_timesFrom 25 = .ok (.iload_n 2, 1) := by decide +kernel
theorem dX6_timesFrom_26 : decode cX6_timesFrom 26 = .ok (.iaload, 1) := by decide +kernel
theorem dX6_timesFrom_27 : decode cX6_timesFrom 27 = .ok (.bipush 42, 2) := by decide +kernel
theorem dX6_timesFrom_29 : decode cX6_timesFrom 29 = .ok (.if_icmp .ne 11, 3) := by decide +kernel
theorem dX6_timesFrom_32 : decode cX6_timesFrom 32 = .ok (.aload_n 0, 1) := by decide +kernel
theorem dX6_timesFrom_33 : decode cX6_timesFrom 33 = .ok (.iload_n 2, 1) := by decide +kernel
theorem dX6_timesFrom_34 : decode cX6_timesFrom 34 = .ok (.iconst 1, 1) := by decide +kernel
theorem dX6_timesFrom_35 : decode cX6_timesFrom 35 = .ok (.iadd, 1) := by decide +kernel
theorem dX6_timesFrom_36 : decode cX6_timesFrom 36 = .ok (.invokevirtual 52, 3) := by decide +kernel
theorem dX6_timesFrom_39 : decode cX6_timesFrom 39 = .ok (.ireturn, 1) := by decide +kernel
theorem dX6_timesFrom_40 : decode cX6_timesFrom 40 = .ok (.iinc 2 1, 3) := by decide +kernel
theorem dX6_timesFrom_43 : decode cX6_timesFrom 43 = .ok (.goto (-41), 3) := by decide +kernel
theorem dX6_timesFrom_46 : decode cX6_timesFrom 46 = .ok (.iconst 1, 1) := by decide +kernel
theorem dX6_timesFrom_47 : decode cX6_timesFrom 47 = .ok (.ireturn, 1) := by decide +kernel
theorem dX6_valueFrom_0 : decode cX6_valueFrom 0 = .ok (.iconst 0, 1) := by decide +kernel
theorem dX6_valueFrom_1 : decode cX6_valueFrom 1 = .ok (.istore_n 2, 1) := by decide +kernel
theorem dX6_valueFrom_2 : decode cX6_valueFrom 2 = .ok (.iload_n 1, 1) := by decide +kernel
theorem dX6_valueFrom_3 : decode cX6_valueFrom 3 = .ok (.istore_n 3, 1) := by decide +kernel
theorem dX6_valueFrom_4 : decode cX6_valueFrom 4 = .ok (.iload_n 3, 1) := by decide +kernel
theorem dX6_valueFrom_5 : decode cX6_valueFrom 5 = .ok (.aload_n 0, 1) := by decide +kernel
theorem dX6_valueFrom_6 : decode cX6_valueFrom 6 = .ok (.getfield 15, 3) := by decide +kernel
theorem dX6_valueFrom_9 : decode cX6_valueFrom 9 = .ok (.if_icmp .ge 46, 3) := by decide +kernel
theorem dX6_valueFrom_12 : decode cX6_valueFrom 12 = .ok (.aload_n 0, 1) := by decide +kernel
theorem dX6_valueFrom_13 : decode cX6_valueFrom 13 = .ok (.getfield 9, 3) := by decide +kernel
theorem dX6_valueFrom_16 : decode cX6_valueFrom 16 = .ok (.iload_n 3, 1) := by decide +kernel
theorem dX6_valueFrom_17 : decode cX6_valueFrom 17 = .ok (.iaload, 1) := by decide +kernel
theorem dX6_valueFrom_18 : decode cX6_valueFrom 18 = .ok (.bipush 48, 2) := by decide +kernel
theorem dX6_valueFrom_20 : decode cX6_valueFrom 20 = .ok (.if_icmp .lt 35, 3) := by decide +kernel
theorem dX6_valueFrom_23 : decode cX6_valueFrom 23 = .ok (.aload_n 0, 1) := by decide +kernel
theorem dX6_valueFrom_24 : decode cX6_valueFrom 24 = .ok (.getfield 9, 3) := by decide +kernel
theorem dX6_valueFrom_27 : decode cX6_valueFrom 27 = .ok (.iload_n 3, 1) := by decide +kernel
theorem dX6_valueFrom_28 : decode cX6_valueFrom 28 = .ok (.iaload, 1) := by decide +kernel
theorem dX6_valueFrom_29 : decode cX6_valueFrom 29 = .ok (.bipush 57, 2) := by decide +kernel
theorem dX6_valueFrom_31 : decode cX6_valueFrom 31 = .ok (.if_icmp .gt 24, 3) := by decide +kernel
theorem dX6_valueFrom_34 : decode cX6_valueFrom 34 = .ok (.bipush 10, 2) := by decide +kernel
theorem dX6_valueFrom_36 : decode cX6_valueFrom 36 = .ok (.iload_n 2, 1) := by decide +kernel
theorem dX6_valueFrom_37 : decode cX6_valueFrom 37 = .ok (.imul, 1) := by decide +kernel
theorem dX6_valueFrom_38 : decode cX6_valueFrom 38 = .ok (.aload_n 0, 1) := by decide +kernel
theorem dX6_valueFrom_39 : decode cX6_valueFrom 39 = .ok (.getfield 9, 3) := by decide +kernel
theorem dX6_valueFrom_42 : decode cX6_valueFrom 42 = .ok (.iload_n 3, 1) := by decide +kernel
theorem dX6_valueFrom_43 : decode cX6_valueFrom 43 = .ok (.iaload, 1) := by decide +kernel
theorem dX6_valueFrom_44 : decode cX6_valueFrom 44 = .ok (.iadd, 1) := by decide +kernel
theorem dX6_valueFrom_45 : decode cX6_valueFrom 45 = .ok (.bipush 48, 2) := by decide +kernel
theorem dX6_valueFrom_47 : decode cX6_valueFrom 47 = .ok (.isub, 1) := by decide +kernel
theorem dX6_valueFrom_48 : decode cX6_valueFrom 48 = .ok (.istore_n 2, 1) := by decide +kernel
theorem dX6_valueFrom_49 : decode cX6_valueFrom 49 = .ok (.iinc 3 1, 3) := by decide +kernel
theorem dX6_valueFrom_52 : decode cX6_valueFrom 52 = .ok (.goto (-48), 3) := by decide +kernel
theorem dX6_valueFrom_55 : decode cX6_valueFrom 55 = .ok (.iload_n 2, 1) := by decide +kernel
theorem dX6_valueFrom_56 : decode cX6_valueFrom 56 = .ok (.ireturn, 1) := by decide +kernel
theorem dX7_init_0 : decode cX7_init 0 = .ok (.aload_n 0, 1) := by decide +kernel
theorem dX7_init_1 : decode cX7_init 1 = .ok (.invokespecial 3, 3) := by decide +kernel
theorem dX7_init_4 : decode cX7_init 4 = .ok (.aload_n 0, 1) := by decide +kernel
theorem dX7_init_5 : decode cX7_init 5 = .ok (.bipush 48, 2) := by decide +kernel
theorem dX7_init_7 : decode cX7_init 7 = .ok (.newarray .int, 2) := by decide +kernel
theorem dX7_init_9 : decode cX7_init 9 = .ok (.putfield 9, 3) := by decide +kernel
theorem dX7_init_12 : decode cX7_init 12 = .ok (.aload_n 0, 1) := by decide +kernel
theorem dX7_init_13 : decode cX7_init 13 = .ok (.iconst 0, 1) := by decide +kernel
theorem dX7_init_14 : decode cX7_init 14 = .ok (.putfield 15, 3) := by decide +kernel
theorem dX7_init_17 : decode cX7_init 17 = .ok (.return_, 1) := by decide +kernel
theorem dX7_copyFrom_0 : decode cX7_copyFrom 0 = .ok (.aload_n 1, 1) := by decide +kernel
theorem dX7_copyFrom_1 : decode cX7_copyFrom 1 = .ok (.getfield 9, 3) := by decide +kernel
theorem dX7_copyFrom_4 : decode cX7_copyFrom 4 = .ok (.iconst 0, 1) := by decide +kernel
theorem dX7_copyFrom_5 : decode cX7_copyFrom 5 = .ok (.aload_n 0, 1) := by decide +kernel
theorem dX7_copyFrom_6 : decode cX7_copyFrom 6 = .ok (.getfield 9, 3) := by decide +kernel
theorem dX7_copyFrom_9 : decode cX7_copyFrom 9 = .ok (.iconst 0, 1) := by decide +kernel
theorem dX7_copyFrom_10 : decode cX7_copyFrom 10 = .ok (.bipush 48, 2) := by decide +kernel
theorem dX7_copyFrom_12 : decode cX7_copyFrom 12 = .ok (.invokestatic 19, 3) := by decide +kernel
theorem dX7_copyFrom_15 : decode cX7_copyFrom 15 = .ok (.aload_n 0, 1) := by decide +kernel
theorem dX7_copyFrom_16 : decode cX7_copyFrom 16 = .ok (.aload_n 1, 1) := by decide +kernel
theorem dX7_copyFrom_17 : decode cX7_copyFrom 17 = .ok (.getfield 15, 3) := by decide +kernel
theorem dX7_copyFrom_20 : decode cX7_copyFrom 20 = .ok (.putfield 15, 3) := by decide +kernel
theorem dX7_copyFrom_23 : decode cX7_copyFrom 23 = .ok (.return_, 1) := by decide +kernel
theorem dX7_add_0 : decode cX7_add 0 = .ok (.aload_n 0, 1) := by decide +kernel
theorem dX7_add_1 : decode cX7_add 1 = .ok (.getfield 15, 3) := by decide +kernel
theorem dX7_add_4 : decode cX7_add 4 = .ok (.bipush 48, 2) := by decide +kernel
theorem dX7_add_6 : decode cX7_add 6 = .ok (.if_icmp .ge 23, 3) := by decide +kernel
theorem dX7_add_9 : decode cX7_add 9 = .ok (.aload_n 0, 1) := by decide +kernel
theorem dX7_add_10 : decode cX7_add 10 = .ok (.getfield 9, 3) := by decide +kernel
theorem dX7_add_13 : decode cX7_add 13 = .ok (.aload_n 0, 1) := by decide +kernel
theorem dX7_add_14 : decode cX7_add 14 = .ok (.getfield 15, 3) := by decide +kernel
theorem dX7_add_17 : decode cX7_add 17 = .ok (.iload_n 1, 1) := by decide +kernel
theorem dX7_add_18 : decode cX7_add 18 = .ok (.iastore, 1) := by decide +kernel
theorem dX7_add_19 : decode cX7_add 19 = .ok (.aload_n 0, 1) := by decide +kernel
theorem dX7_add_20 : decode cX7_add 20 = .ok (.dup, 1) := by decide +kernel
theorem dX7_add_21 : decode cX7_add 21 = .ok (.getfield 15, 3) := by decide +kernel
theorem dX7_add_24 : decode cX7_add 24 = .ok (.iconst 1, 1) := by decide +kernel
theorem dX7_add_25 : decode cX7_add 25 = .ok (.iadd, 1) := by decide +kernel
theorem dX7_add_26 : decode cX7_add 26 = .ok (.putfield 15, 3) := by decide +kernel
theorem dX7_add_29 : decode cX7_add 29 = .ok (.return_, 1) := by decide +kernel
theorem dX7_at_0 : decode cX7_at 0 = .ok (.aload_n 0, 1) := by decide +kernel
theorem dX7_at_1 : decode cX7_at 1 = .ok (.getfield 15, 3) := by decide +kernel
theorem dX7_at_4 : decode cX7_at 4 = .ok (.ifCond .le 21, 3) := by decide +kernel
theorem dX7_at_7 : decode cX7_at 7 = .ok (.iload_n 1, 1) := by decide +kernel
theorem dX7_at_8 : decode cX7_at 8 = .ok (.ifCond .lt 17, 3) := by decide +kernel
theorem dX7_at_11 : decode cX7_at 11 = .ok (.aload_n 0, 1) := by decide +kernel
theorem dX7_at_12 : decode cX7_at 12 = .ok (.getfield 9, 3) := by decide +kernel
theorem dX7_at_15 : decode cX7_at 15 = .ok (.iload_n 1, 1) := by decide +kernel
theorem dX7_at_16 : decode cX7_at 16 = .ok (.aload_n 0, 1) := by decide +kernel
theorem dX7_at_17 : decode cX7_at 17 = .ok (.getfield 15, 3) := by decide +kernel
theorem dX7_at_20 : decode cX7_at 20 = .ok (.irem, 1) := by decide +kernel
theorem dX7_at_21 : decode cX7_at 21 = .ok (.iaload, 1) := by decide +kernel
theorem dX7_at_22 : decode cX7_at 22 = .ok (.goto 5, 3) := by decide +kernel
theorem dX7_at_25 : decode cX7_at 25 = .ok (.bipush 8, 2) := by decide +kernel
theorem dX7_at_27 : decode cX7_at 27 = .ok (.ireturn, 1) := by decide +kernel
theorem dX7_sum_0 : decode cX7_sum 0 = .ok (.iconst 0, 1) := by decide +kernel
theorem dX7_sum_1 : decode cX7_sum 1 = .ok (.istore_n 1, 1) := by decide +kernel
theorem dX7_sum_2 : decode cX7_sum 2 = .ok (.iconst 0, 1) := by decide +kernel
theorem dX7_sum_3 : decode cX7_sum 3 = .ok (.istore_n 2, 1) := by decide +kernel
theorem dX7_sum_4 : decode cX7_sum 4 = .ok (.iload_n 2, 1) := by decide +kernel
theorem dX7_sum_5 : decode cX7_sum 5 = .ok (.aload_n 0, 1) := by decide +kernel
theorem dX7_sum_6 : decode cX7_sum 6 = .ok (.getfield 15, 3) := by decide +kernel
theorem dX7_sum_9 : decode cX7_sum 9 = .ok (.if_icmp .ge 18, 3) := by decide +kernel
theorem dX7_sum_12 : decode cX7_sum 12 = .ok (.iload_n 1, 1) := by decide +kernel
theorem dX7_sum_13 : decode cX7_sum 13 = .ok (.aload_n 0, 1) := by decide +kernel
theorem dX7_sum_14 : decode cX7_sum 14 = .ok (.getfield 9, 3) := by decide +kernel
theorem dX7_sum_17 : decode cX7_sum 17 = .ok (.iload_n 2, 1) := by decide +kernel
theorem dX7_sum_18 : decode cX7_sum 18 = .ok (.iaload, 1) := by decide +kernel
theorem dX7_sum_19 : decode cX7_sum 19 = .ok (.iadd, 1) := by decide +kernel
theorem dX7_sum_20 : decode cX7_sum 20 = .ok (.istore_n 1, 1) := by decide +kernel
theorem dX7_sum_21 : decode cX7_sum 21 = .ok (.iinc 2 1, 3) := by decide +kernel
theorem dX7_sum_24 : decode cX7_sum 24 = .ok (.goto (-20), 3) := by decide +kernel
theorem dX7_sum_27 : decode cX7_sum 27 = .ok (.iload_n 1, 1) := by decide +kernel
theorem dX7_sum_28 : decode cX7_sum 28 = .ok (.ireturn, 1) := by decide +kernel
set_option maxRecDepth 20000 in
theorem ggX8_init_X2_init : GoodIn wsX8_init wsX2_init := goodIn_r _ [18, 19, 2, 3, 20, 21, 22, 23, 24, 25, 26, 27, 28, 29, 30, 31, 32, 33, 34, 35, 36, 37, 38, 39, 40, 41, 42, 43, 44, 45, 46, 47, 48, 49, 50, 51, 52, 53, 54, 55, 56, 57, 58, 59, 60, 61, 62, 63, 64, 65, 66, 67, 68, 69, 70, 71, 72, 73, 74, 75, 76, 77, 78, 79, 80, 81, 82, 83, 84, 85, 91, 92, 93, 94, 95, 96, 97, 98, 99, 100, 109, 110, 111, 112, 113, 114, 115, 116, 117, 118, 119, 120, 121, 122, 123, 124, 125, 126, 127, 128, 129, 130] (by decide +kernel) (by decide +kernel)
set_option maxRecDepth 20000 in
theorem gX8_init_X2_init : GoodIn wsX8_init (wsX2_init) := ggX8_init_X2_init
set_option maxRecDepth 20000 in
theorem ggX8_init_X6_init : GoodIn wsX8_init wsX6_init := goodIn_r _ [87, 88, 2, 3, 43, 89, 90, 107, 108] (by decide +kernel) (by decide +kernel)
set_option maxRecDepth 20000 in
theorem gX8_init_X6_init_n32 : GoodIn wsX8_init (wsX6_init) := ggX8_init_X6_init
theorem dX8_init_0 : decode cX8_init 0 = .ok (.aload_n 0, 1) := by decide +kernel
theorem dX8_init_1 : decode cX8_init 1 = .ok (.invokespecial 1, 3) := by decide +kernel
theorem dX8_init_4 : decode cX8_init 4 = .ok (.aload_n 0, 1) := by decide +kernel
theorem dX8_init_5 : decode cX8_init 5 = .ok (.new 7, 3) := by decide +kernel
theorem dX8_init_8 : decode cX8_init 8 = .ok (.dup, 1) := by decide +kernel
theorem dX8_init_9 : decode cX8_init 9 = .ok (.invokespecial 9, 3) := by decide +kernel
theorem dX8_init_12 : decode cX8_init 12 = .ok (.putfield 10, 3) := by decide +kernel
theorem dX8_init_15 : decode cX8_init 15 = .ok (.aload_n 0, 1) := by decide +kernel
theorem dX8_init_16 : decode cX8_init 16 = .ok (.new 7, 3) := by decide +kernel
theorem dX8_init_19 : decode cX8_init 19 = .ok (.dup, 1) := by decide +kernel
theorem dX8_init_20 : decode cX8_init 20 = .ok (.invokespecial 9, 3) := by decide +kernel
theorem dX8_init_23 : decode cX8_init 23 = .ok (.putfield 16, 3) := by decide +kernel
theorem dX8_init_26 : decode cX8_init 26 = .ok (.aload_n 0, 1) := by decide +kernel
theorem dX8_init_27 : decode cX8_init 27 = .ok (.bipush 6, 2) := by decide +kernel
theorem dX8_init_29 : decode cX8_init 29 = .ok (.anewarray 7, 3) := by decide +kernel
theorem dX8_init_32 : decode cX8_init 32 = .ok (.putfield 19, 3) := by decide +kernel
theorem dX8_init_35 : decode cX8_init 35 = .ok (.aload_n 0, 1) := by decide +kernel
theorem dX8_init_36 : decode cX8_init 36 = .ok (.iconst 0, 1) := by decide +kernel
theorem dX8_init_37 : decode cX8_init 37 = .ok (.putfield 23, 3) := by decide +kernel
theorem dX8_init_40 : decode cX8_init 40 = .ok (.aload_n 0, 1) := by decide +kernel
theorem dX8_init_41 : decode cX8_init 41 = .ok (.iconst 0, 1) := by decide +kernel
theorem dX8_init_42 : decode cX8_init 42 = .ok (.putfield 27, 3) := by decide +kernel
theorem dX8_init_45 : decode cX8_init 45 = .ok (.aload_n 0, 1) := by decide +kernel
theorem dX8_init_46 : decode cX8_init 46 = .ok (.new 30, 3) := by decide +kernel
theorem dX8_init_49 : decode cX8_init 49 = .ok (.dup, 1) := by decide +kernel
theorem dX8_init_50 : decode cX8_init 50 = .ok (.invokespecial 32, 3) := by decide +kernel
theorem dX8_init_53 : decode cX8_init 53 = .ok (.putfield 33, 3) := by decide +kernel
theorem dX8_init_56 : decode cX8_init 56 = .ok (.iconst 0, 1) := by decide +kernel
theorem dX8_init_57 : decode cX8_init 57 = .ok (.istore_n 1, 1) := by decide +kernel
theorem dX8_init_58 : decode cX8_init 58 = .ok (.iload_n 1, 1) := by decide +kernel
theorem dX8_init_59 : decode cX8_init 59 = .ok (.bipush 6, 2) := by decide +kernel
theorem dX8_init_61 : decode cX8_init 61 = .ok (.if_icmp .ge 22, 3) := by decide +kernel
theorem dX8_init_64 : decode cX8_init 64 = .ok (.aload_n 0, 1) := by decide +kernel
theorem dX8_init_65 : decode cX8_init 65 = .ok (.getfield 19, 3) := by decide +kernel
theorem dX8_init_68 : decode cX8_init 68 = .ok (.iload_n 1, 1) := by decide +kernel
theorem dX8_init_69 : decode cX8_init 69 = .ok (.new 7, 3) := by decide +kernel
theorem dX8_init_72 : decode cX8_init 72 = .ok (.dup, 1) := by decide +kernel
theorem dX8_init_73 : decode cX8_init 73 = .ok (.invokespecial 9, 3) := by decide +kernel
theorem dX8_init_76 : decode cX8_init 76 = .ok (.aastore, 1) := by decide +kernel
theorem dX8_init_77 : decode cX8_init 77 = .ok (.iinc 1 1, 3) := by decide +kernel
theorem dX8_init_80 : decode cX8_init 80 = .ok (.goto (-22), 3) := by decide +kernel
theorem dX8_init_83 : decode cX8_init 83 = .ok (.return_, 1) := by decide +kernel
set_option maxRecDepth 20000 in
theorem ggX8_addTurbine_X8_isWithin : GoodIn wsX8_addTurbine wsX8_isWithin := goodIn_r _ [10] (by decide +kernel) (by decide +kernel)
set_option maxRecDepth 20000 in
theorem gX8_addTurbine_X8_isWithin : GoodIn wsX8_addTurbine (va_wsS RX8 37 yX8_isWithin wsX8_isWithin) := goodIn_app (goodIn_of _ (by decide +kernel)) ggX8_addTurbine_X8_isWithin
set_option maxRecDepth 20000 in
theorem ggX8_addTurbine_X2_hasTurbineAt : GoodIn wsX8_addTurbine wsX2_hasTurbineAt := goodIn_r _ [15, 16, 17, 18, 112, 113, 114, 115, 116, 117, 118, 119, 120, 121, 122, 123, 124, 125, 126, 127, 128] (by decide +kernel) (by decide +kernel)
set_option maxRecDepth 20000 in
theorem gX8_addTurbine_X2_hasTurbineAt : GoodIn wsX8_addTurbine (wsV RX8 51 RX2 yX2_hasTurbineAt wsX2_hasTurbineAt) := goodIn_app (goodIn_of _ (by decide +kernel)) ggX8_addTurbine_X2_hasTurbineAt
set_option maxRecDepth 20000 in
theorem ggX8_addTurbine_X8_saveState : GoodIn wsX8_addTurbine wsX8_saveState := goodIn_r _ [22, 23, 24, 25, 5, 26, 27, 28, 14, 29, 16, 17, 30, 31, 32, 33, 34, 35, 36, 37, 38, 39, 40, 41, 42, 43, 44, 45, 46, 47, 48, 49, 50, 51, 52, 53, 54, 55, 56, 57, 58, 59, 60, 61, 62, 63, 64, 65, 66, 67, 68, 69, 70, 71, 72, 73, 74, 75, 76, 77, 78, 79, 80, 81, 82, 83, 84, 85, 86, 87, 88, 89, 90, 91, 92, 93, 94, 95, 96, 97, 106, 107, 108, 109, 110, 111, 112, 113, 114, 115, 116, 117, 118, 119, 120, 121, 122, 123, 124, 125, 126, 127, 128, 129, 130, 131, 132, 133, 134, 135, 136, 137, 138, 139, 140, 141, 142, 143] (by decide +kernel) (by decide +kernel)
set_option maxRecDepth 20000 in
theorem gX8_addTurbine_X8_saveState : GoodIn wsX8_addTurbine (wsV RX8 60 RX8 yX8_saveState wsX8_saveState) := goodIn_app (goodIn_of _ (by decide +kernel)) ggX8_addTurbine_X8_saveState
set_option maxRecDepth 20000 in
theorem ggX8_addTurbine_X2_buildTurbine : GoodIn wsX8_addTurbine wsX2_buildTurbine := goodIn_r _ [101, 16, 17, 102, 103, 104, 45, 105, 47, 48, 49, 50, 51, 52, 53, 112, 113, 114, 115, 116, 117, 118, 119, 120, 121, 122, 123, 124, 125, 126, 127, 128] (by decide +kernel) (by decide +kernel)
set_option maxRecDepth 20000 in
theorem gX8_addTurbine_X2_buildTurbine : GoodIn wsX8_addTurbine (wsV RX8 63 RX2 yX2_buildTurbine wsX2_buildTurbine) := goodIn_app (goodIn_of _ (by decide +kernel)) ggX8_addTurbine_X2_buildTurbine
theorem dX8_addTurbine_0 : decode cX8_addTurbine 0 = .ok (.iload_n 1, 1) := by decide +kernel
theorem dX8_addTurbine_1 : decode cX8_addTurbine 1 = .ok (.iconst 1, 1) := by decide +kernel
theorem dX8_addTurbine_2 : decode cX8_addTurbine 2 = .ok (.bipush 99, 2) := by decide +kernel
theorem dX8_addTurbine_4 : decode cX8_addTurbine 4 = .ok (.invokestatic 37, 3) := by decide +kernel
theorem dX8_addTurbine_7 : decode cX8_addTurbine 7 = .ok (.ifCond .eq 25, 3) := by decide +kernel
theorem dX8_addTurbine_10 : decode cX8_addTurbine 10 = .ok (.iload_n 2, 1) := by decide +kernel
theorem dX8_addTurbine_11 : decode cX8_addTurbine 11 = .ok (.bipush 50, 2) := by decide +kernel
theorem dX8_addTurbine_13 : decode cX8_addTurbine 13 = .ok (.sipush 160, 3) := by decide +kernel
theorem dX8_addTurbine_16 : decode cX8_addTurbine 16 = .ok (.invokestatic 37, 3) := by decide +kernel
theorem dX8_addTurbine_19 : decode cX8_addTurbine 19 = .ok (.ifCond .eq 13, 3) := by decide +kernel
theorem dX8_addTurbine_22 : decode cX8_addTurbine 22 = .ok (.iload_n 3, 1) := by decide +kernel
theorem dX8_addTurbine_23 : decode cX8_addTurbine 23 = .ok (.iconst 1, 1) := by decide +kernel
theorem dX8_addTurbine_24 : decode cX8_addTurbine 24 = .ok (.bipush 50, 2) := by decide +kernel
theorem dX8_addTurbine_26 : decode cX8_addTurbine 26 = .ok (.invokestatic 37, 3) := by decide +kernel
theorem dX8_addTurbine_29 : decode cX8_addTurbine 29 = .ok (.ifCond .ne 13, 3) := by decide +kernel
theorem dX8_addTurbine_32 : decode cX8_addTurbine 32 = .ok (.new 41, 3) := by decide +kernel
theorem dX8_addTurbine_35 : decode cX8_addTurbine 35 = .ok (.dup, 1) := by decide +kernel
theorem dX8_addTurbine_36 : decode cX8_addTurbine 36 = .ok (.ldc 43, 2) := by decide +kernel
theorem dX8_addTurbine_38 : decode cX8_addTurbine 38 = .ok (.invokespecial 45, 3) := by decide +kernel
theorem dX8_addTurbine_41 : decode cX8_addTurbine 41 = .ok (.athrow, 1) := by decide +kernel
theorem dX8_addTurbine_42 : decode cX8_addTurbine 42 = .ok (.aload_n 0, 1) := by decide +kernel
theorem dX8_addTurbine_43 : decode cX8_addTurbine 43 = .ok (.getfield 10, 3) := by decide +kernel
theorem dX8_addTurbine_46 : decode cX8_addTurbine 46 = .ok (.getfield 48, 3) := by decide +kernel
theorem dX8_addTurbine_49 : decode cX8_addTurbine 49 = .ok (.bipush 10, 2) := by decide +kernel
theorem dX8_addTurbine_51 : decode cX8_addTurbine 51 = .ok (.if_icmp .ge 14, 3) := by decide +kernel
theorem dX8_addTurbine_54 : decode cX8_addTurbine 54 = .ok (.aload_n 0, 1) := by decide +kernel
theorem dX8_addTurbine_55 : decode cX8_addTurbine 55 = .ok (.getfield 10, 3) := by decide +kernel
theorem dX8_addTurbine_58 : decode cX8_addTurbine 58 = .ok (.iload_n 1, 1) := by decide +kernel
theorem dX8_addTurbine_59 : decode cX8_addTurbine 59 = .ok (.invokevirtual 51, 3) := by decide +kernel
theorem dX8_addTurbine_62 : decode cX8_addTurbine 62 = .ok (.ifCond .eq 13, 3) := by decide +kernel
theorem dX8_addTurbine_65 : decode cX8_addTurbine 65 = .ok (.new 55, 3) := by decide +kernel
theorem dX8_addTurbine_68 : decode cX8_addTurbine 68 = .ok (.dup, 1) := by decide +kernel
theorem dX8_addTurbine_69 : decode cX8_addTurbine 69 = .ok (.ldc 57, 2) := by decide +kernel
theorem dX8_addTurbine_71 : decode cX8_addTurbine 71 = .ok (.invokespecial 59, 3) := by decide +kernel
theorem dX8_addTurbine_74 : decode cX8_addTurbine 74 = .ok (.athrow, 1) := by decide +kernel
theorem dX8_addTurbine_75 : decode cX8_addTurbine 75 = .ok (.aload_n 0, 1) := by decide +kernel
theorem dX8_addTurbine_76 : decode cX8_addTurbine 76 = .ok (.invokevirtual 60, 3) := by decide +kernel
theorem dX8_addTurbine_79 : decode cX8_addTurbine 79 = .ok (.aload_n 0, 1) := by decide +kernel
theorem dX8_addTurbine_80 : decode cX8_addTurbine 80 = .ok (.getfield 10, 3) := by decide +kernel
theorem dX8_addTurbine_83 : decode cX8_addTurbine 83 = .ok (.iload_n 1, 1) := by decide +kernel
theorem dX8_addTurbine_84 : decode cX8_addTurbine 84 = .ok (.iload_n 2, 1) := by decide +kernel
theorem dX8_addTurbine_85 : decode cX8_addTurbine 85 = .ok (.iload_n 3, 1) := by decide +kernel
theorem dX8_addTurbine_86 : decode cX8_addTurbine 86 = .ok (.invokevirtual 63, 3) := by decide +kernel
theorem dX8_addTurbine_89 : decode cX8_addTurbine 89 = .ok (.ireturn, 1) := by decide +kernel
set_option maxRecDepth 20000 in
theorem ggX8_setFault_X8_requireTurbine : GoodIn wsX8_setFault wsX8_requireTurbine := goodIn_r _ [11, 12, 13, 3, 14, 15, 16, 17, 18, 19, 103, 104, 105, 106, 107, 108, 109, 110, 111, 112, 113, 114, 115, 116, 117, 118] (by decide +kernel) (by decide +kernel)
set_option maxRecDepth 20000 in
theorem gX8_setFault_X8_requireTurbine : GoodIn wsX8_setFault (wsV RX8 67 RX8 yX8_requireTurbine wsX8_requireTurbine) := goodIn_app (goodIn_of _ (by decide +kernel)) ggX8_setFault_X8_requireTurbine
set_option maxRecDepth 20000 in
theorem ggX8_setFault_X8_isWithin : GoodIn wsX8_setFault wsX8_isWithin := goodIn_r _ [22] (by decide +kernel) (by decide +kernel)
set_option maxRecDepth 20000 in
theorem gX8_setFault_X8_isWithin : GoodIn wsX8_setFault (va_wsS RX8 37 yX8_isWithin wsX8_isWithin) := goodIn_app (goodIn_of _ (by decide +kernel)) ggX8_setFault_X8_isWithin
set_option maxRecDepth 20000 in
theorem ggX8_setFault_X8_saveState : GoodIn wsX8_setFault wsX8_saveState := goodIn_r _ [26, 27, 28, 29, 3, 30, 31, 32, 17, 33, 19, 34, 35, 36, 37, 38, 39, 40, 41, 42, 43, 44, 45, 46, 47, 48, 49, 50, 51, 52, 53, 54, 55, 56, 57, 58, 59, 60, 61, 62, 63, 64, 65, 66, 67, 68, 69, 70, 71, 72, 73, 74, 75, 76, 77, 78, 79, 80, 81, 82, 83, 84, 85, 86, 87, 88, 89, 90, 91, 92, 93, 94, 95, 96, 97, 98, 99, 100, 101, 102, 103, 104, 105, 106, 107, 108, 109, 110, 111, 112, 113, 114, 115, 116, 117, 118, 119, 120, 121, 122, 123, 124, 125, 126, 127, 128, 129, 130, 131, 132, 133, 134, 135, 136, 137, 138, 139, 140] (by decide +kernel) (by decide +kernel)
set_option maxRecDepth 20000 in
theorem gX8_setFault_X8_saveState : GoodIn wsX8_setFault (wsV RX8 60 RX8 yX8_saveState wsX8_saveState) := goodIn_app (goodIn_of _ (by decide +kernel)) ggX8_setFault_X8_saveState
theorem dX8_setFault_0 : decode cX8_setFault 0 = .ok (.aload_n 0, 1) := by decide +kernel
theorem dX8_setFault_1 : decode cX8_setFault 1 = .ok (.iload_n 1, 1) := by decide +kernel
theorem dX8_setFault_2 : decode cX8_setFault 2 = .ok (.invokevirtual 67, 3) := by decide +kernel
theorem dX8_setFault_5 : decode cX8_setFault 5 = .ok (.iload_n 2, 1) := by decide +kernel
theorem dX8_setFault_6 : decode cX8_setFault 6 = .ok (.iconst 0, 1) := by decide +kernel
theorem dX8_setFault_7 : decode cX8_setFault 7 = .ok (.iconst 4, 1) := by decide +kernel
theorem dX8_setFault_8 : decode cX8_setFault 8 = .ok (.invokestatic 37, 3) := by decide +kernel
theorem dX8_setFault_11 : decode cX8_setFault 11 = .ok (.ifCond .ne 13, 3) := by decide +kernel
theorem dX8_setFault_14 : decode cX8_setFault 14 = .ok (.new 41, 3) := by decide +kernel
theorem dX8_setFault_17 : decode cX8_setFault 17 = .ok (.dup, 1) := by decide +kernel
theorem dX8_setFault_18 : decode cX8_setFault 18 = .ok (.ldc 71, 2) := by decide +kernel
theorem dX8_setFault_20 : decode cX8_setFault 20 = .ok (.invokespecial 45, 3) := by decide +kernel
theorem dX8_setFault_23 : decode cX8_setFault 23 = .ok (.athrow, 1) := by decide +kernel
theorem dX8_setFault_24 : decode cX8_setFault 24 = .ok (.aload_n 0, 1) := by decide +kernel
theorem dX8_setFault_25 : decode cX8_setFault 25 = .ok (.invokevirtual 60, 3) := by decide +kernel
theorem dX8_setFault_28 : decode cX8_setFault 28 = .ok (.aload_n 0, 1) := by decide +kernel
theorem dX8_setFault_29 : decode cX8_setFault 29 = .ok (.getfield 10, 3) := by decide +kernel
theorem dX8_setFault_32 : decode cX8_setFault 32 = .ok (.getfield 73, 3) := by decide +kernel
theorem dX8_setFault_35 : decode cX8_setFault 35 = .ok (.iload_n 1, 1) := by decide +kernel
theorem dX8_setFault_36 : decode cX8_setFault 36 = .ok (.aaload, 1) := by decide +kernel
theorem dX8_setFault_37 : decode cX8_setFault 37 = .ok (.astore_n 3, 1) := by decide +kernel
theorem dX8_setFault_38 : decode cX8_setFault 38 = .ok (.aload_n 3, 1) := by decide +kernel
theorem dX8_setFault_39 : decode cX8_setFault 39 = .ok (.getfield 77, 3) := by decide +kernel
theorem dX8_setFault_42 : decode cX8_setFault 42 = .ok (.istore 4, 2) := by decide +kernel
theorem dX8_setFault_44 : decode cX8_setFault 44 = .ok (.aload_n 3, 1) := by decide +kernel
theorem dX8_setFault_45 : decode cX8_setFault 45 = .ok (.iload_n 2, 1) := by decide +kernel
theorem dX8_setFault_46 : decode cX8_setFault 46 = .ok (.putfield 77, 3) := by decide +kernel
theorem dX8_setFault_49 : decode cX8_setFault 49 = .ok (.aload_n 3, 1) := by decide +kernel
theorem dX8_setFault_50 : decode cX8_setFault 50 = .ok (.iconst 0, 1) := by decide +kernel
theorem dX8_setFault_51 : decode cX8_setFault 51 = .ok (.putfield 82, 3) := by decide +kernel
theorem dX8_setFault_54 : decode cX8_setFault 54 = .ok (.iload 4, 2) := by decide +kernel
theorem dX8_setFault_56 : decode cX8_setFault 56 = .ok (.ireturn, 1) := by decide +kernel
set_option maxRecDepth 20000 in
theorem ggX8_setBog_X8_isWithin : GoodIn wsX8_setBog wsX8_isWithin := goodIn_r _ [11] (by decide +kernel) (by decide +kernel)
set_option maxRecDepth 20000 in
theorem gX8_setBog_X8_isWithin : GoodIn wsX8_setBog (va_wsS RX8 37 yX8_isWithin wsX8_isWithin) := goodIn_app (goodIn_of _ (by decide +kernel)) ggX8_setBog_X8_isWithin
set_option maxRecDepth 20000 in
theorem ggX8_setBog_X0_isFull : GoodIn wsX8_setBog wsX0_isFull := goodIn_r _ [16, 17, 132, 133, 134] (by decide +kernel) (by decide +kernel)
set_option maxRecDepth 20000 in
theorem gX8_setBog_X0_isFull : GoodIn wsX8_setBog (wsV RX8 91 RX0 yX0_isFull wsX0_isFull) := goodIn_app (goodIn_of _ (by decide +kernel)) ggX8_setBog_X0_isFull
set_option maxRecDepth 20000 in
theorem ggX8_setBog_X0_indexAt : GoodIn wsX8_setBog wsX0_indexAt := goodIn_r _ [21, 17, 22, 132, 133, 134] (by decide +kernel) (by decide +kernel)
set_option maxRecDepth 20000 in
theorem gX8_setBog_X0_indexAt : GoodIn wsX8_setBog (wsV RX8 97 RX0 yX0_indexAt wsX0_indexAt) := goodIn_app (goodIn_of _ (by decide +kernel)) ggX8_setBog_X0_indexAt
set_option maxRecDepth 20000 in
theorem ggX8_setBog_X8_saveState : GoodIn wsX8_setBog wsX8_saveState := goodIn_r _ [26, 27, 28, 29, 5, 30, 31, 32, 33, 34, 35, 36, 37, 38, 39, 40, 41, 42, 43, 44, 45, 46, 47, 48, 49, 50, 51, 52, 53, 54, 55, 56, 57, 58, 59, 60, 61, 62, 63, 15, 64, 22, 65, 66, 17, 67, 68, 69, 70, 71, 72, 73, 74, 75, 76, 77, 78, 79, 80, 81, 82, 83, 84, 85, 86, 87, 88, 89, 90, 91, 92, 93, 94, 95, 96, 97, 98, 99, 100, 101, 116, 117, 118, 119, 120, 121, 122, 123, 124, 125, 126, 127, 128, 129, 130, 131, 135, 136, 137, 138, 139, 140, 141, 132, 133, 134, 142, 143, 144, 145, 146, 147, 148, 149, 150, 151, 152, 153] (by decide +kernel) (by decide +kernel)
set_option maxRecDepth 20000 in
theorem gX8_setBog_X8_saveState : GoodIn wsX8_setBog (wsV RX8 60 RX8 yX8_saveState wsX8_saveState) := goodIn_app (goodIn_of _ (by decide +kernel)) ggX8_setBog_X8_saveState
set_option maxRecDepth 20000 in
theorem ggX8_setBog_X0_put : GoodIn wsX8_setBog wsX0_put := goodIn_r _ [105, 66, 106, 19, 20, 15, 21, 17, 22, 107, 108, 109, 110, 111, 112, 113, 114, 115, 13, 14, 16, 132, 133, 134] (by decide +kernel) (by decide +kernel)
set_option maxRecDepth 20000 in
theorem gX8_setBog_X0_put : GoodIn wsX8_setBog (wsV RX8 103 RX0 yX0_put wsX0_put) := goodIn_app (goodIn_of _ (by decide +kernel)) ggX8_setBog_X0_put
theorem dX8_setBog_0 : decode cX8_setBog 0 = .ok (.iload_n 1, 1) := by decide +kernel
theorem dX8_setBog_1 : decode cX8_setBog 1 = .ok (.iconst 1, 1) := by decide +kernel
theorem dX8_setBog_2 : decode cX8_setBog 2 = .ok (.bipush 99, 2) := by decide +kernel
theorem dX8_setBog_4 : decode cX8_setBog 4 = .ok (.invokestatic 37, 3) := by decide +kernel
theorem dX8_setBog_7 : decode cX8_setBog 7 = .ok (.ifCond .eq 13, 3) := by decide +kernel
theorem dX8_setBog_10 : decode cX8_setBog 10 = .ok (.iload_n 2, 1) := by decide +kernel
theorem dX8_setBog_11 : decode cX8_setBog 11 = .ok (.iconst 0, 1) := by decide +kernel
theorem dX8_setBog_12 : decode cX8_setBog 12 = .ok (.bipush 50, 2) := by decide +kernel
theorem dX8_setBog_14 : decode cX8_setBog 14 = .ok (.invokestatic 37, 3) := by decide +kernel
theorem dX8_setBog_17 : decode cX8_setBog 17 = .ok (.ifCond .ne 13, 3) := by decide +kernel
theorem dX8_setBog_20 : decode cX8_setBog 20 = .ok (.new 41, 3) := by decide +kernel
theorem dX8_setBog_23 : decode cX8_setBog 23 = .ok (.dup, 1) := by decide +kernel
theorem dX8_setBog_24 : decode cX8_setBog 24 = .ok (.ldc 85, 2) := by decide +kernel
theorem dX8_setBog_26 : decode cX8_setBog 26 = .ok (.invokespecial 45, 3) := by decide +kernel
theorem dX8_setBog_29 : decode cX8_setBog 29 = .ok (.athrow, 1) := by decide +kernel
theorem dX8_setBog_30 : decode cX8_setBog 30 = .ok (.iload_n 2, 1) := by decide +kernel
theorem dX8_setBog_31 : decode cX8_setBog 31 = .ok (.ifCond .eq 41, 3) := by decide +kernel
theorem dX8_setBog_34 : decode cX8_setBog 34 = .ok (.aload_n 0, 1) := by decide +kernel
theorem dX8_setBog_35 : decode cX8_setBog 35 = .ok (.getfield 10, 3) := by decide +kernel
theorem dX8_setBog_38 : decode cX8_setBog 38 = .ok (.getfield 87, 3) := by decide +kernel
theorem dX8_setBog_41 : decode cX8_setBog 41 = .ok (.invokevirtual 91, 3) := by decide +kernel
theorem dX8_setBog_44 : decode cX8_setBog 44 = .ok (.ifCond .eq 28, 3) := by decide +kernel
theorem dX8_setBog_47 : decode cX8_setBog 47 = .ok (.aload_n 0, 1) := by decide +kernel
theorem dX8_setBog_48 : decode cX8_setBog 48 = .ok (.getfield 10, 3) := by decide +kernel
theorem dX8_setBog_51 : decode cX8_setBog 51 = .ok (.getfield 87, 3) := by decide +kernel
theorem dX8_setBog_54 : decode cX8_setBog 54 = .ok (.iload_n 1, 1) := by decide +kernel
theorem dX8_setBog_55 : decode cX8_setBog 55 = .ok (.invokevirtual 97, 3) := by decide +kernel
theorem dX8_setBog_58 : decode cX8_setBog 58 = .ok (.iconst (-1), 1) := by decide +kernel
theorem dX8_setBog_59 : decode cX8_setBog 59 = .ok (.if_icmp .ne 13, 3) := by decide +kernel
theorem dX8_setBog_62 : decode cX8_setBog 62 = .ok (.new 55, 3) := by decide +kernel
theorem dX8_setBog_65 : decode cX8_setBog 65 = .ok (.dup, 1) := by decide +kernel
theorem dX8_setBog_66 : decode cX8_setBog 66 = .ok (.ldc 101, 2) := by decide +kernel
theorem dX8_setBog_68 : decode cX8_setBog 68 = .ok (.invokespecial 59, 3) := by decide +kernel
theorem dX8_setBog_71 : decode cX8_setBog 71 = .ok (.athrow, 1) := by decide +kernel
theorem dX8_setBog_72 : decode cX8_setBog 72 = .ok (.aload_n 0, 1) := by decide +kernel
theorem dX8_setBog_73 : decode cX8_setBog 73 = .ok (.invokevirtual 60, 3) := by decide +kernel
theorem dX8_setBog_76 : decode cX8_setBog 76 = .ok (.aload_n 0, 1) := by decide +kernel
theorem dX8_setBog_77 : decode cX8_setBog 77 = .ok (.getfield 10, 3) := by decide +kernel
theorem dX8_setBog_80 : decode cX8_setBog 80 = .ok (.getfield 87, 3) := by decide +kernel
theorem dX8_setBog_83 : decode cX8_setBog 83 = .ok (.iload_n 1, 1) := by decide +kernel
theorem dX8_setBog_84 : decode cX8_setBog 84 = .ok (.iload_n 2, 1) := by decide +kernel
theorem dX8_setBog_85 : decode cX8_setBog 85 = .ok (.invokevirtual 103, 3) := by decide +kernel
theorem dX8_setBog_88 : decode cX8_setBog 88 = .ok (.aload_n 0, 1) := by decide +kernel
theorem dX8_setBog_89 : decode cX8_setBog 89 = .ok (.getfield 10, 3) := by decide +kernel
theorem dX8_setBog_92 : decode cX8_setBog 92 = .ok (.getfield 87, 3) := by decide +kernel
theorem dX8_setBog_95 : decode cX8_setBog 95 = .ok (.getfield 107, 3) := by decide +kernel
theorem dX8_setBog_98 : decode cX8_setBog 98 = .ok (.ireturn, 1) := by decide +kernel
set_option maxRecDepth 20000 in
theorem ggX8_set_X8_requireSetting : GoodIn wsX8_set wsX8_requireSetting := goodIn_r _ [10, 11, 12, 13, 14, 9, 15] (by decide +kernel) (by decide +kernel)
set_option maxRecDepth 20000 in
theorem gX8_set_X8_requireSetting : GoodIn wsX8_set (va_wsS RX8 110 yX8_requireSetting wsX8_requireSetting) := goodIn_app (goodIn_of _ (by decide +kernel)) ggX8_set_X8_requireSetting
set_option maxRecDepth 20000 in
theorem ggX8_set_X8_isWithin : GoodIn wsX8_set wsX8_isWithin := goodIn_r _ [15] (by decide +kernel) (by decide +kernel)
set_option maxRecDepth 20000 in
theorem gX8_set_X8_isWithin : GoodIn wsX8_set (va_wsS RX8 37 yX8_isWithin wsX8_isWithin) := goodIn_app (goodIn_of _ (by decide +kernel)) ggX8_set_X8_isWithin
set_option maxRecDepth 20000 in
theorem ggX8_set_X8_saveState : GoodIn wsX8_set wsX8_saveState := goodIn_r _ [19, 20, 21, 22, 5, 23, 24, 25, 26, 27, 28, 29, 30, 31, 32, 33, 34, 35, 36, 37, 38, 39, 40, 41, 42, 43, 44, 45, 46, 47, 48, 49, 50, 51, 52, 53, 54, 55, 56, 57, 58, 59, 60, 61, 62, 63, 64, 65, 66, 67, 68, 69, 70, 71, 72, 73, 74, 75, 76, 77, 78, 79, 80, 81, 82, 83, 84, 85, 86, 87, 88, 89, 90, 91, 92, 93, 94, 95, 96, 97, 98, 99, 100, 101, 102, 103, 104, 105, 106, 107, 108, 109, 110, 111, 112, 113, 114, 115, 116, 117, 118, 119, 120, 121, 122, 123, 124, 125, 126, 127, 128, 129, 130, 131, 132, 133, 134, 135] (by decide +kernel) (by decide +kernel)
set_option maxRecDepth 20000 in
theorem gX8_set_X8_saveState : GoodIn wsX8_set (wsV RX8 60 RX8 yX8_saveState wsX8_saveState) := goodIn_app (goodIn_of _ (by decide +kernel)) ggX8_set_X8_saveState
theorem dX8_set_0 : decode cX8_set 0 = .ok (.iload_n 1, 1) := by decide +kernel
theorem dX8_set_1 : decode cX8_set 1 = .ok (.invokestatic 110, 3) := by decide +kernel
theorem dX8_set_4 : decode cX8_set 4 = .ok (.iload_n 2, 1) := by decide +kernel
theorem dX8_set_5 : decode cX8_set 5 = .ok (.getstatic 113, 3) := by decide +kernel
theorem dX8_set_8 : decode cX8_set 8 = .ok (.iload_n 1, 1) := by decide +kernel
theorem dX8_set_9 : decode cX8_set 9 = .ok (.iaload, 1) := by decide +kernel
theorem dX8_set_10 : decode cX8_set 10 = .ok (.getstatic 117, 3) := by decide +kernel
theorem dX8_set_13 : decode cX8_set 13 = .ok (.iload_n 1, 1) := by decide +kernel
theorem dX8_set_14 : decode cX8_set 14 = .ok (.iaload, 1) := by decide +kernel
theorem dX8_set_15 : decode cX8_set 15 = .ok (.invokestatic 37, 3) := by decide +kernel
theorem dX8_set_18 : decode cX8_set 18 = .ok (.ifCond .ne 13, 3) := by decide +kernel
theorem dX8_set_21 : decode cX8_set 21 = .ok (.new 41, 3) := by decide +kernel
theorem dX8_set_24 : decode cX8_set 24 = .ok (.dup, 1) := by decide +kernel
theorem dX8_set_25 : decode cX8_set 25 = .ok (.ldc 120, 2) := by decide +kernel
theorem dX8_set_27 : decode cX8_set 27 = .ok (.invokespecial 45, 3) := by decide +kernel
theorem dX8_set_30 : decode cX8_set 30 = .ok (.athrow, 1) := by decide +kernel
theorem dX8_set_31 : decode cX8_set 31 = .ok (.aload_n 0, 1) := by decide +kernel
theorem dX8_set_32 : decode cX8_set 32 = .ok (.invokevirtual 60, 3) := by decide +kernel
theorem dX8_set_35 : decode cX8_set 35 = .ok (.aload_n 0, 1) := by decide +kernel
theorem dX8_set_36 : decode cX8_set 36 = .ok (.getfield 10, 3) := by decide +kernel
theorem dX8_set_39 : decode cX8_set 39 = .ok (.getfield 122, 3) := by decide +kernel
theorem dX8_set_42 : decode cX8_set 42 = .ok (.iload_n 1, 1) := by decide +kernel
theorem dX8_set_43 : decode cX8_set 43 = .ok (.iaload, 1) := by decide +kernel
theorem dX8_set_44 : decode cX8_set 44 = .ok (.istore_n 3, 1) := by decide +kernel
theorem dX8_set_45 : decode cX8_set 45 = .ok (.aload_n 0, 1) := by decide +kernel
theorem dX8_set_46 : decode cX8_set 46 = .ok (.getfield 10, 3) := by decide +kernel
theorem dX8_set_49 : decode cX8_set 49 = .ok (.getfield 122, 3) := by decide +kernel
theorem dX8_set_52 : decode cX8_set 52 = .ok (.iload_n 1, 1) := by decide +kernel
theorem dX8_set_53 : decode cX8_set 53 = .ok (.iload_n 2, 1) := by decide +kernel
theorem dX8_set_54 : decode cX8_set 54 = .ok (.iastore, 1) := by decide +kernel
theorem dX8_set_55 : decode cX8_set 55 = .ok (.iload_n 3, 1) := by decide +kernel
theorem dX8_set_56 : decode cX8_set 56 = .ok (.ireturn, 1) := by decide +kernel
set_option maxRecDepth 20000 in
theorem ggX8_plan_X8_requireTurbine : GoodIn wsX8_plan wsX8_requireTurbine := goodIn_r _ [10, 1, 2, 3, 11, 12, 13, 14, 15, 16, 116, 117, 118, 119, 120, 121, 122, 123, 124, 125, 126, 127, 128, 129, 130, 131] (by decide +kernel) (by decide +kernel)
set_option maxRecDepth 20000 in
theorem gX8_plan_X8_requireTurbine : GoodIn wsX8_plan (wsV RX8 67 RX8 yX8_requireTurbine wsX8_requireTurbine) := goodIn_app (goodIn_of _ (by decide +kernel)) ggX8_plan_X8_requireTurbine
set_option maxRecDepth 20000 in
theorem ggX8_plan_X4_countWithout : GoodIn wsX8_plan wsX4_countWithout := goodIn_r _ [21, 22, 23, 24, 25, 20, 26, 27, 132, 133] (by decide +kernel) (by decide +kernel)
set_option maxRecDepth 20000 in
theorem gX8_plan_X4_countWithout : GoodIn wsX8_plan (wsV RX8 129 RX4 yX4_countWithout wsX4_countWithout) := goodIn_app (goodIn_of _ (by decide +kernel)) ggX8_plan_X4_countWithout
set_option maxRecDepth 20000 in
theorem ggX8_plan_X8_isWithin : GoodIn wsX8_plan wsX8_isWithin := goodIn_r _ [30] (by decide +kernel) (by decide +kernel)
set_option maxRecDepth 20000 in
theorem gX8_plan_X8_isWithin : GoodIn wsX8_plan (va_wsS RX8 37 yX8_isWithin wsX8_isWithin) := goodIn_app (goodIn_of _ (by decide +kernel)) ggX8_plan_X8_isWithin
set_option maxRecDepth 20000 in
theorem ggX8_plan_X8_saveState : GoodIn wsX8_plan wsX8_saveState := goodIn_r _ [34, 35, 36, 37, 3, 38, 39, 40, 14, 41, 16, 42, 43, 44, 45, 46, 47, 48, 49, 50, 51, 52, 53, 54, 55, 56, 57, 58, 59, 60, 61, 62, 63, 64, 65, 66, 67, 68, 69, 70, 71, 72, 73, 74, 75, 76, 77, 78, 79, 80, 81, 82, 83, 84, 85, 86, 87, 20, 88, 27, 89, 22, 90, 91, 92, 93, 94, 95, 96, 97, 98, 99, 100, 101, 102, 103, 104, 105, 106, 107, 116, 117, 118, 119, 120, 121, 122, 123, 124, 125, 126, 127, 128, 129, 130, 131, 134, 135, 136, 137, 138, 139, 140, 141, 142, 143, 144, 145, 146, 132, 133, 147, 148, 149, 150, 151, 152, 153] (by decide +kernel) (by decide +kernel)
set_option maxRecDepth 20000 in
theorem gX8_plan_X8_saveState : GoodIn wsX8_plan (wsV RX8 60 RX8 yX8_saveState wsX8_saveState) := goodIn_app (goodIn_of _ (by decide +kernel)) ggX8_plan_X8_saveState
set_option maxRecDepth 20000 in
theorem ggX8_plan_X4_moveTo : GoodIn wsX8_plan wsX4_moveTo := goodIn_r _ [111, 22, 27, 23, 24, 25, 20, 26, 112, 113, 114, 115, 132, 133] (by decide +kernel) (by decide +kernel)
set_option maxRecDepth 20000 in
theorem gX8_plan_X4_moveTo : GoodIn wsX8_plan (wsV RX8 139 RX4 yX4_moveTo wsX4_moveTo) := goodIn_app (goodIn_of _ (by decide +kernel)) ggX8_plan_X4_moveTo
theorem dX8_plan_0 : decode cX8_plan 0 = .ok (.aload_n 0, 1) := by decide +kernel
theorem dX8_plan_1 : decode cX8_plan 1 = .ok (.iload_n 1, 1) := by decide +kernel
theorem dX8_plan_2 : decode cX8_plan 2 = .ok (.invokevirtual 67, 3) := by decide +kernel
theorem dX8_plan_5 : decode cX8_plan 5 = .ok (.iload_n 2, 1) := by decide +kernel
theorem dX8_plan_6 : decode cX8_plan 6 = .ok (.iconst 0, 1) := by decide +kernel
theorem dX8_plan_7 : decode cX8_plan 7 = .ok (.aload_n 0, 1) := by decide +kernel
theorem dX8_plan_8 : decode cX8_plan 8 = .ok (.getfield 10, 3) := by decide +kernel
theorem dX8_plan_11 : decode cX8_plan 11 = .ok (.getfield 125, 3) := by decide +kernel
theorem dX8_plan_14 : decode cX8_plan 14 = .ok (.iload_n 1, 1) := by decide +kernel
theorem dX8_plan_15 : decode cX8_plan 15 = .ok (.invokevirtual 129, 3) := by decide +kernel
theorem dX8_plan_18 : decode cX8_plan 18 = .ok (.invokestatic 37, 3) := by decide +kernel
theorem dX8_plan_21 : decode cX8_plan 21 = .ok (.ifCond .ne 13, 3) := by decide +kernel
theorem dX8_plan_24 : decode cX8_plan 24 = .ok (.new 134, 3) := by decide +kernel
theorem dX8_plan_27 : decode cX8_plan 27 = .ok (.dup, 1) := by decide +kernel
theorem dX8_plan_28 : decode cX8_plan 28 = .ok (.ldc 136, 2) := by decide +kernel
theorem dX8_plan_30 : decode cX8_plan 30 = .ok (.invokespecial 138, 3) := by decide +kernel
theorem dX8_plan_33 : decode cX8_plan 33 = .ok (.athrow, 1) := by decide +kernel
theorem dX8_plan_34 : decode cX8_plan 34 = .ok (.aload_n 0, 1) := by decide +kernel
theorem dX8_plan_35 : decode cX8_plan 35 = .ok (.invokevirtual 60, 3) := by decide +kernel
theorem dX8_plan_38 : decode cX8_plan 38 = .ok (.aload_n 0, 1) := by decide +kernel
theorem dX8_plan_39 : decode cX8_plan 39 = .ok (.getfield 10, 3) := by decide +kernel
theorem dX8_plan_42 : decode cX8_plan 42 = .ok (.getfield 125, 3) := by decide +kernel
theorem dX8_plan_45 : decode cX8_plan 45 = .ok (.iload_n 1, 1) := by decide +kernel
theorem dX8_plan_46 : decode cX8_plan 46 = .ok (.iload_n 2, 1) := by decide +kernel
theorem dX8_plan_47 : decode cX8_plan 47 = .ok (.invokevirtual 139, 3) := by decide +kernel
theorem dX8_plan_50 : decode cX8_plan 50 = .ok (.aload_n 0, 1) := by decide +kernel
theorem dX8_plan_51 : decode cX8_plan 51 = .ok (.getfield 10, 3) := by decide +kernel
theorem dX8_plan_54 : decode cX8_plan 54 = .ok (.getfield 125, 3) := by decide +kernel
theorem dX8_plan_57 : decode cX8_plan 57 = .ok (.getfield 142, 3) := by decide +kernel
theorem dX8_plan_60 : decode cX8_plan 60 = .ok (.ireturn, 1) := by decide +kernel
set_option maxRecDepth 20000 in
theorem ggX8_unplan_X8_requireTurbine : GoodIn wsX8_unplan wsX8_requireTurbine := goodIn_r _ [9, 10, 11, 3, 12, 13, 14, 15, 16, 17, 106, 107, 108, 109, 110, 111, 112, 113, 114, 115, 116, 117, 118, 119, 120, 121] (by decide +kernel) (by decide +kernel)
set_option maxRecDepth 20000 in
theorem gX8_unplan_X8_requireTurbine : GoodIn wsX8_unplan (wsV RX8 67 RX8 yX8_requireTurbine wsX8_requireTurbine) := goodIn_app (goodIn_of _ (by decide +kernel)) ggX8_unplan_X8_requireTurbine
set_option maxRecDepth 20000 in
theorem ggX8_unplan_X4_placeOf : GoodIn wsX8_unplan wsX4_placeOf := goodIn_r _ [22, 23, 24, 122, 123] (by decide +kernel) (by decide +kernel)
set_option maxRecDepth 20000 in
theorem gX8_unplan_X4_placeOf : GoodIn wsX8_unplan (wsV RX8 143 RX4 yX4_placeOf wsX4_placeOf) := goodIn_app (goodIn_of _ (by decide +kernel)) ggX8_unplan_X4_placeOf
set_option maxRecDepth 20000 in
theorem ggX8_unplan_X8_saveState : GoodIn wsX8_unplan wsX8_saveState := goodIn_r _ [28, 29, 30, 31, 3, 32, 33, 34, 15, 35, 17, 36, 37, 38, 39, 40, 41, 42, 43, 44, 45, 46, 47, 48, 49, 50, 51, 52, 53, 54, 55, 56, 57, 58, 59, 60, 61, 62, 63, 64, 65, 66, 67, 68, 69, 70, 71, 72, 73, 74, 75, 76, 77, 78, 79, 80, 81, 21, 82, 24, 83, 23, 84, 85, 86, 87, 88, 89, 90, 91, 92, 93, 94, 95, 96, 97, 98, 99, 100, 101, 106, 107, 108, 109, 110, 111, 112, 113, 114, 115, 116, 117, 118, 119, 120, 121, 124, 125, 126, 127, 128, 129, 130, 131, 132, 133, 134, 135, 136, 122, 123, 137, 138, 139, 140, 141, 142, 143] (by decide +kernel) (by decide +kernel)
set_option maxRecDepth 20000 in
theorem gX8_unplan_X8_saveState : GoodIn wsX8_unplan (wsV RX8 60 RX8 yX8_saveState wsX8_saveState) := goodIn_app (goodIn_of _ (by decide +kernel)) ggX8_unplan_X8_saveState
set_option maxRecDepth 20000 in
theorem ggX8_unplan_X4_removeAt : GoodIn wsX8_unplan wsX4_removeAt := goodIn_r _ [105, 23, 24, 122, 123] (by decide +kernel) (by decide +kernel)
set_option maxRecDepth 20000 in
theorem gX8_unplan_X4_removeAt : GoodIn wsX8_unplan (wsV RX8 148 RX4 yX4_removeAt wsX4_removeAt) := goodIn_app (goodIn_of _ (by decide +kernel)) ggX8_unplan_X4_removeAt
