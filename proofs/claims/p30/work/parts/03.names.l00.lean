theorem dL_cell_0 : decode cL_cell 0 = .ok (.iload_n 1, 1) := by decide +kernel
theorem dL_cell_1 : decode cL_cell 1 = .ok (.aload_n 0, 1) := by decide +kernel
theorem dL_cell_2 : decode cL_cell 2 = .ok (.arraylength, 1) := by decide +kernel
theorem dL_cell_3 : decode cL_cell 3 = .ok (.if_icmp .ge 9, 3) := by decide +kernel
theorem dL_cell_6 : decode cL_cell 6 = .ok (.aload_n 0, 1) := by decide +kernel
theorem dL_cell_7 : decode cL_cell 7 = .ok (.iload_n 1, 1) := by decide +kernel
theorem dL_cell_8 : decode cL_cell 8 = .ok (.iaload, 1) := by decide +kernel
theorem dL_cell_9 : decode cL_cell 9 = .ok (.goto 9, 3) := by decide +kernel
theorem dL_cell_12 : decode cL_cell 12 = .ok (.ldc 7, 2) := by decide +kernel
theorem dL_cell_14 : decode cL_cell 14 = .ok (.iload_n 1, 1) := by decide +kernel
theorem dL_cell_15 : decode cL_cell 15 = .ok (.iconst 1, 1) := by decide +kernel
theorem dL_cell_16 : decode cL_cell 16 = .ok (.iadd, 1) := by decide +kernel
theorem dL_cell_17 : decode cL_cell 17 = .ok (.imul, 1) := by decide +kernel
theorem dL_cell_18 : decode cL_cell 18 = .ok (.ireturn, 1) := by decide +kernel
theorem dL_at_0 : decode cL_at 0 = .ok (.iload_n 0, 1) := by decide +kernel
theorem dL_at_1 : decode cL_at 1 = .ok (.iconst 1, 1) := by decide +kernel
theorem dL_at_2 : decode cL_at 2 = .ok (.iushr, 1) := by decide +kernel
theorem dL_at_3 : decode cL_at 3 = .ok (.iload_n 1, 1) := by decide +kernel
theorem dL_at_4 : decode cL_at 4 = .ok (.irem, 1) := by decide +kernel
theorem dL_at_5 : decode cL_at 5 = .ok (.ireturn, 1) := by decide +kernel
theorem dL_abs_0 : decode cL_abs 0 = .ok (.iload_n 0, 1) := by decide +kernel
theorem dL_abs_1 : decode cL_abs 1 = .ok (.ifCond .ge 8, 3) := by decide +kernel
theorem dL_abs_4 : decode cL_abs 4 = .ok (.iload_n 0, 1) := by decide +kernel
theorem dL_abs_5 : decode cL_abs 5 = .ok (.ineg, 1) := by decide +kernel
theorem dL_abs_6 : decode cL_abs 6 = .ok (.goto 4, 3) := by decide +kernel
theorem dL_abs_9 : decode cL_abs 9 = .ok (.iload_n 0, 1) := by decide +kernel
theorem dL_abs_10 : decode cL_abs 10 = .ok (.ireturn, 1) := by decide +kernel
theorem dL_way_0 : decode cL_way 0 = .ok (.iload_n 0, 1) := by decide +kernel
theorem dL_way_1 : decode cL_way 1 = .ok (.iload_n 1, 1) := by decide +kernel
theorem dL_way_2 : decode cL_way 2 = .ok (.isub, 1) := by decide +kernel
theorem dL_way_3 : decode cL_way 3 = .ok (.invokestatic 8, 3) := by decide +kernel
theorem dL_way_6 : decode cL_way 6 = .ok (.aload_n 2, 1) := by decide +kernel
theorem dL_way_7 : decode cL_way 7 = .ok (.iconst 1, 1) := by decide +kernel
theorem dL_way_8 : decode cL_way 8 = .ok (.iaload, 1) := by decide +kernel
theorem dL_way_9 : decode cL_way 9 = .ok (.idiv, 1) := by decide +kernel
theorem dL_way_10 : decode cL_way 10 = .ok (.istore 5, 2) := by decide +kernel
theorem dL_way_12 : decode cL_way 12 = .ok (.iload 5, 2) := by decide +kernel
theorem dL_way_14 : decode cL_way 14 = .ok (.aload_n 2, 1) := by decide +kernel
theorem dL_way_15 : decode cL_way 15 = .ok (.iconst 1, 1) := by decide +kernel
theorem dL_way_16 : decode cL_way 16 = .ok (.iaload, 1) := by decide +kernel
theorem dL_way_17 : decode cL_way 17 = .ok (.imul, 1) := by decide +kernel
theorem dL_way_18 : decode cL_way 18 = .ok (.iload_n 0, 1) := by decide +kernel
theorem dL_way_19 : decode cL_way 19 = .ok (.iload_n 1, 1) := by decide +kernel
theorem dL_way_20 : decode cL_way 20 = .ok (.isub, 1) := by decide +kernel
theorem dL_way_21 : decode cL_way 21 = .ok (.invokestatic 8, 3) := by decide +kernel
theorem dL_way_24 : decode cL_way 24 = .ok (.if_icmp .ge 6, 3) := by decide +kernel
theorem dL_way_27 : decode cL_way 27 = .ok (.iinc 5 1, 3) := by decide +kernel
theorem dL_way_30 : decode cL_way 30 = .ok (.iconst 0, 1) := by decide +kernel
theorem dL_way_31 : decode cL_way 31 = .ok (.istore 6, 2) := by decide +kernel
theorem dL_way_33 : decode cL_way 33 = .ok (.iload 6, 2) := by decide +kernel
theorem dL_way_35 : decode cL_way 35 = .ok (.aload 4, 2) := by decide +kernel
theorem dL_way_37 : decode cL_way 37 = .ok (.bipush 8, 2) := by decide +kernel
theorem dL_way_39 : decode cL_way 39 = .ok (.iaload, 1) := by decide +kernel
theorem dL_way_40 : decode cL_way 40 = .ok (.if_icmp .ge 52, 3) := by decide +kernel
theorem dL_way_43 : decode cL_way 43 = .ok (.aload_n 3, 1) := by decide +kernel
theorem dL_way_44 : decode cL_way 44 = .ok (.iconst 2, 1) := by decide +kernel
theorem dL_way_45 : decode cL_way 45 = .ok (.iload 6, 2) := by decide +kernel
theorem dL_way_47 : decode cL_way 47 = .ok (.imul, 1) := by decide +kernel
theorem dL_way_48 : decode cL_way 48 = .ok (.iaload, 1) := by decide +kernel
theorem dL_way_49 : decode cL_way 49 = .ok (.iload_n 0, 1) := by decide +kernel
theorem dL_way_50 : decode cL_way 50 = .ok (.isub, 1) := by decide +kernel
theorem dL_way_51 : decode cL_way 51 = .ok (.aload_n 3, 1) := by decide +kernel
theorem dL_way_52 : decode cL_way 52 = .ok (.iconst 2, 1) := by decide +kernel
theorem dL_way_53 : decode cL_way 53 = .ok (.iload 6, 2) := by decide +kernel
theorem dL_way_55 : decode cL_way 55 = .ok (.imul, 1) := by decide +kernel
theorem dL_way_56 : decode cL_way 56 = .ok (.iaload, 1) := by decide +kernel
theorem dL_way_57 : decode cL_way 57 = .ok (.iload_n 1, 1) := by decide +kernel
theorem dL_way_58 : decode cL_way 58 = .ok (.isub, 1) := by decide +kernel
theorem dL_way_59 : decode cL_way 59 = .ok (.imul, 1) := by decide +kernel
theorem dL_way_60 : decode cL_way 60 = .ok (.ifCond .ge 26, 3) := by decide +kernel
theorem dL_way_63 : decode cL_way 63 = .ok (.aload_n 3, 1) := by decide +kernel
theorem dL_way_64 : decode cL_way 64 = .ok (.iconst 2, 1) := by decide +kernel
theorem dL_way_65 : decode cL_way 65 = .ok (.iload 6, 2) := by decide +kernel
theorem dL_way_67 : decode cL_way 67 = .ok (.imul, 1) := by decide +kernel
theorem dL_way_68 : decode cL_way 68 = .ok (.iconst 1, 1) := by decide +kernel
theorem dL_way_69 : decode cL_way 69 = .ok (.iadd, 1) := by decide +kernel
theorem dL_way_70 : decode cL_way 70 = .ok (.iaload, 1) := by decide +kernel
theorem dL_way_71 : decode cL_way 71 = .ok (.aload_n 2, 1) := by decide +kernel
theorem dL_way_72 : decode cL_way 72 = .ok (.bipush 6, 2) := by decide +kernel
theorem dL_way_74 : decode cL_way 74 = .ok (.iaload, 1) := by decide +kernel
theorem dL_way_75 : decode cL_way 75 = .ok (.if_icmp .le 11, 3) := by decide +kernel
theorem dL_way_78 : decode cL_way 78 = .ok (.iload 5, 2) := by decide +kernel
theorem dL_way_80 : decode cL_way 80 = .ok (.aload_n 2, 1) := by decide +kernel
theorem dL_way_81 : decode cL_way 81 = .ok (.iconst 4, 1) := by decide +kernel
theorem dL_way_82 : decode cL_way 82 = .ok (.iaload, 1) := by decide +kernel
theorem dL_way_83 : decode cL_way 83 = .ok (.iadd, 1) := by decide +kernel
theorem dL_way_84 : decode cL_way 84 = .ok (.istore 5, 2) := by decide +kernel
theorem dL_way_86 : decode cL_way 86 = .ok (.iinc 6 1, 3) := by decide +kernel
theorem dL_way_89 : decode cL_way 89 = .ok (.goto (-56), 3) := by decide +kernel
theorem dL_way_92 : decode cL_way 92 = .ok (.iload 5, 2) := by decide +kernel
theorem dL_way_94 : decode cL_way 94 = .ok (.ireturn, 1) := by decide +kernel
theorem dL_wind_0 : decode cL_wind 0 = .ok (.aload_n 1, 1) := by decide +kernel
theorem dL_wind_1 : decode cL_wind 1 = .ok (.iconst 0, 1) := by decide +kernel
theorem dL_wind_2 : decode cL_wind 2 = .ok (.iaload, 1) := by decide +kernel
theorem dL_wind_3 : decode cL_wind 3 = .ok (.ifCond .ne 8, 3) := by decide +kernel
theorem dL_wind_6 : decode cL_wind 6 = .ok (.bipush 8, 2) := by decide +kernel
theorem dL_wind_8 : decode cL_wind 8 = .ok (.goto 12, 3) := by decide +kernel
theorem dL_wind_11 : decode cL_wind 11 = .ok (.aload_n 1, 1) := by decide +kernel
theorem dL_wind_12 : decode cL_wind 12 = .ok (.iconst 1, 1) := by decide +kernel
theorem dL_wind_13 : decode cL_wind 13 = .ok (.iload_n 0, 1) := by decide +kernel
theorem dL_wind_14 : decode cL_wind 14 = .ok (.aload_n 1, 1) := by decide +kernel
theorem dL_wind_15 : decode cL_wind 15 = .ok (.iconst 0, 1) := by decide +kernel
theorem dL_wind_16 : decode cL_wind 16 = .ok (.iaload, 1) := by decide +kernel
theorem dL_wind_17 : decode cL_wind 17 = .ok (.irem, 1) := by decide +kernel
theorem dL_wind_18 : decode cL_wind 18 = .ok (.iadd, 1) := by decide +kernel
theorem dL_wind_19 : decode cL_wind 19 = .ok (.iaload, 1) := by decide +kernel
theorem dL_wind_20 : decode cL_wind 20 = .ok (.ireturn, 1) := by decide +kernel
theorem dL_power_0 : decode cL_power 0 = .ok (.iload_n 1, 1) := by decide +kernel
theorem dL_power_1 : decode cL_power 1 = .ok (.iconst 3, 1) := by decide +kernel
theorem dL_power_2 : decode cL_power 2 = .ok (.if_icmp .lt 9, 3) := by decide +kernel
theorem dL_power_5 : decode cL_power 5 = .ok (.iload_n 1, 1) := by decide +kernel
theorem dL_power_6 : decode cL_power 6 = .ok (.bipush 25, 2) := by decide +kernel
theorem dL_power_8 : decode cL_power 8 = .ok (.if_icmp .le 5, 3) := by decide +kernel
theorem dL_power_11 : decode cL_power 11 = .ok (.iconst 0, 1) := by decide +kernel
theorem dL_power_12 : decode cL_power 12 = .ok (.ireturn, 1) := by decide +kernel
theorem dL_power_13 : decode cL_power 13 = .ok (.iload_n 1, 1) := by decide +kernel
theorem dL_power_14 : decode cL_power 14 = .ok (.bipush 12, 2) := by decide +kernel
theorem dL_power_16 : decode cL_power 16 = .ok (.if_icmp .le 14, 3) := by decide +kernel
theorem dL_power_19 : decode cL_power 19 = .ok (.aload_n 2, 1) := by decide +kernel
theorem dL_power_20 : decode cL_power 20 = .ok (.bipush 7, 2) := by decide +kernel
theorem dL_power_22 : decode cL_power 22 = .ok (.iload_n 0, 1) := by decide +kernel
theorem dL_power_23 : decode cL_power 23 = .ok (.imul, 1) := by decide +kernel
theorem dL_power_24 : decode cL_power 24 = .ok (.iconst 2, 1) := by decide +kernel
theorem dL_power_25 : decode cL_power 25 = .ok (.iadd, 1) := by decide +kernel
theorem dL_power_26 : decode cL_power 26 = .ok (.iaload, 1) := by decide +kernel
theorem dL_power_27 : decode cL_power 27 = .ok (.goto 16, 3) := by decide +kernel
theorem dL_power_30 : decode cL_power 30 = .ok (.aload_n 2, 1) := by decide +kernel
theorem dL_power_31 : decode cL_power 31 = .ok (.bipush 7, 2) := by decide +kernel
theorem dL_power_33 : decode cL_power 33 = .ok (.iload_n 0, 1) := by decide +kernel
theorem dL_power_34 : decode cL_power 34 = .ok (.imul, 1) := by decide +kernel
theorem dL_power_35 : decode cL_power 35 = .ok (.iconst 2, 1) := by decide +kernel
theorem dL_power_36 : decode cL_power 36 = .ok (.iadd, 1) := by decide +kernel
theorem dL_power_37 : decode cL_power 37 = .ok (.iaload, 1) := by decide +kernel
theorem dL_power_38 : decode cL_power 38 = .ok (.iload_n 1, 1) := by decide +kernel
theorem dL_power_39 : decode cL_power 39 = .ok (.imul, 1) := by decide +kernel
theorem dL_power_40 : decode cL_power 40 = .ok (.bipush 12, 2) := by decide +kernel
theorem dL_power_42 : decode cL_power 42 = .ok (.idiv, 1) := by decide +kernel
theorem dL_power_43 : decode cL_power 43 = .ok (.ireturn, 1) := by decide +kernel
theorem dL_off_0 : decode cL_off 0 = .ok (.iload_n 0, 1) := by decide +kernel
theorem dL_off_1 : decode cL_off 1 = .ok (.iconst 1, 1) := by decide +kernel
theorem dL_off_2 : decode cL_off 2 = .ok (.iadd, 1) := by decide +kernel
theorem dL_off_3 : decode cL_off 3 = .ok (.istore_n 2, 1) := by decide +kernel
theorem dL_off_4 : decode cL_off 4 = .ok (.iload_n 2, 1) := by decide +kernel
theorem dL_off_5 : decode cL_off 5 = .ok (.aload_n 1, 1) := by decide +kernel
theorem dL_off_6 : decode cL_off 6 = .ok (.iconst 0, 1) := by decide +kernel
theorem dL_off_7 : decode cL_off 7 = .ok (.iaload, 1) := by decide +kernel
theorem dL_off_8 : decode cL_off 8 = .ok (.if_icmp .ge 17, 3) := by decide +kernel
theorem dL_off_11 : decode cL_off 11 = .ok (.aload_n 1, 1) := by decide +kernel
theorem dL_off_12 : decode cL_off 12 = .ok (.iload_n 2, 1) := by decide +kernel
theorem dL_off_13 : decode cL_off 13 = .ok (.aload_n 1, 1) := by decide +kernel
theorem dL_off_14 : decode cL_off 14 = .ok (.iload_n 2, 1) := by decide +kernel
theorem dL_off_15 : decode cL_off 15 = .ok (.iconst 1, 1) := by decide +kernel
theorem dL_off_16 : decode cL_off 16 = .ok (.iadd, 1) := by decide +kernel
theorem dL_off_17 : decode cL_off 17 = .ok (.iaload, 1) := by decide +kernel
theorem dL_off_18 : decode cL_off 18 = .ok (.iastore, 1) := by decide +kernel
theorem dL_off_19 : decode cL_off 19 = .ok (.iinc 2 1, 3) := by decide +kernel
theorem dL_off_22 : decode cL_off 22 = .ok (.goto (-18), 3) := by decide +kernel
theorem dL_off_25 : decode cL_off 25 = .ok (.aload_n 1, 1) := by decide +kernel
theorem dL_off_26 : decode cL_off 26 = .ok (.iconst 0, 1) := by decide +kernel
theorem dL_off_27 : decode cL_off 27 = .ok (.dup2, 1) := by decide +kernel
theorem dL_off_28 : decode cL_off 28 = .ok (.iaload, 1) := by decide +kernel
theorem dL_off_29 : decode cL_off 29 = .ok (.iconst 1, 1) := by decide +kernel
theorem dL_off_30 : decode cL_off 30 = .ok (.isub, 1) := by decide +kernel
theorem dL_off_31 : decode cL_off 31 = .ok (.iastore, 1) := by decide +kernel
theorem dL_off_32 : decode cL_off 32 = .ok (.return_, 1) := by decide +kernel
theorem dL_ready_0 : decode cL_ready 0 = .ok (.iconst 0, 1) := by decide +kernel
theorem dL_ready_1 : decode cL_ready 1 = .ok (.istore_n 3, 1) := by decide +kernel
theorem dL_ready_2 : decode cL_ready 2 = .ok (.iload_n 3, 1) := by decide +kernel
theorem dL_ready_3 : decode cL_ready 3 = .ok (.aload_n 2, 1) := by decide +kernel
theorem dL_ready_4 : decode cL_ready 4 = .ok (.bipush 7, 2) := by decide +kernel
theorem dL_ready_6 : decode cL_ready 6 = .ok (.iaload, 1) := by decide +kernel
theorem dL_ready_7 : decode cL_ready 7 = .ok (.if_icmp .ge 30, 3) := by decide +kernel
theorem dL_ready_10 : decode cL_ready 10 = .ok (.aload_n 1, 1) := by decide +kernel
theorem dL_ready_11 : decode cL_ready 11 = .ok (.iconst 2, 1) := by decide +kernel
theorem dL_ready_12 : decode cL_ready 12 = .ok (.iload_n 3, 1) := by decide +kernel
theorem dL_ready_13 : decode cL_ready 13 = .ok (.imul, 1) := by decide +kernel
theorem dL_ready_14 : decode cL_ready 14 = .ok (.iaload, 1) := by decide +kernel
theorem dL_ready_15 : decode cL_ready 15 = .ok (.iload_n 0, 1) := by decide +kernel
theorem dL_ready_16 : decode cL_ready 16 = .ok (.if_icmp .ne 15, 3) := by decide +kernel
theorem dL_ready_19 : decode cL_ready 19 = .ok (.aload_n 1, 1) := by decide +kernel
theorem dL_ready_20 : decode cL_ready 20 = .ok (.iconst 2, 1) := by decide +kernel
theorem dL_ready_21 : decode cL_ready 21 = .ok (.iload_n 3, 1) := by decide +kernel
theorem dL_ready_22 : decode cL_ready 22 = .ok (.imul, 1) := by decide +kernel
theorem dL_ready_23 : decode cL_ready 23 = .ok (.iconst 1, 1) := by decide +kernel
theorem dL_ready_24 : decode cL_ready 24 = .ok (.iadd, 1) := by decide +kernel
theorem dL_ready_25 : decode cL_ready 25 = .ok (.iaload, 1) := by decide +kernel
theorem dL_ready_26 : decode cL_ready 26 = .ok (.ifCond .ne 5, 3) := by decide +kernel
theorem dL_ready_29 : decode cL_ready 29 = .ok (.iload_n 3, 1) := by decide +kernel
theorem dL_ready_30 : decode cL_ready 30 = .ok (.ireturn, 1) := by decide +kernel
theorem dL_ready_31 : decode cL_ready 31 = .ok (.iinc 3 1, 3) := by decide +kernel
theorem dL_ready_34 : decode cL_ready 34 = .ok (.goto (-32), 3) := by decide +kernel
theorem dL_ready_37 : decode cL_ready 37 = .ok (.iconst (-1), 1) := by decide +kernel
theorem dL_ready_38 : decode cL_ready 38 = .ok (.ireturn, 1) := by decide +kernel
theorem dL_serve_0 : decode cL_serve 0 = .ok (.aload 6, 2) := by decide +kernel
theorem dL_serve_2 : decode cL_serve 2 = .ok (.iconst 1, 1) := by decide +kernel
theorem dL_serve_3 : decode cL_serve 3 = .ok (.iaload, 1) := by decide +kernel
theorem dL_serve_4 : decode cL_serve 4 = .ok (.ifCond .lt 7, 3) := by decide +kernel
theorem dL_serve_7 : decode cL_serve 7 = .ok (.iconst 1, 1) := by decide +kernel
theorem dL_serve_8 : decode cL_serve 8 = .ok (.goto 4, 3) := by decide +kernel
theorem dL_serve_11 : decode cL_serve 11 = .ok (.iconst 0, 1) := by decide +kernel
theorem dL_serve_12 : decode cL_serve 12 = .ok (.istore 7, 2) := by decide +kernel
theorem dL_serve_14 : decode cL_serve 14 = .ok (.iload 7, 2) := by decide +kernel
theorem dL_serve_16 : decode cL_serve 16 = .ok (.ifCond .ne 16, 3) := by decide +kernel
theorem dL_serve_19 : decode cL_serve 19 = .ok (.aload 6, 2) := by decide +kernel
theorem dL_serve_21 : decode cL_serve 21 = .ok (.iconst 0, 1) := by decide +kernel
theorem dL_serve_22 : decode cL_serve 22 = .ok (.iaload, 1) := by decide +kernel
theorem dL_serve_23 : decode cL_serve 23 = .ok (.aload_n 2, 1) := by decide +kernel
theorem dL_serve_24 : decode cL_serve 24 = .ok (.bipush 7, 2) := by decide +kernel
theorem dL_serve_26 : decode cL_serve 26 = .ok (.iload_n 0, 1) := by decide +kernel
theorem dL_serve_27 : decode cL_serve 27 = .ok (.imul, 1) := by decide +kernel
theorem dL_serve_28 : decode cL_serve 28 = .ok (.iaload, 1) := by decide +kernel
theorem dL_serve_29 : decode cL_serve 29 = .ok (.if_icmp .eq 87, 3) := by decide +kernel
theorem dL_serve_32 : decode cL_serve 32 = .ok (.aload 6, 2) := by decide +kernel
theorem dL_serve_34 : decode cL_serve 34 = .ok (.iconst 1, 1) := by decide +kernel
theorem dL_serve_35 : decode cL_serve 35 = .ok (.iaload, 1) := by decide +kernel
theorem dL_serve_36 : decode cL_serve 36 = .ok (.iload_n 0, 1) := by decide +kernel
theorem dL_serve_37 : decode cL_serve 37 = .ok (.if_icmp .ne 10, 3) := by decide +kernel
theorem dL_serve_40 : decode cL_serve 40 = .ok (.aload 6, 2) := by decide +kernel
theorem dL_serve_42 : decode cL_serve 42 = .ok (.iconst 2, 1) := by decide +kernel
theorem dL_serve_43 : decode cL_serve 43 = .ok (.iaload, 1) := by decide +kernel
theorem dL_serve_44 : decode cL_serve 44 = .ok (.goto 22, 3) := by decide +kernel
theorem dL_serve_47 : decode cL_serve 47 = .ok (.aload 6, 2) := by decide +kernel
theorem dL_serve_49 : decode cL_serve 49 = .ok (.iconst 0, 1) := by decide +kernel
theorem dL_serve_50 : decode cL_serve 50 = .ok (.iaload, 1) := by decide +kernel
theorem dL_serve_51 : decode cL_serve 51 = .ok (.aload_n 2, 1) := by decide +kernel
theorem dL_serve_52 : decode cL_serve 52 = .ok (.bipush 7, 2) := by decide +kernel
theorem dL_serve_54 : decode cL_serve 54 = .ok (.iload_n 0, 1) := by decide +kernel
theorem dL_serve_55 : decode cL_serve 55 = .ok (.imul, 1) := by decide +kernel
theorem dL_serve_56 : decode cL_serve 56 = .ok (.iaload, 1) := by decide +kernel
theorem dL_serve_57 : decode cL_serve 57 = .ok (.aload 4, 2) := by decide +kernel
theorem dL_serve_59 : decode cL_serve 59 = .ok (.aload 5, 2) := by decide +kernel
theorem dL_serve_61 : decode cL_serve 61 = .ok (.aload 6, 2) := by decide +kernel
theorem dL_serve_63 : decode cL_serve 63 = .ok (.invokestatic 14, 3) := by decide +kernel
theorem dL_serve_66 : decode cL_serve 66 = .ok (.iconst 1, 1) := by decide +kernel
theorem dL_serve_67 : decode cL_serve 67 = .ok (.isub, 1) := by decide +kernel
theorem dL_serve_68 : decode cL_serve 68 = .ok (.istore 8, 2) := by decide +kernel
theorem dL_serve_70 : decode cL_serve 70 = .ok (.aload 6, 2) := by decide +kernel
theorem dL_serve_72 : decode cL_serve 72 = .ok (.iconst 1, 1) := by decide +kernel
theorem dL_serve_73 : decode cL_serve 73 = .ok (.iload 8, 2) := by decide +kernel
theorem dL_serve_75 : decode cL_serve 75 = .ok (.ifCond .le 7, 3) := by decide +kernel
theorem dL_serve_78 : decode cL_serve 78 = .ok (.iload_n 0, 1) := by decide +kernel
theorem dL_serve_79 : decode cL_serve 79 = .ok (.goto 4, 3) := by decide +kernel
theorem dL_serve_82 : decode cL_serve 82 = .ok (.iconst (-1), 1) := by decide +kernel
theorem dL_serve_83 : decode cL_serve 83 = .ok (.iastore, 1) := by decide +kernel
theorem dL_serve_84 : decode cL_serve 84 = .ok (.aload 6, 2) := by decide +kernel
theorem dL_serve_86 : decode cL_serve 86 = .ok (.iconst 2, 1) := by decide +kernel
theorem dL_serve_87 : decode cL_serve 87 = .ok (.iload 8, 2) := by decide +kernel
theorem dL_serve_89 : decode cL_serve 89 = .ok (.ifCond .le 8, 3) := by decide +kernel
theorem dL_serve_92 : decode cL_serve 92 = .ok (.iload 8, 2) := by decide +kernel
theorem dL_serve_94 : decode cL_serve 94 = .ok (.goto 4, 3) := by decide +kernel
theorem dL_serve_97 : decode cL_serve 97 = .ok (.iconst 0, 1) := by decide +kernel
theorem dL_serve_98 : decode cL_serve 98 = .ok (.iastore, 1) := by decide +kernel
theorem dL_serve_99 : decode cL_serve 99 = .ok (.iload 8, 2) := by decide +kernel
theorem dL_serve_101 : decode cL_serve 101 = .ok (.ifCond .gt 13, 3) := by decide +kernel
theorem dL_serve_104 : decode cL_serve 104 = .ok (.aload 6, 2) := by decide +kernel
theorem dL_serve_106 : decode cL_serve 106 = .ok (.iconst 0, 1) := by decide +kernel
theorem dL_serve_107 : decode cL_serve 107 = .ok (.aload_n 2, 1) := by decide +kernel
theorem dL_serve_108 : decode cL_serve 108 = .ok (.bipush 7, 2) := by decide +kernel
theorem dL_serve_110 : decode cL_serve 110 = .ok (.iload_n 0, 1) := by decide +kernel
theorem dL_serve_111 : decode cL_serve 111 = .ok (.imul, 1) := by decide +kernel
theorem dL_serve_112 : decode cL_serve 112 = .ok (.iaload, 1) := by decide +kernel
theorem dL_serve_113 : decode cL_serve 113 = .ok (.iastore, 1) := by decide +kernel
theorem dL_serve_114 : decode cL_serve 114 = .ok (.iconst 1, 1) := by decide +kernel
theorem dL_serve_115 : decode cL_serve 115 = .ok (.ireturn, 1) := by decide +kernel
theorem dL_serve_116 : decode cL_serve 116 = .ok (.iload_n 0, 1) := by decide +kernel
theorem dL_serve_117 : decode cL_serve 117 = .ok (.aload_n 3, 1) := by decide +kernel
theorem dL_serve_118 : decode cL_serve 118 = .ok (.aload 6, 2) := by decide +kernel
theorem dL_serve_120 : decode cL_serve 120 = .ok (.invokestatic 18, 3) := by decide +kernel
theorem dL_serve_123 : decode cL_serve 123 = .ok (.ifCond .ge 5, 3) := by decide +kernel
theorem dL_serve_126 : decode cL_serve 126 = .ok (.iconst 2, 1) := by decide +kernel
theorem dL_serve_127 : decode cL_serve 127 = .ok (.ireturn, 1) := by decide +kernel
theorem dL_serve_128 : decode cL_serve 128 = .ok (.iload_n 1, 1) := by decide +kernel
theorem dL_serve_129 : decode cL_serve 129 = .ok (.aload 4, 2) := by decide +kernel
theorem dL_serve_131 : decode cL_serve 131 = .ok (.iconst 0, 1) := by decide +kernel
theorem dL_serve_132 : decode cL_serve 132 = .ok (.iaload, 1) := by decide +kernel
theorem dL_serve_133 : decode cL_serve 133 = .ok (.aload_n 2, 1) := by decide +kernel
theorem dL_serve_134 : decode cL_serve 134 = .ok (.bipush 7, 2) := by decide +kernel
theorem dL_serve_136 : decode cL_serve 136 = .ok (.iload_n 0, 1) := by decide +kernel
theorem dL_serve_137 : decode cL_serve 137 = .ok (.imul, 1) := by decide +kernel
theorem dL_serve_138 : decode cL_serve 138 = .ok (.iconst 1, 1) := by decide +kernel
theorem dL_serve_139 : decode cL_serve 139 = .ok (.iadd, 1) := by decide +kernel
theorem dL_serve_140 : decode cL_serve 140 = .ok (.iaload, 1) := by decide +kernel
theorem dL_serve_141 : decode cL_serve 141 = .ok (.bipush 25, 2) := by decide +kernel
theorem dL_serve_143 : decode cL_serve 143 = .ok (.idiv, 1) := by decide +kernel
theorem dL_serve_144 : decode cL_serve 144 = .ok (.isub, 1) := by decide +kernel
theorem dL_serve_145 : decode cL_serve 145 = .ok (.if_icmp .le 5, 3) := by decide +kernel
theorem dL_serve_148 : decode cL_serve 148 = .ok (.iconst 3, 1) := by decide +kernel
theorem dL_serve_149 : decode cL_serve 149 = .ok (.ireturn, 1) := by decide +kernel
theorem dL_serve_150 : decode cL_serve 150 = .ok (.aload 6, 2) := by decide +kernel
theorem dL_serve_152 : decode cL_serve 152 = .ok (.iconst 3, 1) := by decide +kernel
theorem dL_serve_153 : decode cL_serve 153 = .ok (.dup2, 1) := by decide +kernel
theorem dL_serve_154 : decode cL_serve 154 = .ok (.iaload, 1) := by decide +kernel
theorem dL_serve_155 : decode cL_serve 155 = .ok (.iconst 1, 1) := by decide +kernel
theorem dL_serve_156 : decode cL_serve 156 = .ok (.iadd, 1) := by decide +kernel
theorem dL_serve_157 : decode cL_serve 157 = .ok (.iastore, 1) := by decide +kernel
theorem dL_serve_158 : decode cL_serve 158 = .ok (.aload 6, 2) := by decide +kernel
theorem dL_serve_160 : decode cL_serve 160 = .ok (.iconst 4, 1) := by decide +kernel
theorem dL_serve_161 : decode cL_serve 161 = .ok (.iload_n 0, 1) := by decide +kernel
theorem dL_serve_162 : decode cL_serve 162 = .ok (.iastore, 1) := by decide +kernel
theorem dL_serve_163 : decode cL_serve 163 = .ok (.iconst 4, 1) := by decide +kernel
theorem dL_serve_164 : decode cL_serve 164 = .ok (.ireturn, 1) := by decide +kernel
theorem dL_hour_0 : decode cL_hour 0 = .ok (.aload 4, 2) := by decide +kernel
theorem dL_hour_2 : decode cL_hour 2 = .ok (.iconst 5, 1) := by decide +kernel
theorem dL_hour_3 : decode cL_hour 3 = .ok (.iaload, 1) := by decide +kernel
theorem dL_hour_4 : decode cL_hour 4 = .ok (.istore 7, 2) := by decide +kernel
theorem dL_hour_6 : decode cL_hour 6 = .ok (.iconst 0, 1) := by decide +kernel
theorem dL_hour_7 : decode cL_hour 7 = .ok (.istore 8, 2) := by decide +kernel
theorem dL_hour_9 : decode cL_hour 9 = .ok (.iload 8, 2) := by decide +kernel
theorem dL_hour_11 : decode cL_hour 11 = .ok (.aload 6, 2) := by decide +kernel
theorem dL_hour_13 : decode cL_hour 13 = .ok (.bipush 7, 2) := by decide +kernel
theorem dL_hour_15 : decode cL_hour 15 = .ok (.iaload, 1) := by decide +kernel
theorem dL_hour_16 : decode cL_hour 16 = .ok (.if_icmp .ge 57, 3) := by decide +kernel
theorem dL_hour_19 : decode cL_hour 19 = .ok (.iload 7, 2) := by decide +kernel
theorem dL_hour_21 : decode cL_hour 21 = .ok (.aload_n 1, 1) := by decide +kernel
theorem dL_hour_22 : decode cL_hour 22 = .ok (.iconst 2, 1) := by decide +kernel
theorem dL_hour_23 : decode cL_hour 23 = .ok (.iload 8, 2) := by decide +kernel
theorem dL_hour_25 : decode cL_hour 25 = .ok (.imul, 1) := by decide +kernel
theorem dL_hour_26 : decode cL_hour 26 = .ok (.iconst 1, 1) := by decide +kernel
theorem dL_hour_27 : decode cL_hour 27 = .ok (.iadd, 1) := by decide +kernel
theorem dL_hour_28 : decode cL_hour 28 = .ok (.iaload, 1) := by decide +kernel
theorem dL_hour_29 : decode cL_hour 29 = .ok (.if_icmp .ge 8, 3) := by decide +kernel
theorem dL_hour_32 : decode cL_hour 32 = .ok (.iload 7, 2) := by decide +kernel
theorem dL_hour_34 : decode cL_hour 34 = .ok (.goto 11, 3) := by decide +kernel
theorem dL_hour_37 : decode cL_hour 37 = .ok (.aload_n 1, 1) := by decide +kernel
theorem dL_hour_38 : decode cL_hour 38 = .ok (.iconst 2, 1) := by decide +kernel
theorem dL_hour_39 : decode cL_hour 39 = .ok (.iload 8, 2) := by decide +kernel
theorem dL_hour_41 : decode cL_hour 41 = .ok (.imul, 1) := by decide +kernel
theorem dL_hour_42 : decode cL_hour 42 = .ok (.iconst 1, 1) := by decide +kernel
theorem dL_hour_43 : decode cL_hour 43 = .ok (.iadd, 1) := by decide +kernel
theorem dL_hour_44 : decode cL_hour 44 = .ok (.iaload, 1) := by decide +kernel
theorem dL_hour_45 : decode cL_hour 45 = .ok (.istore 9, 2) := by decide +kernel
theorem dL_hour_47 : decode cL_hour 47 = .ok (.aload_n 1, 1) := by decide +kernel
theorem dL_hour_48 : decode cL_hour 48 = .ok (.iconst 2, 1) := by decide +kernel
theorem dL_hour_49 : decode cL_hour 49 = .ok (.iload 8, 2) := by decide +kernel
theorem dL_hour_51 : decode cL_hour 51 = .ok (.imul, 1) := by decide +kernel
theorem dL_hour_52 : decode cL_hour 52 = .ok (.iconst 1, 1) := by decide +kernel
theorem dL_hour_53 : decode cL_hour 53 = .ok (.iadd, 1) := by decide +kernel
theorem dL_hour_54 : decode cL_hour 54 = .ok (.dup2, 1) := by decide +kernel
theorem dL_hour_55 : decode cL_hour 55 = .ok (.iaload, 1) := by decide +kernel
theorem dL_hour_56 : decode cL_hour 56 = .ok (.iload 9, 2) := by decide +kernel
theorem dL_hour_58 : decode cL_hour 58 = .ok (.isub, 1) := by decide +kernel
theorem dL_hour_59 : decode cL_hour 59 = .ok (.iastore, 1) := by decide +kernel
theorem dL_hour_60 : decode cL_hour 60 = .ok (.iload 7, 2) := by decide +kernel
theorem dL_hour_62 : decode cL_hour 62 = .ok (.iload 9, 2) := by decide +kernel
theorem dL_hour_64 : decode cL_hour 64 = .ok (.isub, 1) := by decide +kernel
theorem dL_hour_65 : decode cL_hour 65 = .ok (.istore 7, 2) := by decide +kernel
theorem dL_hour_67 : decode cL_hour 67 = .ok (.iinc 8 1, 3) := by decide +kernel
theorem dL_hour_70 : decode cL_hour 70 = .ok (.goto (-61), 3) := by decide +kernel
theorem dL_hour_73 : decode cL_hour 73 = .ok (.aload_n 2, 1) := by decide +kernel
theorem dL_hour_74 : decode cL_hour 74 = .ok (.iconst 0, 1) := by decide +kernel
theorem dL_hour_75 : decode cL_hour 75 = .ok (.iaload, 1) := by decide +kernel
theorem dL_hour_76 : decode cL_hour 76 = .ok (.ifCond .le 18, 3) := by decide +kernel
theorem dL_hour_79 : decode cL_hour 79 = .ok (.aload_n 2, 1) := by decide +kernel
theorem dL_hour_80 : decode cL_hour 80 = .ok (.iconst 1, 1) := by decide +kernel
theorem dL_hour_81 : decode cL_hour 81 = .ok (.iaload, 1) := by decide +kernel
theorem dL_hour_82 : decode cL_hour 82 = .ok (.aload 6, 2) := by decide +kernel
theorem dL_hour_84 : decode cL_hour 84 = .ok (.iconst 4, 1) := by decide +kernel
theorem dL_hour_85 : decode cL_hour 85 = .ok (.iaload, 1) := by decide +kernel
theorem dL_hour_86 : decode cL_hour 86 = .ok (.if_icmp .eq 8, 3) := by decide +kernel
theorem dL_hour_89 : decode cL_hour 89 = .ok (.aload 6, 2) := by decide +kernel
theorem dL_hour_91 : decode cL_hour 91 = .ok (.iconst 4, 1) := by decide +kernel
theorem dL_hour_92 : decode cL_hour 92 = .ok (.iconst (-1), 1) := by decide +kernel
theorem dL_hour_93 : decode cL_hour 93 = .ok (.iastore, 1) := by decide +kernel
theorem dL_hour_94 : decode cL_hour 94 = .ok (.aload_n 2, 1) := by decide +kernel
theorem dL_hour_95 : decode cL_hour 95 = .ok (.iconst 0, 1) := by decide +kernel
theorem dL_hour_96 : decode cL_hour 96 = .ok (.iaload, 1) := by decide +kernel
theorem dL_hour_97 : decode cL_hour 97 = .ok (.ifCond .le 39, 3) := by decide +kernel
theorem dL_hour_100 : decode cL_hour 100 = .ok (.aload_n 0, 1) := by decide +kernel
theorem dL_hour_101 : decode cL_hour 101 = .ok (.bipush 7, 2) := by decide +kernel
theorem dL_hour_103 : decode cL_hour 103 = .ok (.aload_n 2, 1) := by decide +kernel
theorem dL_hour_104 : decode cL_hour 104 = .ok (.iconst 1, 1) := by decide +kernel
theorem dL_hour_105 : decode cL_hour 105 = .ok (.iaload, 1) := by decide +kernel
theorem dL_hour_106 : decode cL_hour 106 = .ok (.imul, 1) := by decide +kernel
theorem dL_hour_107 : decode cL_hour 107 = .ok (.iconst 3, 1) := by decide +kernel
theorem dL_hour_108 : decode cL_hour 108 = .ok (.iadd, 1) := by decide +kernel
theorem dL_hour_109 : decode cL_hour 109 = .ok (.iaload, 1) := by decide +kernel
theorem dL_hour_110 : decode cL_hour 110 = .ok (.ifCond .ne 26, 3) := by decide +kernel
theorem dL_hour_113 : decode cL_hour 113 = .ok (.aload_n 2, 1) := by decide +kernel
theorem dL_hour_114 : decode cL_hour 114 = .ok (.iconst 1, 1) := by decide +kernel
theorem dL_hour_115 : decode cL_hour 115 = .ok (.iaload, 1) := by decide +kernel
theorem dL_hour_116 : decode cL_hour 116 = .ok (.aload 6, 2) := by decide +kernel
theorem dL_hour_118 : decode cL_hour 118 = .ok (.iconst 4, 1) := by decide +kernel
theorem dL_hour_119 : decode cL_hour 119 = .ok (.iaload, 1) := by decide +kernel
theorem dL_hour_120 : decode cL_hour 120 = .ok (.if_icmp .ne 8, 3) := by decide +kernel
theorem dL_hour_123 : decode cL_hour 123 = .ok (.aload 6, 2) := by decide +kernel
theorem dL_hour_125 : decode cL_hour 125 = .ok (.iconst 4, 1) := by decide +kernel
theorem dL_hour_126 : decode cL_hour 126 = .ok (.iconst (-1), 1) := by decide +kernel
theorem dL_hour_127 : decode cL_hour 127 = .ok (.iastore, 1) := by decide +kernel
theorem dL_hour_128 : decode cL_hour 128 = .ok (.iconst 0, 1) := by decide +kernel
theorem dL_hour_129 : decode cL_hour 129 = .ok (.aload_n 2, 1) := by decide +kernel
theorem dL_hour_130 : decode cL_hour 130 = .ok (.invokestatic 22, 3) := by decide +kernel
theorem dL_hour_133 : decode cL_hour 133 = .ok (.goto (-39), 3) := by decide +kernel
theorem dL_hour_136 : decode cL_hour 136 = .ok (.aload 6, 2) := by decide +kernel
theorem dL_hour_138 : decode cL_hour 138 = .ok (.iconst 4, 1) := by decide +kernel
theorem dL_hour_139 : decode cL_hour 139 = .ok (.iaload, 1) := by decide +kernel
theorem dL_hour_140 : decode cL_hour 140 = .ok (.ifCond .ge 8, 3) := by decide +kernel
theorem dL_hour_143 : decode cL_hour 143 = .ok (.aload 6, 2) := by decide +kernel
theorem dL_hour_145 : decode cL_hour 145 = .ok (.iconst 3, 1) := by decide +kernel
theorem dL_hour_146 : decode cL_hour 146 = .ok (.iconst 0, 1) := by decide +kernel
theorem dL_hour_147 : decode cL_hour 147 = .ok (.iastore, 1) := by decide +kernel
theorem dL_hour_148 : decode cL_hour 148 = .ok (.aload 6, 2) := by decide +kernel
theorem dL_hour_150 : decode cL_hour 150 = .ok (.iconst 5, 1) := by decide +kernel
theorem dL_hour_151 : decode cL_hour 151 = .ok (.iaload, 1) := by decide +kernel
theorem dL_hour_152 : decode cL_hour 152 = .ok (.aload_n 3, 1) := by decide +kernel
theorem dL_hour_153 : decode cL_hour 153 = .ok (.invokestatic 26, 3) := by decide +kernel
theorem dL_hour_156 : decode cL_hour 156 = .ok (.istore 8, 2) := by decide +kernel
theorem dL_hour_158 : decode cL_hour 158 = .ok (.aload_n 2, 1) := by decide +kernel
theorem dL_hour_159 : decode cL_hour 159 = .ok (.iconst 0, 1) := by decide +kernel
theorem dL_hour_160 : decode cL_hour 160 = .ok (.iaload, 1) := by decide +kernel
theorem dL_hour_161 : decode cL_hour 161 = .ok (.ifCond .le 9, 3) := by decide +kernel
theorem dL_hour_164 : decode cL_hour 164 = .ok (.aload_n 2, 1) := by decide +kernel
theorem dL_hour_165 : decode cL_hour 165 = .ok (.iconst 1, 1) := by decide +kernel
theorem dL_hour_166 : decode cL_hour 166 = .ok (.iaload, 1) := by decide +kernel
theorem dL_hour_167 : decode cL_hour 167 = .ok (.goto 4, 3) := by decide +kernel
theorem dL_hour_170 : decode cL_hour 170 = .ok (.iconst (-1), 1) := by decide +kernel
theorem dL_hour_171 : decode cL_hour 171 = .ok (.istore 9, 2) := by decide +kernel
theorem dL_hour_173 : decode cL_hour 173 = .ok (.iload 9, 2) := by decide +kernel
theorem dL_hour_175 : decode cL_hour 175 = .ok (.ifCond .ge 7, 3) := by decide +kernel
theorem dL_hour_178 : decode cL_hour 178 = .ok (.iconst 0, 1) := by decide +kernel
theorem dL_hour_179 : decode cL_hour 179 = .ok (.goto 18, 3) := by decide +kernel
theorem dL_hour_182 : decode cL_hour 182 = .ok (.iload 9, 2) := by decide +kernel
theorem dL_hour_184 : decode cL_hour 184 = .ok (.iload 8, 2) := by decide +kernel
theorem dL_hour_186 : decode cL_hour 186 = .ok (.aload_n 0, 1) := by decide +kernel
theorem dL_hour_187 : decode cL_hour 187 = .ok (.aload_n 1, 1) := by decide +kernel
theorem dL_hour_188 : decode cL_hour 188 = .ok (.aload 4, 2) := by decide +kernel
theorem dL_hour_190 : decode cL_hour 190 = .ok (.aload 5, 2) := by decide +kernel
theorem dL_hour_192 : decode cL_hour 192 = .ok (.aload 6, 2) := by decide +kernel
theorem dL_hour_194 : decode cL_hour 194 = .ok (.invokestatic 30, 3) := by decide +kernel
theorem dL_hour_197 : decode cL_hour 197 = .ok (.istore 10, 2) := by decide +kernel
theorem dL_hour_199 : decode cL_hour 199 = .ok (.iconst 0, 1) := by decide +kernel
theorem dL_hour_200 : decode cL_hour 200 = .ok (.istore 11, 2) := by decide +kernel
theorem dL_hour_202 : decode cL_hour 202 = .ok (.iconst 0, 1) := by decide +kernel
theorem dL_hour_203 : decode cL_hour 203 = .ok (.istore 12, 2) := by decide +kernel
theorem dL_hour_205 : decode cL_hour 205 = .ok (.iload 12, 2) := by decide +kernel
theorem dL_hour_207 : decode cL_hour 207 = .ok (.aload 6, 2) := by decide +kernel
theorem dL_hour_209 : decode cL_hour 209 = .ok (.bipush 6, 2) := by decide +kernel
theorem dL_hour_211 : decode cL_hour 211 = .ok (.iaload, 1) := by decide +kernel
theorem dL_hour_212 : decode cL_hour 212 = .ok (.if_icmp .ge 202, 3) := by decide +kernel
theorem dL_hour_215 : decode cL_hour 215 = .ok (.iload 12, 2) := by decide +kernel
theorem dL_hour_217 : decode cL_hour 217 = .ok (.iload 8, 2) := by decide +kernel
theorem dL_hour_219 : decode cL_hour 219 = .ok (.aload_n 0, 1) := by decide +kernel
theorem dL_hour_220 : decode cL_hour 220 = .ok (.invokestatic 34, 3) := by decide +kernel
theorem dL_hour_223 : decode cL_hour 223 = .ok (.istore 13, 2) := by decide +kernel
theorem dL_hour_225 : decode cL_hour 225 = .ok (.iload 12, 2) := by decide +kernel
theorem dL_hour_227 : decode cL_hour 227 = .ok (.iload 9, 2) := by decide +kernel
theorem dL_hour_229 : decode cL_hour 229 = .ok (.if_icmp .ne 8, 3) := by decide +kernel
theorem dL_hour_232 : decode cL_hour 232 = .ok (.iload 10, 2) := by decide +kernel
theorem dL_hour_234 : decode cL_hour 234 = .ok (.goto 4, 3) := by decide +kernel
theorem dL_hour_237 : decode cL_hour 237 = .ok (.iconst 0, 1) := by decide +kernel
theorem dL_hour_238 : decode cL_hour 238 = .ok (.istore 14, 2) := by decide +kernel
theorem dL_hour_240 : decode cL_hour 240 = .ok (.iload 14, 2) := by decide +kernel
theorem dL_hour_242 : decode cL_hour 242 = .ok (.iconst 4, 1) := by decide +kernel
theorem dL_hour_243 : decode cL_hour 243 = .ok (.if_icmp .ne 8, 3) := by decide +kernel
theorem dL_hour_246 : decode cL_hour 246 = .ok (.iload 13, 2) := by decide +kernel
theorem dL_hour_248 : decode cL_hour 248 = .ok (.goto 17, 3) := by decide +kernel
theorem dL_hour_251 : decode cL_hour 251 = .ok (.iload 13, 2) := by decide +kernel
theorem dL_hour_253 : decode cL_hour 253 = .ok (.aload_n 0, 1) := by decide +kernel
theorem dL_hour_254 : decode cL_hour 254 = .ok (.bipush 7, 2) := by decide +kernel
theorem dL_hour_256 : decode cL_hour 256 = .ok (.iload 12, 2) := by decide +kernel
theorem dL_hour_258 : decode cL_hour 258 = .ok (.imul, 1) := by decide +kernel
theorem dL_hour_259 : decode cL_hour 259 = .ok (.iconst 3, 1) := by decide +kernel
theorem dL_hour_260 : decode cL_hour 260 = .ok (.iadd, 1) := by decide +kernel
theorem dL_hour_261 : decode cL_hour 261 = .ok (.iaload, 1) := by decide +kernel
theorem dL_hour_262 : decode cL_hour 262 = .ok (.imul, 1) := by decide +kernel
theorem dL_hour_263 : decode cL_hour 263 = .ok (.iconst 4, 1) := by decide +kernel
theorem dL_hour_264 : decode cL_hour 264 = .ok (.idiv, 1) := by decide +kernel
theorem dL_hour_265 : decode cL_hour 265 = .ok (.istore 15, 2) := by decide +kernel
theorem dL_hour_267 : decode cL_hour 267 = .ok (.aload_n 0, 1) := by decide +kernel
theorem dL_hour_268 : decode cL_hour 268 = .ok (.bipush 7, 2) := by decide +kernel
theorem dL_hour_270 : decode cL_hour 270 = .ok (.iload 12, 2) := by decide +kernel
theorem dL_hour_272 : decode cL_hour 272 = .ok (.imul, 1) := by decide +kernel
theorem dL_hour_273 : decode cL_hour 273 = .ok (.iconst 5, 1) := by decide +kernel
theorem dL_hour_274 : decode cL_hour 274 = .ok (.iadd, 1) := by decide +kernel
theorem dL_hour_275 : decode cL_hour 275 = .ok (.dup2, 1) := by decide +kernel
theorem dL_hour_276 : decode cL_hour 276 = .ok (.iaload, 1) := by decide +kernel
theorem dL_hour_277 : decode cL_hour 277 = .ok (.iload 15, 2) := by decide +kernel
theorem dL_hour_279 : decode cL_hour 279 = .ok (.iadd, 1) := by decide +kernel
theorem dL_hour_280 : decode cL_hour 280 = .ok (.iastore, 1) := by decide +kernel
theorem dL_hour_281 : decode cL_hour 281 = .ok (.aload_n 0, 1) := by decide +kernel
theorem dL_hour_282 : decode cL_hour 282 = .ok (.bipush 7, 2) := by decide +kernel
theorem dL_hour_284 : decode cL_hour 284 = .ok (.iload 12, 2) := by decide +kernel
theorem dL_hour_286 : decode cL_hour 286 = .ok (.imul, 1) := by decide +kernel
theorem dL_hour_287 : decode cL_hour 287 = .ok (.bipush 6, 2) := by decide +kernel
theorem dL_hour_289 : decode cL_hour 289 = .ok (.iadd, 1) := by decide +kernel
theorem dL_hour_290 : decode cL_hour 290 = .ok (.dup2, 1) := by decide +kernel
theorem dL_hour_291 : decode cL_hour 291 = .ok (.iaload, 1) := by decide +kernel
theorem dL_hour_292 : decode cL_hour 292 = .ok (.iload 13, 2) := by decide +kernel
theorem dL_hour_294 : decode cL_hour 294 = .ok (.iload 15, 2) := by decide +kernel
theorem dL_hour_296 : decode cL_hour 296 = .ok (.isub, 1) := by decide +kernel
theorem dL_hour_297 : decode cL_hour 297 = .ok (.iadd, 1) := by decide +kernel
theorem dL_hour_298 : decode cL_hour 298 = .ok (.iastore, 1) := by decide +kernel
theorem dL_hour_299 : decode cL_hour 299 = .ok (.aload 6, 2) := by decide +kernel
theorem dL_hour_301 : decode cL_hour 301 = .ok (.bipush 9, 2) := by decide +kernel
theorem dL_hour_303 : decode cL_hour 303 = .ok (.iload 14, 2) := by decide +kernel
theorem dL_hour_305 : decode cL_hour 305 = .ok (.iadd, 1) := by decide +kernel
theorem dL_hour_306 : decode cL_hour 306 = .ok (.dup2, 1) := by decide +kernel
theorem dL_hour_307 : decode cL_hour 307 = .ok (.iaload, 1) := by decide +kernel
theorem dL_hour_308 : decode cL_hour 308 = .ok (.iload 15, 2) := by decide +kernel
theorem dL_hour_310 : decode cL_hour 310 = .ok (.iadd, 1) := by decide +kernel
theorem dL_hour_311 : decode cL_hour 311 = .ok (.iastore, 1) := by decide +kernel
theorem dL_hour_312 : decode cL_hour 312 = .ok (.iload 11, 2) := by decide +kernel
theorem dL_hour_314 : decode cL_hour 314 = .ok (.iload 15, 2) := by decide +kernel
theorem dL_hour_316 : decode cL_hour 316 = .ok (.iadd, 1) := by decide +kernel
theorem dL_hour_317 : decode cL_hour 317 = .ok (.istore 11, 2) := by decide +kernel
theorem dL_hour_319 : decode cL_hour 319 = .ok (.iload 14, 2) := by decide +kernel
theorem dL_hour_321 : decode cL_hour 321 = .ok (.iconst 4, 1) := by decide +kernel
theorem dL_hour_322 : decode cL_hour 322 = .ok (.if_icmp .eq 86, 3) := by decide +kernel
theorem dL_hour_325 : decode cL_hour 325 = .ok (.aload_n 0, 1) := by decide +kernel
theorem dL_hour_326 : decode cL_hour 326 = .ok (.bipush 7, 2) := by decide +kernel
theorem dL_hour_328 : decode cL_hour 328 = .ok (.iload 12, 2) := by decide +kernel
theorem dL_hour_330 : decode cL_hour 330 = .ok (.imul, 1) := by decide +kernel
theorem dL_hour_331 : decode cL_hour 331 = .ok (.iconst 3, 1) := by decide +kernel
theorem dL_hour_332 : decode cL_hour 332 = .ok (.iadd, 1) := by decide +kernel
theorem dL_hour_333 : decode cL_hour 333 = .ok (.iaload, 1) := by decide +kernel
theorem dL_hour_334 : decode cL_hour 334 = .ok (.ifCond .eq 74, 3) := by decide +kernel
theorem dL_hour_337 : decode cL_hour 337 = .ok (.aload_n 0, 1) := by decide +kernel
theorem dL_hour_338 : decode cL_hour 338 = .ok (.bipush 7, 2) := by decide +kernel
theorem dL_hour_340 : decode cL_hour 340 = .ok (.iload 12, 2) := by decide +kernel
theorem dL_hour_342 : decode cL_hour 342 = .ok (.imul, 1) := by decide +kernel
theorem dL_hour_343 : decode cL_hour 343 = .ok (.iconst 3, 1) := by decide +kernel
theorem dL_hour_344 : decode cL_hour 344 = .ok (.iadd, 1) := by decide +kernel
theorem dL_hour_345 : decode cL_hour 345 = .ok (.iaload, 1) := by decide +kernel
theorem dL_hour_346 : decode cL_hour 346 = .ok (.iconst 4, 1) := by decide +kernel
theorem dL_hour_347 : decode cL_hour 347 = .ok (.if_icmp .ne 6, 3) := by decide +kernel
theorem dL_hour_350 : decode cL_hour 350 = .ok (.goto 58, 3) := by decide +kernel
theorem dL_hour_353 : decode cL_hour 353 = .ok (.aload_n 0, 1) := by decide +kernel
theorem dL_hour_354 : decode cL_hour 354 = .ok (.bipush 7, 2) := by decide +kernel
theorem dL_hour_356 : decode cL_hour 356 = .ok (.iload 12, 2) := by decide +kernel
theorem dL_hour_358 : decode cL_hour 358 = .ok (.imul, 1) := by decide +kernel
theorem dL_hour_359 : decode cL_hour 359 = .ok (.iconst 4, 1) := by decide +kernel
theorem dL_hour_360 : decode cL_hour 360 = .ok (.iadd, 1) := by decide +kernel
theorem dL_hour_361 : decode cL_hour 361 = .ok (.dup2, 1) := by decide +kernel
theorem dL_hour_362 : decode cL_hour 362 = .ok (.iaload, 1) := by decide +kernel
theorem dL_hour_363 : decode cL_hour 363 = .ok (.iconst 1, 1) := by decide +kernel
theorem dL_hour_364 : decode cL_hour 364 = .ok (.iadd, 1) := by decide +kernel
theorem dL_hour_365 : decode cL_hour 365 = .ok (.iastore, 1) := by decide +kernel
theorem dL_hour_366 : decode cL_hour 366 = .ok (.aload_n 0, 1) := by decide +kernel
theorem dL_hour_367 : decode cL_hour 367 = .ok (.bipush 7, 2) := by decide +kernel
theorem dL_hour_369 : decode cL_hour 369 = .ok (.iload 12, 2) := by decide +kernel
theorem dL_hour_371 : decode cL_hour 371 = .ok (.imul, 1) := by decide +kernel
theorem dL_hour_372 : decode cL_hour 372 = .ok (.iconst 4, 1) := by decide +kernel
theorem dL_hour_373 : decode cL_hour 373 = .ok (.iadd, 1) := by decide +kernel
theorem dL_hour_374 : decode cL_hour 374 = .ok (.iaload, 1) := by decide +kernel
theorem dL_hour_375 : decode cL_hour 375 = .ok (.aload 4, 2) := by decide +kernel
theorem dL_hour_377 : decode cL_hour 377 = .ok (.iconst 3, 1) := by decide +kernel
theorem dL_hour_378 : decode cL_hour 378 = .ok (.iaload, 1) := by decide +kernel
theorem dL_hour_379 : decode cL_hour 379 = .ok (.if_icmp .ge 6, 3) := by decide +kernel
theorem dL_hour_382 : decode cL_hour 382 = .ok (.goto 26, 3) := by decide +kernel
theorem dL_hour_385 : decode cL_hour 385 = .ok (.aload_n 0, 1) := by decide +kernel
theorem dL_hour_386 : decode cL_hour 386 = .ok (.bipush 7, 2) := by decide +kernel
theorem dL_hour_388 : decode cL_hour 388 = .ok (.iload 12, 2) := by decide +kernel
theorem dL_hour_390 : decode cL_hour 390 = .ok (.imul, 1) := by decide +kernel
theorem dL_hour_391 : decode cL_hour 391 = .ok (.iconst 3, 1) := by decide +kernel
theorem dL_hour_392 : decode cL_hour 392 = .ok (.iadd, 1) := by decide +kernel
theorem dL_hour_393 : decode cL_hour 393 = .ok (.dup2, 1) := by decide +kernel
theorem dL_hour_394 : decode cL_hour 394 = .ok (.iaload, 1) := by decide +kernel
theorem dL_hour_395 : decode cL_hour 395 = .ok (.iconst 1, 1) := by decide +kernel
theorem dL_hour_396 : decode cL_hour 396 = .ok (.iadd, 1) := by decide +kernel
theorem dL_hour_397 : decode cL_hour 397 = .ok (.iastore, 1) := by decide +kernel
theorem dL_hour_398 : decode cL_hour 398 = .ok (.aload_n 0, 1) := by decide +kernel
theorem dL_hour_399 : decode cL_hour 399 = .ok (.bipush 7, 2) := by decide +kernel
theorem dL_hour_401 : decode cL_hour 401 = .ok (.iload 12, 2) := by decide +kernel
theorem dL_hour_403 : decode cL_hour 403 = .ok (.imul, 1) := by decide +kernel
theorem dL_hour_404 : decode cL_hour 404 = .ok (.iconst 4, 1) := by decide +kernel
theorem dL_hour_405 : decode cL_hour 405 = .ok (.iadd, 1) := by decide +kernel
theorem dL_hour_406 : decode cL_hour 406 = .ok (.iconst 0, 1) := by decide +kernel
theorem dL_hour_407 : decode cL_hour 407 = .ok (.iastore, 1) := by decide +kernel
theorem dL_hour_408 : decode cL_hour 408 = .ok (.iinc 12 1, 3) := by decide +kernel
theorem dL_hour_411 : decode cL_hour 411 = .ok (.goto (-206), 3) := by decide +kernel
theorem dL_hour_414 : decode cL_hour 414 = .ok (.iload 10, 2) := by decide +kernel
theorem dL_hour_416 : decode cL_hour 416 = .ok (.iconst 4, 1) := by decide +kernel
theorem dL_hour_417 : decode cL_hour 417 = .ok (.if_icmp .ne 112, 3) := by decide +kernel
theorem dL_hour_420 : decode cL_hour 420 = .ok (.aload 6, 2) := by decide +kernel
theorem dL_hour_422 : decode cL_hour 422 = .ok (.iconst 3, 1) := by decide +kernel
theorem dL_hour_423 : decode cL_hour 423 = .ok (.iaload, 1) := by decide +kernel
theorem dL_hour_424 : decode cL_hour 424 = .ok (.aload 4, 2) := by decide +kernel
theorem dL_hour_426 : decode cL_hour 426 = .ok (.iconst 2, 1) := by decide +kernel
theorem dL_hour_427 : decode cL_hour 427 = .ok (.iaload, 1) := by decide +kernel
theorem dL_hour_428 : decode cL_hour 428 = .ok (.aload_n 0, 1) := by decide +kernel
theorem dL_hour_429 : decode cL_hour 429 = .ok (.bipush 7, 2) := by decide +kernel
theorem dL_hour_431 : decode cL_hour 431 = .ok (.iload 9, 2) := by decide +kernel
theorem dL_hour_433 : decode cL_hour 433 = .ok (.imul, 1) := by decide +kernel
theorem dL_hour_434 : decode cL_hour 434 = .ok (.iconst 3, 1) := by decide +kernel
theorem dL_hour_435 : decode cL_hour 435 = .ok (.iadd, 1) := by decide +kernel
theorem dL_hour_436 : decode cL_hour 436 = .ok (.iaload, 1) := by decide +kernel
theorem dL_hour_437 : decode cL_hour 437 = .ok (.imul, 1) := by decide +kernel
theorem dL_hour_438 : decode cL_hour 438 = .ok (.if_icmp .lt 91, 3) := by decide +kernel
theorem dL_hour_441 : decode cL_hour 441 = .ok (.aload_n 0, 1) := by decide +kernel
theorem dL_hour_442 : decode cL_hour 442 = .ok (.bipush 7, 2) := by decide +kernel
theorem dL_hour_444 : decode cL_hour 444 = .ok (.iload 9, 2) := by decide +kernel
theorem dL_hour_446 : decode cL_hour 446 = .ok (.imul, 1) := by decide +kernel
theorem dL_hour_447 : decode cL_hour 447 = .ok (.iconst 3, 1) := by decide +kernel
theorem dL_hour_448 : decode cL_hour 448 = .ok (.iadd, 1) := by decide +kernel
theorem dL_hour_449 : decode cL_hour 449 = .ok (.iconst 0, 1) := by decide +kernel
theorem dL_hour_450 : decode cL_hour 450 = .ok (.iastore, 1) := by decide +kernel
theorem dL_hour_451 : decode cL_hour 451 = .ok (.aload_n 0, 1) := by decide +kernel
theorem dL_hour_452 : decode cL_hour 452 = .ok (.bipush 7, 2) := by decide +kernel
theorem dL_hour_454 : decode cL_hour 454 = .ok (.iload 9, 2) := by decide +kernel
theorem dL_hour_456 : decode cL_hour 456 = .ok (.imul, 1) := by decide +kernel
theorem dL_hour_457 : decode cL_hour 457 = .ok (.iconst 4, 1) := by decide +kernel
theorem dL_hour_458 : decode cL_hour 458 = .ok (.iadd, 1) := by decide +kernel
theorem dL_hour_459 : decode cL_hour 459 = .ok (.iconst 0, 1) := by decide +kernel
theorem dL_hour_460 : decode cL_hour 460 = .ok (.iastore, 1) := by decide +kernel
theorem dL_hour_461 : decode cL_hour 461 = .ok (.iload 9, 2) := by decide +kernel
theorem dL_hour_463 : decode cL_hour 463 = .ok (.aload_n 1, 1) := by decide +kernel
theorem dL_hour_464 : decode cL_hour 464 = .ok (.aload 6, 2) := by decide +kernel
theorem dL_hour_466 : decode cL_hour 466 = .ok (.invokestatic 18, 3) := by decide +kernel
theorem dL_hour_469 : decode cL_hour 469 = .ok (.istore 12, 2) := by decide +kernel
theorem dL_hour_471 : decode cL_hour 471 = .ok (.aload 6, 2) := by decide +kernel
theorem dL_hour_473 : decode cL_hour 473 = .ok (.bipush 7, 2) := by decide +kernel
theorem dL_hour_475 : decode cL_hour 475 = .ok (.dup2, 1) := by decide +kernel
theorem dL_hour_476 : decode cL_hour 476 = .ok (.iaload, 1) := by decide +kernel
theorem dL_hour_477 : decode cL_hour 477 = .ok (.iconst 1, 1) := by decide +kernel
theorem dL_hour_478 : decode cL_hour 478 = .ok (.isub, 1) := by decide +kernel
theorem dL_hour_479 : decode cL_hour 479 = .ok (.iastore, 1) := by decide +kernel
theorem dL_hour_480 : decode cL_hour 480 = .ok (.iconst 2, 1) := by decide +kernel
theorem dL_hour_481 : decode cL_hour 481 = .ok (.iload 12, 2) := by decide +kernel
theorem dL_hour_483 : decode cL_hour 483 = .ok (.imul, 1) := by decide +kernel
theorem dL_hour_484 : decode cL_hour 484 = .ok (.istore 13, 2) := by decide +kernel
theorem dL_hour_486 : decode cL_hour 486 = .ok (.iload 13, 2) := by decide +kernel
theorem dL_hour_488 : decode cL_hour 488 = .ok (.iconst 2, 1) := by decide +kernel
theorem dL_hour_489 : decode cL_hour 489 = .ok (.aload 6, 2) := by decide +kernel
theorem dL_hour_491 : decode cL_hour 491 = .ok (.bipush 7, 2) := by decide +kernel
theorem dL_hour_493 : decode cL_hour 493 = .ok (.iaload, 1) := by decide +kernel
theorem dL_hour_494 : decode cL_hour 494 = .ok (.imul, 1) := by decide +kernel
theorem dL_hour_495 : decode cL_hour 495 = .ok (.if_icmp .ge 19, 3) := by decide +kernel
theorem dL_hour_498 : decode cL_hour 498 = .ok (.aload_n 1, 1) := by decide +kernel
theorem dL_hour_499 : decode cL_hour 499 = .ok (.iload 13, 2) := by decide +kernel
theorem dL_hour_501 : decode cL_hour 501 = .ok (.aload_n 1, 1) := by decide +kernel
theorem dL_hour_502 : decode cL_hour 502 = .ok (.iload 13, 2) := by decide +kernel
theorem dL_hour_504 : decode cL_hour 504 = .ok (.iconst 2, 1) := by decide +kernel
theorem dL_hour_505 : decode cL_hour 505 = .ok (.iadd, 1) := by decide +kernel
theorem dL_hour_506 : decode cL_hour 506 = .ok (.iaload, 1) := by decide +kernel
theorem dL_hour_507 : decode cL_hour 507 = .ok (.iastore, 1) := by decide +kernel
theorem dL_hour_508 : decode cL_hour 508 = .ok (.iinc 13 1, 3) := by decide +kernel
theorem dL_hour_511 : decode cL_hour 511 = .ok (.goto (-25), 3) := by decide +kernel
theorem dL_hour_514 : decode cL_hour 514 = .ok (.aload 6, 2) := by decide +kernel
theorem dL_hour_516 : decode cL_hour 516 = .ok (.iconst 3, 1) := by decide +kernel
theorem dL_hour_517 : decode cL_hour 517 = .ok (.iconst 0, 1) := by decide +kernel
theorem dL_hour_518 : decode cL_hour 518 = .ok (.iastore, 1) := by decide +kernel
theorem dL_hour_519 : decode cL_hour 519 = .ok (.aload 6, 2) := by decide +kernel
theorem dL_hour_521 : decode cL_hour 521 = .ok (.iconst 4, 1) := by decide +kernel
theorem dL_hour_522 : decode cL_hour 522 = .ok (.iconst (-1), 1) := by decide +kernel
theorem dL_hour_523 : decode cL_hour 523 = .ok (.iastore, 1) := by decide +kernel
theorem dL_hour_524 : decode cL_hour 524 = .ok (.iconst 0, 1) := by decide +kernel
theorem dL_hour_525 : decode cL_hour 525 = .ok (.aload_n 2, 1) := by decide +kernel
theorem dL_hour_526 : decode cL_hour 526 = .ok (.invokestatic 22, 3) := by decide +kernel
theorem dL_hour_529 : decode cL_hour 529 = .ok (.aload 6, 2) := by decide +kernel
theorem dL_hour_531 : decode cL_hour 531 = .ok (.iconst 5, 1) := by decide +kernel
theorem dL_hour_532 : decode cL_hour 532 = .ok (.dup2, 1) := by decide +kernel
theorem dL_hour_533 : decode cL_hour 533 = .ok (.iaload, 1) := by decide +kernel
theorem dL_hour_534 : decode cL_hour 534 = .ok (.iconst 1, 1) := by decide +kernel
theorem dL_hour_535 : decode cL_hour 535 = .ok (.iadd, 1) := by decide +kernel
theorem dL_hour_536 : decode cL_hour 536 = .ok (.iastore, 1) := by decide +kernel
theorem dL_hour_537 : decode cL_hour 537 = .ok (.iload 11, 2) := by decide +kernel
theorem dL_hour_539 : decode cL_hour 539 = .ok (.ireturn, 1) := by decide +kernel
theorem dL_spot_0 : decode cL_spot 0 = .ok (.iconst 0, 1) := by decide +kernel
theorem dL_spot_1 : decode cL_spot 1 = .ok (.istore_n 2, 1) := by decide +kernel
theorem dL_spot_2 : decode cL_spot 2 = .ok (.iload_n 2, 1) := by decide +kernel
theorem dL_spot_3 : decode cL_spot 3 = .ok (.aload_n 1, 1) := by decide +kernel
theorem dL_spot_4 : decode cL_spot 4 = .ok (.iconst 0, 1) := by decide +kernel
theorem dL_spot_5 : decode cL_spot 5 = .ok (.iaload, 1) := by decide +kernel
theorem dL_spot_6 : decode cL_spot 6 = .ok (.if_icmp .ge 20, 3) := by decide +kernel
theorem dL_spot_9 : decode cL_spot 9 = .ok (.aload_n 1, 1) := by decide +kernel
theorem dL_spot_10 : decode cL_spot 10 = .ok (.iload_n 2, 1) := by decide +kernel
theorem dL_spot_11 : decode cL_spot 11 = .ok (.iconst 1, 1) := by decide +kernel
theorem dL_spot_12 : decode cL_spot 12 = .ok (.iadd, 1) := by decide +kernel
theorem dL_spot_13 : decode cL_spot 13 = .ok (.iaload, 1) := by decide +kernel
theorem dL_spot_14 : decode cL_spot 14 = .ok (.iload_n 0, 1) := by decide +kernel
theorem dL_spot_15 : decode cL_spot 15 = .ok (.if_icmp .ne 5, 3) := by decide +kernel
theorem dL_spot_18 : decode cL_spot 18 = .ok (.iload_n 2, 1) := by decide +kernel
theorem dL_spot_19 : decode cL_spot 19 = .ok (.ireturn, 1) := by decide +kernel
theorem dL_spot_20 : decode cL_spot 20 = .ok (.iinc 2 1, 3) := by decide +kernel
theorem dL_spot_23 : decode cL_spot 23 = .ok (.goto (-21), 3) := by decide +kernel
theorem dL_spot_26 : decode cL_spot 26 = .ok (.iconst (-1), 1) := by decide +kernel
theorem dL_spot_27 : decode cL_spot 27 = .ok (.ireturn, 1) := by decide +kernel
theorem dL_sum_0 : decode cL_sum 0 = .ok (.iconst 0, 1) := by decide +kernel
theorem dL_sum_1 : decode cL_sum 1 = .ok (.istore_n 3, 1) := by decide +kernel
theorem dL_sum_2 : decode cL_sum 2 = .ok (.iconst 0, 1) := by decide +kernel
theorem dL_sum_3 : decode cL_sum 3 = .ok (.istore 4, 2) := by decide +kernel
theorem dL_sum_5 : decode cL_sum 5 = .ok (.iload 4, 2) := by decide +kernel
theorem dL_sum_7 : decode cL_sum 7 = .ok (.aload_n 2, 1) := by decide +kernel
theorem dL_sum_8 : decode cL_sum 8 = .ok (.bipush 6, 2) := by decide +kernel
theorem dL_sum_10 : decode cL_sum 10 = .ok (.iaload, 1) := by decide +kernel
theorem dL_sum_11 : decode cL_sum 11 = .ok (.if_icmp .ge 46, 3) := by decide +kernel
theorem dL_sum_14 : decode cL_sum 14 = .ok (.iload_n 3, 1) := by decide +kernel
theorem dL_sum_15 : decode cL_sum 15 = .ok (.iload_n 0, 1) := by decide +kernel
theorem dL_sum_16 : decode cL_sum 16 = .ok (.iconst 3, 1) := by decide +kernel
theorem dL_sum_17 : decode cL_sum 17 = .ok (.if_icmp .ne 23, 3) := by decide +kernel
theorem dL_sum_20 : decode cL_sum 20 = .ok (.aload_n 1, 1) := by decide +kernel
theorem dL_sum_21 : decode cL_sum 21 = .ok (.bipush 7, 2) := by decide +kernel
theorem dL_sum_23 : decode cL_sum 23 = .ok (.iload 4, 2) := by decide +kernel
theorem dL_sum_25 : decode cL_sum 25 = .ok (.imul, 1) := by decide +kernel
theorem dL_sum_26 : decode cL_sum 26 = .ok (.iconst 3, 1) := by decide +kernel
theorem dL_sum_27 : decode cL_sum 27 = .ok (.iadd, 1) := by decide +kernel
theorem dL_sum_28 : decode cL_sum 28 = .ok (.iaload, 1) := by decide +kernel
theorem dL_sum_29 : decode cL_sum 29 = .ok (.ifCond .le 7, 3) := by decide +kernel
theorem dL_sum_32 : decode cL_sum 32 = .ok (.iconst 1, 1) := by decide +kernel
theorem dL_sum_33 : decode cL_sum 33 = .ok (.goto 16, 3) := by decide +kernel
theorem dL_sum_36 : decode cL_sum 36 = .ok (.iconst 0, 1) := by decide +kernel
theorem dL_sum_37 : decode cL_sum 37 = .ok (.goto 12, 3) := by decide +kernel
theorem dL_sum_40 : decode cL_sum 40 = .ok (.aload_n 1, 1) := by decide +kernel
theorem dL_sum_41 : decode cL_sum 41 = .ok (.bipush 7, 2) := by decide +kernel
theorem dL_sum_43 : decode cL_sum 43 = .ok (.iload 4, 2) := by decide +kernel
theorem dL_sum_45 : decode cL_sum 45 = .ok (.imul, 1) := by decide +kernel
theorem dL_sum_46 : decode cL_sum 46 = .ok (.iload_n 0, 1) := by decide +kernel
theorem dL_sum_47 : decode cL_sum 47 = .ok (.iadd, 1) := by decide +kernel
theorem dL_sum_48 : decode cL_sum 48 = .ok (.iaload, 1) := by decide +kernel
theorem dL_sum_49 : decode cL_sum 49 = .ok (.iadd, 1) := by decide +kernel
theorem dL_sum_50 : decode cL_sum 50 = .ok (.istore_n 3, 1) := by decide +kernel
theorem dL_sum_51 : decode cL_sum 51 = .ok (.iinc 4 1, 3) := by decide +kernel
theorem dL_sum_54 : decode cL_sum 54 = .ok (.goto (-49), 3) := by decide +kernel
theorem dL_sum_57 : decode cL_sum 57 = .ok (.iload_n 3, 1) := by decide +kernel
theorem dL_sum_58 : decode cL_sum 58 = .ok (.ireturn, 1) := by decide +kernel
theorem dL_turbines_0 : decode cL_turbines 0 = .ok (.iconst 0, 1) := by decide +kernel
theorem dL_turbines_1 : decode cL_turbines 1 = .ok (.istore 7, 2) := by decide +kernel
theorem dL_turbines_3 : decode cL_turbines 3 = .ok (.iload 7, 2) := by decide +kernel
theorem dL_turbines_5 : decode cL_turbines 5 = .ok (.aload 6, 2) := by decide +kernel
theorem dL_turbines_7 : decode cL_turbines 7 = .ok (.bipush 6, 2) := by decide +kernel
theorem dL_turbines_9 : decode cL_turbines 9 = .ok (.iaload, 1) := by decide +kernel
theorem dL_turbines_10 : decode cL_turbines 10 = .ok (.if_icmp .ge 227, 3) := by decide +kernel
theorem dL_turbines_13 : decode cL_turbines 13 = .ok (.iconst 0, 1) := by decide +kernel
theorem dL_turbines_14 : decode cL_turbines 14 = .ok (.istore 8, 2) := by decide +kernel
theorem dL_turbines_16 : decode cL_turbines 16 = .ok (.iconst 0, 1) := by decide +kernel
theorem dL_turbines_17 : decode cL_turbines 17 = .ok (.istore 9, 2) := by decide +kernel
theorem dL_turbines_19 : decode cL_turbines 19 = .ok (.iload 9, 2) := by decide +kernel
theorem dL_turbines_21 : decode cL_turbines 21 = .ok (.aload 6, 2) := by decide +kernel
theorem dL_turbines_23 : decode cL_turbines 23 = .ok (.bipush 7, 2) := by decide +kernel
theorem dL_turbines_25 : decode cL_turbines 25 = .ok (.iaload, 1) := by decide +kernel
theorem dL_turbines_26 : decode cL_turbines 26 = .ok (.if_icmp .ge 41, 3) := by decide +kernel
theorem dL_turbines_29 : decode cL_turbines 29 = .ok (.iload 8, 2) := by decide +kernel
theorem dL_turbines_31 : decode cL_turbines 31 = .ok (.aload_n 2, 1) := by decide +kernel
theorem dL_turbines_32 : decode cL_turbines 32 = .ok (.iconst 2, 1) := by decide +kernel
theorem dL_turbines_33 : decode cL_turbines 33 = .ok (.iload 9, 2) := by decide +kernel
theorem dL_turbines_35 : decode cL_turbines 35 = .ok (.imul, 1) := by decide +kernel
theorem dL_turbines_36 : decode cL_turbines 36 = .ok (.iaload, 1) := by decide +kernel
theorem dL_turbines_37 : decode cL_turbines 37 = .ok (.iload 7, 2) := by decide +kernel
theorem dL_turbines_39 : decode cL_turbines 39 = .ok (.if_icmp .ne 18, 3) := by decide +kernel
theorem dL_turbines_42 : decode cL_turbines 42 = .ok (.aload_n 2, 1) := by decide +kernel
theorem dL_turbines_43 : decode cL_turbines 43 = .ok (.iconst 2, 1) := by decide +kernel
theorem dL_turbines_44 : decode cL_turbines 44 = .ok (.iload 9, 2) := by decide +kernel
theorem dL_turbines_46 : decode cL_turbines 46 = .ok (.imul, 1) := by decide +kernel
theorem dL_turbines_47 : decode cL_turbines 47 = .ok (.iconst 1, 1) := by decide +kernel
theorem dL_turbines_48 : decode cL_turbines 48 = .ok (.iadd, 1) := by decide +kernel
theorem dL_turbines_49 : decode cL_turbines 49 = .ok (.iaload, 1) := by decide +kernel
theorem dL_turbines_50 : decode cL_turbines 50 = .ok (.ifCond .ne 7, 3) := by decide +kernel
theorem dL_turbines_53 : decode cL_turbines 53 = .ok (.iconst 1, 1) := by decide +kernel
theorem dL_turbines_54 : decode cL_turbines 54 = .ok (.goto 4, 3) := by decide +kernel
theorem dL_turbines_57 : decode cL_turbines 57 = .ok (.iconst 0, 1) := by decide +kernel
theorem dL_turbines_58 : decode cL_turbines 58 = .ok (.iadd, 1) := by decide +kernel
theorem dL_turbines_59 : decode cL_turbines 59 = .ok (.istore 8, 2) := by decide +kernel
theorem dL_turbines_61 : decode cL_turbines 61 = .ok (.iinc 9 1, 3) := by decide +kernel
theorem dL_turbines_64 : decode cL_turbines 64 = .ok (.goto (-45), 3) := by decide +kernel
theorem dL_turbines_67 : decode cL_turbines 67 = .ok (.iconst 0, 1) := by decide +kernel
theorem dL_turbines_68 : decode cL_turbines 68 = .ok (.istore 9, 2) := by decide +kernel
theorem dL_turbines_70 : decode cL_turbines 70 = .ok (.iload 9, 2) := by decide +kernel
theorem dL_turbines_72 : decode cL_turbines 72 = .ok (.iconst 5, 1) := by decide +kernel
theorem dL_turbines_73 : decode cL_turbines 73 = .ok (.if_icmp .ge 32, 3) := by decide +kernel
theorem dL_turbines_76 : decode cL_turbines 76 = .ok (.aload_n 0, 1) := by decide +kernel
theorem dL_turbines_77 : decode cL_turbines 77 = .ok (.iload 7, 2) := by decide +kernel
theorem dL_turbines_79 : decode cL_turbines 79 = .ok (.iload 9, 2) := by decide +kernel
theorem dL_turbines_81 : decode cL_turbines 81 = .ok (.invokevirtual 38, 3) := by decide +kernel
theorem dL_turbines_84 : decode cL_turbines 84 = .ok (.aload_n 1, 1) := by decide +kernel
theorem dL_turbines_85 : decode cL_turbines 85 = .ok (.bipush 7, 2) := by decide +kernel
theorem dL_turbines_87 : decode cL_turbines 87 = .ok (.iload 7, 2) := by decide +kernel
theorem dL_turbines_89 : decode cL_turbines 89 = .ok (.imul, 1) := by decide +kernel
theorem dL_turbines_90 : decode cL_turbines 90 = .ok (.iload 9, 2) := by decide +kernel
theorem dL_turbines_92 : decode cL_turbines 92 = .ok (.iadd, 1) := by decide +kernel
theorem dL_turbines_93 : decode cL_turbines 93 = .ok (.iaload, 1) := by decide +kernel
theorem dL_turbines_94 : decode cL_turbines 94 = .ok (.if_icmp .eq 5, 3) := by decide +kernel
theorem dL_turbines_97 : decode cL_turbines 97 = .ok (.iconst 0, 1) := by decide +kernel
theorem dL_turbines_98 : decode cL_turbines 98 = .ok (.ireturn, 1) := by decide +kernel
theorem dL_turbines_99 : decode cL_turbines 99 = .ok (.iinc 9 1, 3) := by decide +kernel
theorem dL_turbines_102 : decode cL_turbines 102 = .ok (.goto (-32), 3) := by decide +kernel
theorem dL_turbines_105 : decode cL_turbines 105 = .ok (.aload_n 0, 1) := by decide +kernel
theorem dL_turbines_106 : decode cL_turbines 106 = .ok (.iload 7, 2) := by decide +kernel
theorem dL_turbines_108 : decode cL_turbines 108 = .ok (.iconst 5, 1) := by decide +kernel
theorem dL_turbines_109 : decode cL_turbines 109 = .ok (.invokevirtual 38, 3) := by decide +kernel
theorem dL_turbines_112 : decode cL_turbines 112 = .ok (.aload 5, 2) := by decide +kernel
theorem dL_turbines_114 : decode cL_turbines 114 = .ok (.iconst 0, 1) := by decide +kernel
theorem dL_turbines_115 : decode cL_turbines 115 = .ok (.iaload, 1) := by decide +kernel
theorem dL_turbines_116 : decode cL_turbines 116 = .ok (.aload_n 1, 1) := by decide +kernel
theorem dL_turbines_117 : decode cL_turbines 117 = .ok (.bipush 7, 2) := by decide +kernel
theorem dL_turbines_119 : decode cL_turbines 119 = .ok (.iload 7, 2) := by decide +kernel
theorem dL_turbines_121 : decode cL_turbines 121 = .ok (.imul, 1) := by decide +kernel
theorem dL_turbines_122 : decode cL_turbines 122 = .ok (.iconst 1, 1) := by decide +kernel
theorem dL_turbines_123 : decode cL_turbines 123 = .ok (.iadd, 1) := by decide +kernel
theorem dL_turbines_124 : decode cL_turbines 124 = .ok (.iaload, 1) := by decide +kernel
theorem dL_turbines_125 : decode cL_turbines 125 = .ok (.bipush 25, 2) := by decide +kernel
theorem dL_turbines_127 : decode cL_turbines 127 = .ok (.idiv, 1) := by decide +kernel
theorem dL_turbines_128 : decode cL_turbines 128 = .ok (.isub, 1) := by decide +kernel
theorem dL_turbines_129 : decode cL_turbines 129 = .ok (.if_icmp .ne 100, 3) := by decide +kernel
theorem dL_turbines_132 : decode cL_turbines 132 = .ok (.aload_n 0, 1) := by decide +kernel
theorem dL_turbines_133 : decode cL_turbines 133 = .ok (.iload 7, 2) := by decide +kernel
theorem dL_turbines_135 : decode cL_turbines 135 = .ok (.bipush 6, 2) := by decide +kernel
theorem dL_turbines_137 : decode cL_turbines 137 = .ok (.invokevirtual 38, 3) := by decide +kernel
theorem dL_turbines_140 : decode cL_turbines 140 = .ok (.iload 7, 2) := by decide +kernel
theorem dL_turbines_142 : decode cL_turbines 142 = .ok (.aload_n 3, 1) := by decide +kernel
theorem dL_turbines_143 : decode cL_turbines 143 = .ok (.invokestatic 44, 3) := by decide +kernel
theorem dL_turbines_146 : decode cL_turbines 146 = .ok (.if_icmp .ne 83, 3) := by decide +kernel
theorem dL_turbines_149 : decode cL_turbines 149 = .ok (.aload_n 0, 1) := by decide +kernel
theorem dL_turbines_150 : decode cL_turbines 150 = .ok (.iload 7, 2) := by decide +kernel
theorem dL_turbines_152 : decode cL_turbines 152 = .ok (.bipush 7, 2) := by decide +kernel
theorem dL_turbines_154 : decode cL_turbines 154 = .ok (.invokevirtual 38, 3) := by decide +kernel
theorem dL_turbines_157 : decode cL_turbines 157 = .ok (.iload 8, 2) := by decide +kernel
theorem dL_turbines_159 : decode cL_turbines 159 = .ok (.if_icmp .ne 70, 3) := by decide +kernel
theorem dL_turbines_162 : decode cL_turbines 162 = .ok (.aload_n 0, 1) := by decide +kernel
theorem dL_turbines_163 : decode cL_turbines 163 = .ok (.iload 7, 2) := by decide +kernel
theorem dL_turbines_165 : decode cL_turbines 165 = .ok (.bipush 8, 2) := by decide +kernel
theorem dL_turbines_167 : decode cL_turbines 167 = .ok (.invokevirtual 38, 3) := by decide +kernel
theorem dL_turbines_170 : decode cL_turbines 170 = .ok (.aload_n 1, 1) := by decide +kernel
theorem dL_turbines_171 : decode cL_turbines 171 = .ok (.bipush 7, 2) := by decide +kernel
theorem dL_turbines_173 : decode cL_turbines 173 = .ok (.iload 7, 2) := by decide +kernel
theorem dL_turbines_175 : decode cL_turbines 175 = .ok (.imul, 1) := by decide +kernel
theorem dL_turbines_176 : decode cL_turbines 176 = .ok (.iconst 5, 1) := by decide +kernel
theorem dL_turbines_177 : decode cL_turbines 177 = .ok (.iadd, 1) := by decide +kernel
theorem dL_turbines_178 : decode cL_turbines 178 = .ok (.iaload, 1) := by decide +kernel
theorem dL_turbines_179 : decode cL_turbines 179 = .ok (.if_icmp .ne 50, 3) := by decide +kernel
theorem dL_turbines_182 : decode cL_turbines 182 = .ok (.aload_n 0, 1) := by decide +kernel
theorem dL_turbines_183 : decode cL_turbines 183 = .ok (.iload 7, 2) := by decide +kernel
theorem dL_turbines_185 : decode cL_turbines 185 = .ok (.bipush 9, 2) := by decide +kernel
theorem dL_turbines_187 : decode cL_turbines 187 = .ok (.invokevirtual 38, 3) := by decide +kernel
theorem dL_turbines_190 : decode cL_turbines 190 = .ok (.aload_n 1, 1) := by decide +kernel
theorem dL_turbines_191 : decode cL_turbines 191 = .ok (.bipush 7, 2) := by decide +kernel
theorem dL_turbines_193 : decode cL_turbines 193 = .ok (.iload 7, 2) := by decide +kernel
theorem dL_turbines_195 : decode cL_turbines 195 = .ok (.imul, 1) := by decide +kernel
theorem dL_turbines_196 : decode cL_turbines 196 = .ok (.bipush 6, 2) := by decide +kernel
theorem dL_turbines_198 : decode cL_turbines 198 = .ok (.iadd, 1) := by decide +kernel
theorem dL_turbines_199 : decode cL_turbines 199 = .ok (.iaload, 1) := by decide +kernel
theorem dL_turbines_200 : decode cL_turbines 200 = .ok (.if_icmp .ne 29, 3) := by decide +kernel
theorem dL_turbines_203 : decode cL_turbines 203 = .ok (.aload_n 0, 1) := by decide +kernel
theorem dL_turbines_204 : decode cL_turbines 204 = .ok (.iload 7, 2) := by decide +kernel
theorem dL_turbines_206 : decode cL_turbines 206 = .ok (.bipush 10, 2) := by decide +kernel
theorem dL_turbines_208 : decode cL_turbines 208 = .ok (.invokevirtual 38, 3) := by decide +kernel
theorem dL_turbines_211 : decode cL_turbines 211 = .ok (.iload 7, 2) := by decide +kernel
theorem dL_turbines_213 : decode cL_turbines 213 = .ok (.aload 6, 2) := by decide +kernel
theorem dL_turbines_215 : decode cL_turbines 215 = .ok (.iconst 5, 1) := by decide +kernel
theorem dL_turbines_216 : decode cL_turbines 216 = .ok (.iaload, 1) := by decide +kernel
theorem dL_turbines_217 : decode cL_turbines 217 = .ok (.aload 4, 2) := by decide +kernel
theorem dL_turbines_219 : decode cL_turbines 219 = .ok (.invokestatic 26, 3) := by decide +kernel
theorem dL_turbines_222 : decode cL_turbines 222 = .ok (.aload_n 1, 1) := by decide +kernel
theorem dL_turbines_223 : decode cL_turbines 223 = .ok (.invokestatic 34, 3) := by decide +kernel
theorem dL_turbines_226 : decode cL_turbines 226 = .ok (.if_icmp .eq 5, 3) := by decide +kernel
theorem dL_turbines_229 : decode cL_turbines 229 = .ok (.iconst 0, 1) := by decide +kernel
theorem dL_turbines_230 : decode cL_turbines 230 = .ok (.ireturn, 1) := by decide +kernel
theorem dL_turbines_231 : decode cL_turbines 231 = .ok (.iinc 7 1, 3) := by decide +kernel
theorem dL_turbines_234 : decode cL_turbines 234 = .ok (.goto (-231), 3) := by decide +kernel
theorem dL_turbines_237 : decode cL_turbines 237 = .ok (.iconst 0, 1) := by decide +kernel
theorem dL_turbines_238 : decode cL_turbines 238 = .ok (.istore 7, 2) := by decide +kernel
theorem dL_turbines_240 : decode cL_turbines 240 = .ok (.iload 7, 2) := by decide +kernel
theorem dL_turbines_242 : decode cL_turbines 242 = .ok (.aload 6, 2) := by decide +kernel
theorem dL_turbines_244 : decode cL_turbines 244 = .ok (.bipush 7, 2) := by decide +kernel
theorem dL_turbines_246 : decode cL_turbines 246 = .ok (.iaload, 1) := by decide +kernel
theorem dL_turbines_247 : decode cL_turbines 247 = .ok (.if_icmp .ge 45, 3) := by decide +kernel
theorem dL_turbines_250 : decode cL_turbines 250 = .ok (.aload_n 0, 1) := by decide +kernel
theorem dL_turbines_251 : decode cL_turbines 251 = .ok (.iload 7, 2) := by decide +kernel
theorem dL_turbines_253 : decode cL_turbines 253 = .ok (.iconst 0, 1) := by decide +kernel
theorem dL_turbines_254 : decode cL_turbines 254 = .ok (.invokevirtual 47, 3) := by decide +kernel
theorem dL_turbines_257 : decode cL_turbines 257 = .ok (.aload_n 2, 1) := by decide +kernel
theorem dL_turbines_258 : decode cL_turbines 258 = .ok (.iconst 2, 1) := by decide +kernel
theorem dL_turbines_259 : decode cL_turbines 259 = .ok (.iload 7, 2) := by decide +kernel
theorem dL_turbines_261 : decode cL_turbines 261 = .ok (.imul, 1) := by decide +kernel
theorem dL_turbines_262 : decode cL_turbines 262 = .ok (.iaload, 1) := by decide +kernel
theorem dL_turbines_263 : decode cL_turbines 263 = .ok (.if_icmp .ne 21, 3) := by decide +kernel
theorem dL_turbines_266 : decode cL_turbines 266 = .ok (.aload_n 0, 1) := by decide +kernel
theorem dL_turbines_267 : decode cL_turbines 267 = .ok (.iload 7, 2) := by decide +kernel
theorem dL_turbines_269 : decode cL_turbines 269 = .ok (.iconst 1, 1) := by decide +kernel
theorem dL_turbines_270 : decode cL_turbines 270 = .ok (.invokevirtual 47, 3) := by decide +kernel
theorem dL_turbines_273 : decode cL_turbines 273 = .ok (.aload_n 2, 1) := by decide +kernel
theorem dL_turbines_274 : decode cL_turbines 274 = .ok (.iconst 2, 1) := by decide +kernel
theorem dL_turbines_275 : decode cL_turbines 275 = .ok (.iload 7, 2) := by decide +kernel
theorem dL_turbines_277 : decode cL_turbines 277 = .ok (.imul, 1) := by decide +kernel
theorem dL_turbines_278 : decode cL_turbines 278 = .ok (.iconst 1, 1) := by decide +kernel
theorem dL_turbines_279 : decode cL_turbines 279 = .ok (.iadd, 1) := by decide +kernel
theorem dL_turbines_280 : decode cL_turbines 280 = .ok (.iaload, 1) := by decide +kernel
theorem dL_turbines_281 : decode cL_turbines 281 = .ok (.if_icmp .eq 5, 3) := by decide +kernel
theorem dL_turbines_284 : decode cL_turbines 284 = .ok (.iconst 0, 1) := by decide +kernel
theorem dL_turbines_285 : decode cL_turbines 285 = .ok (.ireturn, 1) := by decide +kernel
theorem dL_turbines_286 : decode cL_turbines 286 = .ok (.iinc 7 1, 3) := by decide +kernel
theorem dL_turbines_289 : decode cL_turbines 289 = .ok (.goto (-49), 3) := by decide +kernel
theorem dL_turbines_292 : decode cL_turbines 292 = .ok (.iconst 1, 1) := by decide +kernel
theorem dL_turbines_293 : decode cL_turbines 293 = .ok (.ireturn, 1) := by decide +kernel
theorem dL_told_0 : decode cL_told 0 = .ok (.aload_n 0, 1) := by decide +kernel
theorem dL_told_1 : decode cL_told 1 = .ok (.aload_n 2, 1) := by decide +kernel
theorem dL_told_2 : decode cL_told 2 = .ok (.aload_n 3, 1) := by decide +kernel
theorem dL_told_3 : decode cL_told 3 = .ok (.aload 4, 2) := by decide +kernel
theorem dL_told_5 : decode cL_told 5 = .ok (.aload 5, 2) := by decide +kernel
theorem dL_told_7 : decode cL_told 7 = .ok (.aload 6, 2) := by decide +kernel
theorem dL_told_9 : decode cL_told 9 = .ok (.aload 8, 2) := by decide +kernel
theorem dL_told_11 : decode cL_told 11 = .ok (.invokestatic 50, 3) := by decide +kernel
theorem dL_told_14 : decode cL_told 14 = .ok (.ifCond .ne 5, 3) := by decide +kernel
theorem dL_told_17 : decode cL_told 17 = .ok (.iconst 0, 1) := by decide +kernel
theorem dL_told_18 : decode cL_told 18 = .ok (.ireturn, 1) := by decide +kernel
theorem dL_told_19 : decode cL_told 19 = .ok (.iconst 0, 1) := by decide +kernel
theorem dL_told_20 : decode cL_told 20 = .ok (.istore 9, 2) := by decide +kernel
theorem dL_told_22 : decode cL_told 22 = .ok (.iload 9, 2) := by decide +kernel
theorem dL_told_24 : decode cL_told 24 = .ok (.aload 8, 2) := by decide +kernel
theorem dL_told_26 : decode cL_told 26 = .ok (.bipush 8, 2) := by decide +kernel
theorem dL_told_28 : decode cL_told 28 = .ok (.iaload, 1) := by decide +kernel
theorem dL_told_29 : decode cL_told 29 = .ok (.if_icmp .ge 47, 3) := by decide +kernel
theorem dL_told_32 : decode cL_told 32 = .ok (.aload_n 0, 1) := by decide +kernel
theorem dL_told_33 : decode cL_told 33 = .ok (.iload 9, 2) := by decide +kernel
theorem dL_told_35 : decode cL_told 35 = .ok (.iconst 0, 1) := by decide +kernel
theorem dL_told_36 : decode cL_told 36 = .ok (.invokevirtual 54, 3) := by decide +kernel
theorem dL_told_39 : decode cL_told 39 = .ok (.aload 7, 2) := by decide +kernel
theorem dL_told_41 : decode cL_told 41 = .ok (.iconst 2, 1) := by decide +kernel
theorem dL_told_42 : decode cL_told 42 = .ok (.iload 9, 2) := by decide +kernel
theorem dL_told_44 : decode cL_told 44 = .ok (.imul, 1) := by decide +kernel
theorem dL_told_45 : decode cL_told 45 = .ok (.iaload, 1) := by decide +kernel
theorem dL_told_46 : decode cL_told 46 = .ok (.if_icmp .ne 22, 3) := by decide +kernel
theorem dL_told_49 : decode cL_told 49 = .ok (.aload_n 0, 1) := by decide +kernel
theorem dL_told_50 : decode cL_told 50 = .ok (.iload 9, 2) := by decide +kernel
theorem dL_told_52 : decode cL_told 52 = .ok (.iconst 1, 1) := by decide +kernel
theorem dL_told_53 : decode cL_told 53 = .ok (.invokevirtual 54, 3) := by decide +kernel
theorem dL_told_56 : decode cL_told 56 = .ok (.aload 7, 2) := by decide +kernel
theorem dL_told_58 : decode cL_told 58 = .ok (.iconst 2, 1) := by decide +kernel
theorem dL_told_59 : decode cL_told 59 = .ok (.iload 9, 2) := by decide +kernel
theorem dL_told_61 : decode cL_told 61 = .ok (.imul, 1) := by decide +kernel
theorem dL_told_62 : decode cL_told 62 = .ok (.iconst 1, 1) := by decide +kernel
theorem dL_told_63 : decode cL_told 63 = .ok (.iadd, 1) := by decide +kernel
theorem dL_told_64 : decode cL_told 64 = .ok (.iaload, 1) := by decide +kernel
theorem dL_told_65 : decode cL_told 65 = .ok (.if_icmp .eq 5, 3) := by decide +kernel
theorem dL_told_68 : decode cL_told 68 = .ok (.iconst 0, 1) := by decide +kernel
theorem dL_told_69 : decode cL_told 69 = .ok (.ireturn, 1) := by decide +kernel
theorem dL_told_70 : decode cL_told 70 = .ok (.iinc 9 1, 3) := by decide +kernel
theorem dL_told_73 : decode cL_told 73 = .ok (.goto (-51), 3) := by decide +kernel
theorem dL_told_76 : decode cL_told 76 = .ok (.iconst 0, 1) := by decide +kernel
theorem dL_told_77 : decode cL_told 77 = .ok (.istore 9, 2) := by decide +kernel
theorem dL_told_79 : decode cL_told 79 = .ok (.iload 9, 2) := by decide +kernel
theorem dL_told_81 : decode cL_told 81 = .ok (.iconst 5, 1) := by decide +kernel
theorem dL_told_82 : decode cL_told 82 = .ok (.if_icmp .ge 28, 3) := by decide +kernel
theorem dL_told_85 : decode cL_told 85 = .ok (.aload_n 0, 1) := by decide +kernel
theorem dL_told_86 : decode cL_told 86 = .ok (.iload 9, 2) := by decide +kernel
theorem dL_told_88 : decode cL_told 88 = .ok (.invokevirtual 57, 3) := by decide +kernel
theorem dL_told_91 : decode cL_told 91 = .ok (.aload 8, 2) := by decide +kernel
theorem dL_told_93 : decode cL_told 93 = .ok (.bipush 9, 2) := by decide +kernel
theorem dL_told_95 : decode cL_told 95 = .ok (.iload 9, 2) := by decide +kernel
theorem dL_told_97 : decode cL_told 97 = .ok (.iadd, 1) := by decide +kernel
theorem dL_told_98 : decode cL_told 98 = .ok (.iaload, 1) := by decide +kernel
theorem dL_told_99 : decode cL_told 99 = .ok (.if_icmp .eq 5, 3) := by decide +kernel
theorem dL_told_102 : decode cL_told 102 = .ok (.iconst 0, 1) := by decide +kernel
theorem dL_told_103 : decode cL_told 103 = .ok (.ireturn, 1) := by decide +kernel
theorem dL_told_104 : decode cL_told 104 = .ok (.iinc 9 1, 3) := by decide +kernel
theorem dL_told_107 : decode cL_told 107 = .ok (.goto (-28), 3) := by decide +kernel
theorem dL_told_110 : decode cL_told 110 = .ok (.iconst 0, 1) := by decide +kernel
theorem dL_told_111 : decode cL_told 111 = .ok (.istore 9, 2) := by decide +kernel
theorem dL_told_113 : decode cL_told 113 = .ok (.iload 9, 2) := by decide +kernel
theorem dL_told_115 : decode cL_told 115 = .ok (.bipush 7, 2) := by decide +kernel
theorem dL_told_117 : decode cL_told 117 = .ok (.if_icmp .ge 25, 3) := by decide +kernel
theorem dL_told_120 : decode cL_told 120 = .ok (.aload_n 0, 1) := by decide +kernel
theorem dL_told_121 : decode cL_told 121 = .ok (.iload 9, 2) := by decide +kernel
theorem dL_told_123 : decode cL_told 123 = .ok (.invokevirtual 60, 3) := by decide +kernel
theorem dL_told_126 : decode cL_told 126 = .ok (.aload 6, 2) := by decide +kernel
theorem dL_told_128 : decode cL_told 128 = .ok (.iload 9, 2) := by decide +kernel
theorem dL_told_130 : decode cL_told 130 = .ok (.iaload, 1) := by decide +kernel
theorem dL_told_131 : decode cL_told 131 = .ok (.if_icmp .eq 5, 3) := by decide +kernel
theorem dL_told_134 : decode cL_told 134 = .ok (.iconst 0, 1) := by decide +kernel
theorem dL_told_135 : decode cL_told 135 = .ok (.ireturn, 1) := by decide +kernel
theorem dL_told_136 : decode cL_told 136 = .ok (.iinc 9 1, 3) := by decide +kernel
theorem dL_told_139 : decode cL_told 139 = .ok (.goto (-26), 3) := by decide +kernel
theorem dL_told_142 : decode cL_told 142 = .ok (.aload_n 0, 1) := by decide +kernel
theorem dL_told_143 : decode cL_told 143 = .ok (.iconst 0, 1) := by decide +kernel
theorem dL_told_144 : decode cL_told 144 = .ok (.invokevirtual 63, 3) := by decide +kernel
