theorem dX5_likeSetting_0 : decode cX5_likeSetting 0 = .ok (.iconst 0, 1) := by decide +kernel
theorem dX5_likeSetting_1 : decode cX5_likeSetting 1 = .ok (.istore_n 2, 1) := by decide +kernel
theorem dX5_likeSetting_2 : decode cX5_likeSetting 2 = .ok (.iconst 0, 1) := by decide +kernel
theorem dX5_likeSetting_3 : decode cX5_likeSetting 3 = .ok (.istore_n 3, 1) := by decide +kernel
theorem dX5_likeSetting_4 : decode cX5_likeSetting 4 = .ok (.iload_n 3, 1) := by decide +kernel
theorem dX5_likeSetting_5 : decode cX5_likeSetting 5 = .ok (.iconst 4, 1) := by decide +kernel
theorem dX5_likeSetting_6 : decode cX5_likeSetting 6 = .ok (.if_icmp .ge 30, 3) := by decide +kernel
theorem dX5_likeSetting_9 : decode cX5_likeSetting 9 = .ok (.iload_n 2, 1) := by decide +kernel
theorem dX5_likeSetting_10 : decode cX5_likeSetting 10 = .ok (.aload_n 0, 1) := by decide +kernel
theorem dX5_likeSetting_11 : decode cX5_likeSetting 11 = .ok (.getfield 17, 3) := by decide +kernel
theorem dX5_likeSetting_14 : decode cX5_likeSetting 14 = .ok (.iload_n 3, 1) := by decide +kernel
theorem dX5_likeSetting_15 : decode cX5_likeSetting 15 = .ok (.aaload, 1) := by decide +kernel
theorem dX5_likeSetting_16 : decode cX5_likeSetting 16 = .ok (.iload_n 1, 1) := by decide +kernel
theorem dX5_likeSetting_17 : decode cX5_likeSetting 17 = .ok (.iload_n 3, 1) := by decide +kernel
theorem dX5_likeSetting_18 : decode cX5_likeSetting 18 = .ok (.invokestatic 71, 3) := by decide +kernel
theorem dX5_likeSetting_21 : decode cX5_likeSetting 21 = .ok (.iaload, 1) := by decide +kernel
theorem dX5_likeSetting_22 : decode cX5_likeSetting 22 = .ok (.getstatic 74, 3) := by decide +kernel
theorem dX5_likeSetting_25 : decode cX5_likeSetting 25 = .ok (.iload_n 3, 1) := by decide +kernel
theorem dX5_likeSetting_26 : decode cX5_likeSetting 26 = .ok (.iaload, 1) := by decide +kernel
theorem dX5_likeSetting_27 : decode cX5_likeSetting 27 = .ok (.imul, 1) := by decide +kernel
theorem dX5_likeSetting_28 : decode cX5_likeSetting 28 = .ok (.iadd, 1) := by decide +kernel
theorem dX5_likeSetting_29 : decode cX5_likeSetting 29 = .ok (.istore_n 2, 1) := by decide +kernel
theorem dX5_likeSetting_30 : decode cX5_likeSetting 30 = .ok (.iinc 3 1, 3) := by decide +kernel
theorem dX5_likeSetting_33 : decode cX5_likeSetting 33 = .ok (.goto (-29), 3) := by decide +kernel
theorem dX5_likeSetting_36 : decode cX5_likeSetting 36 = .ok (.iload_n 2, 1) := by decide +kernel
theorem dX5_likeSetting_37 : decode cX5_likeSetting 37 = .ok (.ireturn, 1) := by decide +kernel
theorem dX5_barOf_0 : decode cX5_barOf 0 = .ok (.iload_n 0, 1) := by decide +kernel
theorem dX5_barOf_1 : decode cX5_barOf 1 = .ok (.getstatic 74, 3) := by decide +kernel
theorem dX5_barOf_4 : decode cX5_barOf 4 = .ok (.iload_n 1, 1) := by decide +kernel
theorem dX5_barOf_5 : decode cX5_barOf 5 = .ok (.iaload, 1) := by decide +kernel
theorem dX5_barOf_6 : decode cX5_barOf 6 = .ok (.idiv, 1) := by decide +kernel
theorem dX5_barOf_7 : decode cX5_barOf 7 = .ok (.iconst 5, 1) := by decide +kernel
theorem dX5_barOf_8 : decode cX5_barOf 8 = .ok (.irem, 1) := by decide +kernel
theorem dX5_barOf_9 : decode cX5_barOf 9 = .ok (.ireturn, 1) := by decide +kernel
theorem dX5_setWays_0 : decode cX5_setWays 0 = .ok (.iconst 0, 1) := by decide +kernel
theorem dX5_setWays_1 : decode cX5_setWays 1 = .ok (.istore_n 3, 1) := by decide +kernel
theorem dX5_setWays_2 : decode cX5_setWays 2 = .ok (.iload_n 3, 1) := by decide +kernel
theorem dX5_setWays_3 : decode cX5_setWays 3 = .ok (.iconst 4, 1) := by decide +kernel
theorem dX5_setWays_4 : decode cX5_setWays 4 = .ok (.if_icmp .ge 53, 3) := by decide +kernel
theorem dX5_setWays_7 : decode cX5_setWays 7 = .ok (.iload_n 2, 1) := by decide +kernel
theorem dX5_setWays_8 : decode cX5_setWays 8 = .ok (.iload_n 3, 1) := by decide +kernel
theorem dX5_setWays_9 : decode cX5_setWays 9 = .ok (.invokestatic 71, 3) := by decide +kernel
theorem dX5_setWays_12 : decode cX5_setWays 12 = .ok (.istore 4, 2) := by decide +kernel
theorem dX5_setWays_14 : decode cX5_setWays 14 = .ok (.iload 4, 2) := by decide +kernel
theorem dX5_setWays_16 : decode cX5_setWays 16 = .ok (.ifCond .ne 14, 3) := by decide +kernel
theorem dX5_setWays_19 : decode cX5_setWays 19 = .ok (.aload_n 1, 1) := by decide +kernel
theorem dX5_setWays_20 : decode cX5_setWays 20 = .ok (.iload_n 3, 1) := by decide +kernel
theorem dX5_setWays_21 : decode cX5_setWays 21 = .ok (.iconst 0, 1) := by decide +kernel
theorem dX5_setWays_22 : decode cX5_setWays 22 = .ok (.iconst 0, 1) := by decide +kernel
theorem dX5_setWays_23 : decode cX5_setWays 23 = .ok (.iconst 0, 1) := by decide +kernel
theorem dX5_setWays_24 : decode cX5_setWays 24 = .ok (.invokevirtual 77, 3) := by decide +kernel
theorem dX5_setWays_27 : decode cX5_setWays 27 = .ok (.goto 24, 3) := by decide +kernel
theorem dX5_setWays_30 : decode cX5_setWays 30 = .ok (.aload_n 1, 1) := by decide +kernel
theorem dX5_setWays_31 : decode cX5_setWays 31 = .ok (.iload_n 3, 1) := by decide +kernel
theorem dX5_setWays_32 : decode cX5_setWays 32 = .ok (.iconst 1, 1) := by decide +kernel
theorem dX5_setWays_33 : decode cX5_setWays 33 = .ok (.aload_n 0, 1) := by decide +kernel
theorem dX5_setWays_34 : decode cX5_setWays 34 = .ok (.getfield 30, 3) := by decide +kernel
theorem dX5_setWays_37 : decode cX5_setWays 37 = .ok (.getfield 66, 3) := by decide +kernel
theorem dX5_setWays_40 : decode cX5_setWays 40 = .ok (.iload_n 3, 1) := by decide +kernel
theorem dX5_setWays_41 : decode cX5_setWays 41 = .ok (.aaload, 1) := by decide +kernel
theorem dX5_setWays_42 : decode cX5_setWays 42 = .ok (.iload 4, 2) := by decide +kernel
theorem dX5_setWays_44 : decode cX5_setWays 44 = .ok (.iconst 1, 1) := by decide +kernel
theorem dX5_setWays_45 : decode cX5_setWays 45 = .ok (.isub, 1) := by decide +kernel
theorem dX5_setWays_46 : decode cX5_setWays 46 = .ok (.iaload, 1) := by decide +kernel
theorem dX5_setWays_47 : decode cX5_setWays 47 = .ok (.iconst 0, 1) := by decide +kernel
theorem dX5_setWays_48 : decode cX5_setWays 48 = .ok (.invokevirtual 77, 3) := by decide +kernel
theorem dX5_setWays_51 : decode cX5_setWays 51 = .ok (.iinc 3 1, 3) := by decide +kernel
theorem dX5_setWays_54 : decode cX5_setWays 54 = .ok (.goto (-52), 3) := by decide +kernel
theorem dX5_setWays_57 : decode cX5_setWays 57 = .ok (.return_, 1) := by decide +kernel
theorem dX5_isAtRest_0 : decode cX5_isAtRest 0 = .ok (.iconst 0, 1) := by decide +kernel
theorem dX5_isAtRest_1 : decode cX5_isAtRest 1 = .ok (.istore_n 2, 1) := by decide +kernel
theorem dX5_isAtRest_2 : decode cX5_isAtRest 2 = .ok (.iload_n 2, 1) := by decide +kernel
theorem dX5_isAtRest_3 : decode cX5_isAtRest 3 = .ok (.iconst 4, 1) := by decide +kernel
theorem dX5_isAtRest_4 : decode cX5_isAtRest 4 = .ok (.if_icmp .ge 76, 3) := by decide +kernel
theorem dX5_isAtRest_7 : decode cX5_isAtRest 7 = .ok (.iload_n 1, 1) := by decide +kernel
theorem dX5_isAtRest_8 : decode cX5_isAtRest 8 = .ok (.iload_n 1, 1) := by decide +kernel
theorem dX5_isAtRest_9 : decode cX5_isAtRest 9 = .ok (.iload_n 2, 1) := by decide +kernel
theorem dX5_isAtRest_10 : decode cX5_isAtRest 10 = .ok (.invokestatic 71, 3) := by decide +kernel
theorem dX5_isAtRest_13 : decode cX5_isAtRest 13 = .ok (.getstatic 74, 3) := by decide +kernel
theorem dX5_isAtRest_16 : decode cX5_isAtRest 16 = .ok (.iload_n 2, 1) := by decide +kernel
theorem dX5_isAtRest_17 : decode cX5_isAtRest 17 = .ok (.iaload, 1) := by decide +kernel
theorem dX5_isAtRest_18 : decode cX5_isAtRest 18 = .ok (.imul, 1) := by decide +kernel
theorem dX5_isAtRest_19 : decode cX5_isAtRest 19 = .ok (.isub, 1) := by decide +kernel
theorem dX5_isAtRest_20 : decode cX5_isAtRest 20 = .ok (.istore_n 3, 1) := by decide +kernel
theorem dX5_isAtRest_21 : decode cX5_isAtRest 21 = .ok (.iconst 0, 1) := by decide +kernel
theorem dX5_isAtRest_22 : decode cX5_isAtRest 22 = .ok (.istore 4, 2) := by decide +kernel
theorem dX5_isAtRest_24 : decode cX5_isAtRest 24 = .ok (.iload 4, 2) := by decide +kernel
theorem dX5_isAtRest_26 : decode cX5_isAtRest 26 = .ok (.iconst 5, 1) := by decide +kernel
theorem dX5_isAtRest_27 : decode cX5_isAtRest 27 = .ok (.if_icmp .ge 47, 3) := by decide +kernel
theorem dX5_isAtRest_30 : decode cX5_isAtRest 30 = .ok (.iload_n 3, 1) := by decide +kernel
theorem dX5_isAtRest_31 : decode cX5_isAtRest 31 = .ok (.iload 4, 2) := by decide +kernel
theorem dX5_isAtRest_33 : decode cX5_isAtRest 33 = .ok (.getstatic 74, 3) := by decide +kernel
theorem dX5_isAtRest_36 : decode cX5_isAtRest 36 = .ok (.iload_n 2, 1) := by decide +kernel
theorem dX5_isAtRest_37 : decode cX5_isAtRest 37 = .ok (.iaload, 1) := by decide +kernel
theorem dX5_isAtRest_38 : decode cX5_isAtRest 38 = .ok (.imul, 1) := by decide +kernel
theorem dX5_isAtRest_39 : decode cX5_isAtRest 39 = .ok (.iadd, 1) := by decide +kernel
theorem dX5_isAtRest_40 : decode cX5_isAtRest 40 = .ok (.istore 5, 2) := by decide +kernel
theorem dX5_isAtRest_42 : decode cX5_isAtRest 42 = .ok (.aload_n 0, 1) := by decide +kernel
theorem dX5_isAtRest_43 : decode cX5_isAtRest 43 = .ok (.getfield 9, 3) := by decide +kernel
theorem dX5_isAtRest_46 : decode cX5_isAtRest 46 = .ok (.iload 5, 2) := by decide +kernel
theorem dX5_isAtRest_48 : decode cX5_isAtRest 48 = .ok (.iconst 4, 1) := by decide +kernel
theorem dX5_isAtRest_49 : decode cX5_isAtRest 49 = .ok (.imul, 1) := by decide +kernel
theorem dX5_isAtRest_50 : decode cX5_isAtRest 50 = .ok (.iload_n 2, 1) := by decide +kernel
theorem dX5_isAtRest_51 : decode cX5_isAtRest 51 = .ok (.iadd, 1) := by decide +kernel
theorem dX5_isAtRest_52 : decode cX5_isAtRest 52 = .ok (.iaload, 1) := by decide +kernel
theorem dX5_isAtRest_53 : decode cX5_isAtRest 53 = .ok (.aload_n 0, 1) := by decide +kernel
theorem dX5_isAtRest_54 : decode cX5_isAtRest 54 = .ok (.getfield 9, 3) := by decide +kernel
theorem dX5_isAtRest_57 : decode cX5_isAtRest 57 = .ok (.iload_n 1, 1) := by decide +kernel
theorem dX5_isAtRest_58 : decode cX5_isAtRest 58 = .ok (.iconst 4, 1) := by decide +kernel
theorem dX5_isAtRest_59 : decode cX5_isAtRest 59 = .ok (.imul, 1) := by decide +kernel
theorem dX5_isAtRest_60 : decode cX5_isAtRest 60 = .ok (.iload_n 2, 1) := by decide +kernel
theorem dX5_isAtRest_61 : decode cX5_isAtRest 61 = .ok (.iadd, 1) := by decide +kernel
theorem dX5_isAtRest_62 : decode cX5_isAtRest 62 = .ok (.iaload, 1) := by decide +kernel
theorem dX5_isAtRest_63 : decode cX5_isAtRest 63 = .ok (.if_icmp .le 5, 3) := by decide +kernel
theorem dX5_isAtRest_66 : decode cX5_isAtRest 66 = .ok (.iconst 0, 1) := by decide +kernel
theorem dX5_isAtRest_67 : decode cX5_isAtRest 67 = .ok (.ireturn, 1) := by decide +kernel
theorem dX5_isAtRest_68 : decode cX5_isAtRest 68 = .ok (.iinc 4 1, 3) := by decide +kernel
theorem dX5_isAtRest_71 : decode cX5_isAtRest 71 = .ok (.goto (-47), 3) := by decide +kernel
theorem dX5_isAtRest_74 : decode cX5_isAtRest 74 = .ok (.iinc 2 1, 3) := by decide +kernel
theorem dX5_isAtRest_77 : decode cX5_isAtRest 77 = .ok (.goto (-75), 3) := by decide +kernel
theorem dX5_isAtRest_80 : decode cX5_isAtRest 80 = .ok (.iconst 1, 1) := by decide +kernel
theorem dX5_isAtRest_81 : decode cX5_isAtRest 81 = .ok (.ireturn, 1) := by decide +kernel
theorem dX6_init_0 : decode cX6_init 0 = .ok (.aload_n 0, 1) := by decide +kernel
theorem dX6_init_1 : decode cX6_init 1 = .ok (.invokespecial 3, 3) := by decide +kernel
theorem dX6_init_4 : decode cX6_init 4 = .ok (.aload_n 0, 1) := by decide +kernel
theorem dX6_init_5 : decode cX6_init 5 = .ok (.bipush 24, 2) := by decide +kernel
theorem dX6_init_7 : decode cX6_init 7 = .ok (.newarray .int, 2) := by decide +kernel
theorem dX6_init_9 : decode cX6_init 9 = .ok (.putfield 9, 3) := by decide +kernel
theorem dX6_init_12 : decode cX6_init 12 = .ok (.aload_n 0, 1) := by decide +kernel
theorem dX6_init_13 : decode cX6_init 13 = .ok (.iconst 0, 1) := by decide +kernel
theorem dX6_init_14 : decode cX6_init 14 = .ok (.putfield 15, 3) := by decide +kernel
theorem dX6_init_17 : decode cX6_init 17 = .ok (.return_, 1) := by decide +kernel
theorem dX6_isFull_0 : decode cX6_isFull 0 = .ok (.aload_n 0, 1) := by decide +kernel
theorem dX6_isFull_1 : decode cX6_isFull 1 = .ok (.getfield 15, 3) := by decide +kernel
theorem dX6_isFull_4 : decode cX6_isFull 4 = .ok (.bipush 24, 2) := by decide +kernel
theorem dX6_isFull_6 : decode cX6_isFull 6 = .ok (.if_icmp .lt 7, 3) := by decide +kernel
theorem dX6_isFull_9 : decode cX6_isFull 9 = .ok (.iconst 1, 1) := by decide +kernel
theorem dX6_isFull_10 : decode cX6_isFull 10 = .ok (.goto 4, 3) := by decide +kernel
theorem dX6_isFull_13 : decode cX6_isFull 13 = .ok (.iconst 0, 1) := by decide +kernel
theorem dX6_isFull_14 : decode cX6_isFull 14 = .ok (.ireturn, 1) := by decide +kernel
theorem dX6_add_0 : decode cX6_add 0 = .ok (.aload_n 0, 1) := by decide +kernel
theorem dX6_add_1 : decode cX6_add 1 = .ok (.invokevirtual 19, 3) := by decide +kernel
theorem dX6_add_4 : decode cX6_add 4 = .ok (.ifCond .ne 23, 3) := by decide +kernel
theorem dX6_add_7 : decode cX6_add 7 = .ok (.aload_n 0, 1) := by decide +kernel
theorem dX6_add_8 : decode cX6_add 8 = .ok (.getfield 9, 3) := by decide +kernel
theorem dX6_add_11 : decode cX6_add 11 = .ok (.aload_n 0, 1) := by decide +kernel
theorem dX6_add_12 : decode cX6_add 12 = .ok (.getfield 15, 3) := by decide +kernel
theorem dX6_add_15 : decode cX6_add 15 = .ok (.iload_n 1, 1) := by decide +kernel
theorem dX6_add_16 : decode cX6_add 16 = .ok (.iastore, 1) := by decide +kernel
theorem dX6_add_17 : decode cX6_add 17 = .ok (.aload_n 0, 1) := by decide +kernel
theorem dX6_add_18 : decode cX6_add 18 = .ok (.dup, 1) := by decide +kernel
theorem dX6_add_19 : decode cX6_add 19 = .ok (.getfield 15, 3) := by decide +kernel
theorem dX6_add_22 : decode cX6_add 22 = .ok (.iconst 1, 1) := by decide +kernel
theorem dX6_add_23 : decode cX6_add 23 = .ok (.iadd, 1) := by decide +kernel
theorem dX6_add_24 : decode cX6_add 24 = .ok (.putfield 15, 3) := by decide +kernel
theorem dX6_add_27 : decode cX6_add 27 = .ok (.aload_n 0, 1) := by decide +kernel
theorem dX6_add_28 : decode cX6_add 28 = .ok (.getfield 15, 3) := by decide +kernel
theorem dX6_add_31 : decode cX6_add 31 = .ok (.ireturn, 1) := by decide +kernel
theorem dX6_inWeek_0 : decode cX6_inWeek 0 = .ok (.aload_n 0, 1) := by decide +kernel
theorem dX6_inWeek_1 : decode cX6_inWeek 1 = .ok (.getfield 15, 3) := by decide +kernel
theorem dX6_inWeek_4 : decode cX6_inWeek 4 = .ok (.ifCond .ne 7, 3) := by decide +kernel
theorem dX6_inWeek_7 : decode cX6_inWeek 7 = .ok (.iconst (-1), 1) := by decide +kernel
theorem dX6_inWeek_8 : decode cX6_inWeek 8 = .ok (.goto 14, 3) := by decide +kernel
theorem dX6_inWeek_11 : decode cX6_inWeek 11 = .ok (.aload_n 0, 1) := by decide +kernel
theorem dX6_inWeek_12 : decode cX6_inWeek 12 = .ok (.getfield 9, 3) := by decide +kernel
theorem dX6_inWeek_15 : decode cX6_inWeek 15 = .ok (.iload_n 1, 1) := by decide +kernel
theorem dX6_inWeek_16 : decode cX6_inWeek 16 = .ok (.aload_n 0, 1) := by decide +kernel
theorem dX6_inWeek_17 : decode cX6_inWeek 17 = .ok (.getfield 15, 3) := by decide +kernel
theorem dX6_inWeek_20 : decode cX6_inWeek 20 = .ok (.irem, 1) := by decide +kernel
theorem dX6_inWeek_21 : decode cX6_inWeek 21 = .ok (.iaload, 1) := by decide +kernel
theorem dX6_inWeek_22 : decode cX6_inWeek 22 = .ok (.ireturn, 1) := by decide +kernel
theorem dX7_init_0 : decode cX7_init 0 = .ok (.aload_n 0, 1) := by decide +kernel
theorem dX7_init_1 : decode cX7_init 1 = .ok (.invokespecial 3, 3) := by decide +kernel
theorem dX7_init_4 : decode cX7_init 4 = .ok (.aload_n 0, 1) := by decide +kernel
theorem dX7_init_5 : decode cX7_init 5 = .ok (.iconst 4, 1) := by decide +kernel
theorem dX7_init_6 : decode cX7_init 6 = .ok (.newarray .int, 2) := by decide +kernel
theorem dX7_init_8 : decode cX7_init 8 = .ok (.putfield 9, 3) := by decide +kernel
theorem dX7_init_11 : decode cX7_init 11 = .ok (.aload_n 0, 1) := by decide +kernel
theorem dX7_init_12 : decode cX7_init 12 = .ok (.iconst 4, 1) := by decide +kernel
theorem dX7_init_13 : decode cX7_init 13 = .ok (.newarray .int, 2) := by decide +kernel
theorem dX7_init_15 : decode cX7_init 15 = .ok (.putfield 15, 3) := by decide +kernel
theorem dX7_init_18 : decode cX7_init 18 = .ok (.aload_n 0, 1) := by decide +kernel
theorem dX7_init_19 : decode cX7_init 19 = .ok (.iconst 4, 1) := by decide +kernel
theorem dX7_init_20 : decode cX7_init 20 = .ok (.newarray .int, 2) := by decide +kernel
theorem dX7_init_22 : decode cX7_init 22 = .ok (.putfield 18, 3) := by decide +kernel
theorem dX7_init_25 : decode cX7_init 25 = .ok (.aload_n 0, 1) := by decide +kernel
theorem dX7_init_26 : decode cX7_init 26 = .ok (.invokevirtual 21, 3) := by decide +kernel
theorem dX7_init_29 : decode cX7_init 29 = .ok (.return_, 1) := by decide +kernel
theorem dX7_setAsAtFirst_0 : decode cX7_setAsAtFirst 0 = .ok (.aload_n 0, 1) := by decide +kernel
theorem dX7_setAsAtFirst_1 : decode cX7_setAsAtFirst 1 = .ok (.iconst 0, 1) := by decide +kernel
theorem dX7_setAsAtFirst_2 : decode cX7_setAsAtFirst 2 = .ok (.putfield 24, 3) := by decide +kernel
theorem dX7_setAsAtFirst_5 : decode cX7_setAsAtFirst 5 = .ok (.aload_n 0, 1) := by decide +kernel
theorem dX7_setAsAtFirst_6 : decode cX7_setAsAtFirst 6 = .ok (.iconst 2, 1) := by decide +kernel
theorem dX7_setAsAtFirst_7 : decode cX7_setAsAtFirst 7 = .ok (.putfield 28, 3) := by decide +kernel
theorem dX7_setAsAtFirst_10 : decode cX7_setAsAtFirst 10 = .ok (.aload_n 0, 1) := by decide +kernel
theorem dX7_setAsAtFirst_11 : decode cX7_setAsAtFirst 11 = .ok (.iconst 0, 1) := by decide +kernel
theorem dX7_setAsAtFirst_12 : decode cX7_setAsAtFirst 12 = .ok (.putfield 31, 3) := by decide +kernel
theorem dX7_setAsAtFirst_15 : decode cX7_setAsAtFirst 15 = .ok (.aload_n 0, 1) := by decide +kernel
theorem dX7_setAsAtFirst_16 : decode cX7_setAsAtFirst 16 = .ok (.iconst 1, 1) := by decide +kernel
theorem dX7_setAsAtFirst_17 : decode cX7_setAsAtFirst 17 = .ok (.putfield 34, 3) := by decide +kernel
theorem dX7_setAsAtFirst_20 : decode cX7_setAsAtFirst 20 = .ok (.iconst 0, 1) := by decide +kernel
theorem dX7_setAsAtFirst_21 : decode cX7_setAsAtFirst 21 = .ok (.istore_n 1, 1) := by decide +kernel
theorem dX7_setAsAtFirst_22 : decode cX7_setAsAtFirst 22 = .ok (.iload_n 1, 1) := by decide +kernel
theorem dX7_setAsAtFirst_23 : decode cX7_setAsAtFirst 23 = .ok (.iconst 4, 1) := by decide +kernel
theorem dX7_setAsAtFirst_24 : decode cX7_setAsAtFirst 24 = .ok (.if_icmp .ge 17, 3) := by decide +kernel
theorem dX7_setAsAtFirst_27 : decode cX7_setAsAtFirst 27 = .ok (.aload_n 0, 1) := by decide +kernel
theorem dX7_setAsAtFirst_28 : decode cX7_setAsAtFirst 28 = .ok (.iload_n 1, 1) := by decide +kernel
theorem dX7_setAsAtFirst_29 : decode cX7_setAsAtFirst 29 = .ok (.iconst 0, 1) := by decide +kernel
theorem dX7_setAsAtFirst_30 : decode cX7_setAsAtFirst 30 = .ok (.iconst 0, 1) := by decide +kernel
theorem dX7_setAsAtFirst_31 : decode cX7_setAsAtFirst 31 = .ok (.iconst 0, 1) := by decide +kernel
theorem dX7_setAsAtFirst_32 : decode cX7_setAsAtFirst 32 = .ok (.invokevirtual 37, 3) := by decide +kernel
theorem dX7_setAsAtFirst_35 : decode cX7_setAsAtFirst 35 = .ok (.iinc 1 1, 3) := by decide +kernel
theorem dX7_setAsAtFirst_38 : decode cX7_setAsAtFirst 38 = .ok (.goto (-16), 3) := by decide +kernel
theorem dX7_setAsAtFirst_41 : decode cX7_setAsAtFirst 41 = .ok (.return_, 1) := by decide +kernel
theorem dX7_copy_0 : decode cX7_copy 0 = .ok (.aload_n 0, 1) := by decide +kernel
theorem dX7_copy_1 : decode cX7_copy 1 = .ok (.aload_n 1, 1) := by decide +kernel
theorem dX7_copy_2 : decode cX7_copy 2 = .ok (.getfield 24, 3) := by decide +kernel
theorem dX7_copy_5 : decode cX7_copy 5 = .ok (.putfield 24, 3) := by decide +kernel
theorem dX7_copy_8 : decode cX7_copy 8 = .ok (.aload_n 0, 1) := by decide +kernel
theorem dX7_copy_9 : decode cX7_copy 9 = .ok (.aload_n 1, 1) := by decide +kernel
theorem dX7_copy_10 : decode cX7_copy 10 = .ok (.getfield 28, 3) := by decide +kernel
theorem dX7_copy_13 : decode cX7_copy 13 = .ok (.putfield 28, 3) := by decide +kernel
theorem dX7_copy_16 : decode cX7_copy 16 = .ok (.aload_n 0, 1) := by decide +kernel
theorem dX7_copy_17 : decode cX7_copy 17 = .ok (.aload_n 1, 1) := by decide +kernel
theorem dX7_copy_18 : decode cX7_copy 18 = .ok (.getfield 31, 3) := by decide +kernel
theorem dX7_copy_21 : decode cX7_copy 21 = .ok (.putfield 31, 3) := by decide +kernel
theorem dX7_copy_24 : decode cX7_copy 24 = .ok (.aload_n 0, 1) := by decide +kernel
theorem dX7_copy_25 : decode cX7_copy 25 = .ok (.aload_n 1, 1) := by decide +kernel
theorem dX7_copy_26 : decode cX7_copy 26 = .ok (.getfield 34, 3) := by decide +kernel
theorem dX7_copy_29 : decode cX7_copy 29 = .ok (.putfield 34, 3) := by decide +kernel
theorem dX7_copy_32 : decode cX7_copy 32 = .ok (.iconst 0, 1) := by decide +kernel
theorem dX7_copy_33 : decode cX7_copy 33 = .ok (.istore_n 2, 1) := by decide +kernel
theorem dX7_copy_34 : decode cX7_copy 34 = .ok (.iload_n 2, 1) := by decide +kernel
theorem dX7_copy_35 : decode cX7_copy 35 = .ok (.iconst 4, 1) := by decide +kernel
theorem dX7_copy_36 : decode cX7_copy 36 = .ok (.if_icmp .ge 32, 3) := by decide +kernel
theorem dX7_copy_39 : decode cX7_copy 39 = .ok (.aload_n 0, 1) := by decide +kernel
theorem dX7_copy_40 : decode cX7_copy 40 = .ok (.iload_n 2, 1) := by decide +kernel
theorem dX7_copy_41 : decode cX7_copy 41 = .ok (.aload_n 1, 1) := by decide +kernel
theorem dX7_copy_42 : decode cX7_copy 42 = .ok (.getfield 9, 3) := by decide +kernel
theorem dX7_copy_45 : decode cX7_copy 45 = .ok (.iload_n 2, 1) := by decide +kernel
theorem dX7_copy_46 : decode cX7_copy 46 = .ok (.iaload, 1) := by decide +kernel
theorem dX7_copy_47 : decode cX7_copy 47 = .ok (.aload_n 1, 1) := by decide +kernel
theorem dX7_copy_48 : decode cX7_copy 48 = .ok (.getfield 15, 3) := by decide +kernel
theorem dX7_copy_51 : decode cX7_copy 51 = .ok (.iload_n 2, 1) := by decide +kernel
theorem dX7_copy_52 : decode cX7_copy 52 = .ok (.iaload, 1) := by decide +kernel
theorem dX7_copy_53 : decode cX7_copy 53 = .ok (.aload_n 1, 1) := by decide +kernel
theorem dX7_copy_54 : decode cX7_copy 54 = .ok (.getfield 18, 3) := by decide +kernel
theorem dX7_copy_57 : decode cX7_copy 57 = .ok (.iload_n 2, 1) := by decide +kernel
theorem dX7_copy_58 : decode cX7_copy 58 = .ok (.iaload, 1) := by decide +kernel
theorem dX7_copy_59 : decode cX7_copy 59 = .ok (.invokevirtual 37, 3) := by decide +kernel
theorem dX7_copy_62 : decode cX7_copy 62 = .ok (.iinc 2 1, 3) := by decide +kernel
theorem dX7_copy_65 : decode cX7_copy 65 = .ok (.goto (-31), 3) := by decide +kernel
theorem dX7_copy_68 : decode cX7_copy 68 = .ok (.return_, 1) := by decide +kernel
theorem dX7_setWay_0 : decode cX7_setWay 0 = .ok (.aload_n 0, 1) := by decide +kernel
theorem dX7_setWay_1 : decode cX7_setWay 1 = .ok (.getfield 9, 3) := by decide +kernel
theorem dX7_setWay_4 : decode cX7_setWay 4 = .ok (.iload_n 1, 1) := by decide +kernel
theorem dX7_setWay_5 : decode cX7_setWay 5 = .ok (.iload_n 2, 1) := by decide +kernel
theorem dX7_setWay_6 : decode cX7_setWay 6 = .ok (.iastore, 1) := by decide +kernel
theorem dX7_setWay_7 : decode cX7_setWay 7 = .ok (.aload_n 0, 1) := by decide +kernel
theorem dX7_setWay_8 : decode cX7_setWay 8 = .ok (.getfield 15, 3) := by decide +kernel
theorem dX7_setWay_11 : decode cX7_setWay 11 = .ok (.iload_n 1, 1) := by decide +kernel
theorem dX7_setWay_12 : decode cX7_setWay 12 = .ok (.iload_n 3, 1) := by decide +kernel
theorem dX7_setWay_13 : decode cX7_setWay 13 = .ok (.iastore, 1) := by decide +kernel
theorem dX7_setWay_14 : decode cX7_setWay 14 = .ok (.aload_n 0, 1) := by decide +kernel
theorem dX7_setWay_15 : decode cX7_setWay 15 = .ok (.getfield 18, 3) := by decide +kernel
theorem dX7_setWay_18 : decode cX7_setWay 18 = .ok (.iload_n 1, 1) := by decide +kernel
theorem dX7_setWay_19 : decode cX7_setWay 19 = .ok (.iload 4, 2) := by decide +kernel
theorem dX7_setWay_21 : decode cX7_setWay 21 = .ok (.iastore, 1) := by decide +kernel
theorem dX7_setWay_22 : decode cX7_setWay 22 = .ok (.return_, 1) := by decide +kernel
theorem dX7_takes_0 : decode cX7_takes 0 = .ok (.aload_n 0, 1) := by decide +kernel
theorem dX7_takes_1 : decode cX7_takes 1 = .ok (.getfield 9, 3) := by decide +kernel
theorem dX7_takes_4 : decode cX7_takes 4 = .ok (.iload_n 1, 1) := by decide +kernel
theorem dX7_takes_5 : decode cX7_takes 5 = .ok (.iaload, 1) := by decide +kernel
theorem dX7_takes_6 : decode cX7_takes 6 = .ok (.lookupswitch 67 #[(1, 26), (2, 42)], 26) := by decide +kernel
theorem dX7_takes_32 : decode cX7_takes 32 = .ok (.iload_n 2, 1) := by decide +kernel
theorem dX7_takes_33 : decode cX7_takes 33 = .ok (.aload_n 0, 1) := by decide +kernel
theorem dX7_takes_34 : decode cX7_takes 34 = .ok (.getfield 15, 3) := by decide +kernel
theorem dX7_takes_37 : decode cX7_takes 37 = .ok (.iload_n 1, 1) := by decide +kernel
theorem dX7_takes_38 : decode cX7_takes 38 = .ok (.iaload, 1) := by decide +kernel
theorem dX7_takes_39 : decode cX7_takes 39 = .ok (.if_icmp .lt 7, 3) := by decide +kernel
theorem dX7_takes_42 : decode cX7_takes 42 = .ok (.iconst 1, 1) := by decide +kernel
theorem dX7_takes_43 : decode cX7_takes 43 = .ok (.goto 4, 3) := by decide +kernel
theorem dX7_takes_46 : decode cX7_takes 46 = .ok (.iconst 0, 1) := by decide +kernel
theorem dX7_takes_47 : decode cX7_takes 47 = .ok (.ireturn, 1) := by decide +kernel
theorem dX7_takes_48 : decode cX7_takes 48 = .ok (.iload_n 2, 1) := by decide +kernel
theorem dX7_takes_49 : decode cX7_takes 49 = .ok (.aload_n 0, 1) := by decide +kernel
theorem dX7_takes_50 : decode cX7_takes 50 = .ok (.getfield 15, 3) := by decide +kernel
theorem dX7_takes_53 : decode cX7_takes 53 = .ok (.iload_n 1, 1) := by decide +kernel
theorem dX7_takes_54 : decode cX7_takes 54 = .ok (.iaload, 1) := by decide +kernel
theorem dX7_takes_55 : decode cX7_takes 55 = .ok (.aload_n 0, 1) := by decide +kernel
theorem dX7_takes_56 : decode cX7_takes 56 = .ok (.getfield 18, 3) := by decide +kernel
theorem dX7_takes_59 : decode cX7_takes 59 = .ok (.iload_n 1, 1) := by decide +kernel
theorem dX7_takes_60 : decode cX7_takes 60 = .ok (.iaload, 1) := by decide +kernel
theorem dX7_takes_61 : decode cX7_takes 61 = .ok (.iload_n 3, 1) := by decide +kernel
theorem dX7_takes_62 : decode cX7_takes 62 = .ok (.imul, 1) := by decide +kernel
theorem dX7_takes_63 : decode cX7_takes 63 = .ok (.isub, 1) := by decide +kernel
theorem dX7_takes_64 : decode cX7_takes 64 = .ok (.if_icmp .lt 7, 3) := by decide +kernel
theorem dX7_takes_67 : decode cX7_takes 67 = .ok (.iconst 1, 1) := by decide +kernel
theorem dX7_takes_68 : decode cX7_takes 68 = .ok (.goto 4, 3) := by decide +kernel
theorem dX7_takes_71 : decode cX7_takes 71 = .ok (.iconst 0, 1) := by decide +kernel
theorem dX7_takes_72 : decode cX7_takes 72 = .ok (.ireturn, 1) := by decide +kernel
theorem dX7_takes_73 : decode cX7_takes 73 = .ok (.iconst 1, 1) := by decide +kernel
theorem dX7_takes_74 : decode cX7_takes 74 = .ok (.ireturn, 1) := by decide +kernel
theorem dX8_init_0 : decode cX8_init 0 = .ok (.aload_n 0, 1) := by decide +kernel
theorem dX8_init_1 : decode cX8_init 1 = .ok (.invokespecial 3, 3) := by decide +kernel
theorem dX8_init_4 : decode cX8_init 4 = .ok (.aload_n 0, 1) := by decide +kernel
theorem dX8_init_5 : decode cX8_init 5 = .ok (.bipush 8, 2) := by decide +kernel
theorem dX8_init_7 : decode cX8_init 7 = .ok (.newarray .int, 2) := by decide +kernel
theorem dX8_init_9 : decode cX8_init 9 = .ok (.putfield 9, 3) := by decide +kernel
theorem dX8_init_12 : decode cX8_init 12 = .ok (.aload_n 0, 1) := by decide +kernel
theorem dX8_init_13 : decode cX8_init 13 = .ok (.iconst 0, 1) := by decide +kernel
theorem dX8_init_14 : decode cX8_init 14 = .ok (.putfield 15, 3) := by decide +kernel
theorem dX8_init_17 : decode cX8_init 17 = .ok (.aload_n 0, 1) := by decide +kernel
theorem dX8_init_18 : decode cX8_init 18 = .ok (.aload_n 1, 1) := by decide +kernel
theorem dX8_init_19 : decode cX8_init 19 = .ok (.putfield 19, 3) := by decide +kernel
theorem dX8_init_22 : decode cX8_init 22 = .ok (.return_, 1) := by decide +kernel
theorem dX8_settle_0 : decode cX8_settle 0 = .ok (.aload_n 0, 1) := by decide +kernel
theorem dX8_settle_1 : decode cX8_settle 1 = .ok (.iconst 0, 1) := by decide +kernel
theorem dX8_settle_2 : decode cX8_settle 2 = .ok (.putfield 15, 3) := by decide +kernel
theorem dX8_settle_5 : decode cX8_settle 5 = .ok (.iconst 1, 1) := by decide +kernel
theorem dX8_settle_6 : decode cX8_settle 6 = .ok (.aload_n 0, 1) := by decide +kernel
theorem dX8_settle_7 : decode cX8_settle 7 = .ok (.getfield 19, 3) := by decide +kernel
theorem dX8_settle_10 : decode cX8_settle 10 = .ok (.getfield 23, 3) := by decide +kernel
theorem dX8_settle_13 : decode cX8_settle 13 = .ok (.ishl, 1) := by decide +kernel
theorem dX8_settle_14 : decode cX8_settle 14 = .ok (.iconst 1, 1) := by decide +kernel
theorem dX8_settle_15 : decode cX8_settle 15 = .ok (.isub, 1) := by decide +kernel
theorem dX8_settle_16 : decode cX8_settle 16 = .ok (.istore_n 1, 1) := by decide +kernel
theorem dX8_settle_17 : decode cX8_settle 17 = .ok (.iconst 0, 1) := by decide +kernel
theorem dX8_settle_18 : decode cX8_settle 18 = .ok (.istore_n 2, 1) := by decide +kernel
theorem dX8_settle_19 : decode cX8_settle 19 = .ok (.iload_n 2, 1) := by decide +kernel
theorem dX8_settle_20 : decode cX8_settle 20 = .ok (.bipush 8, 2) := by decide +kernel
theorem dX8_settle_22 : decode cX8_settle 22 = .ok (.if_icmp .ge 19, 3) := by decide +kernel
theorem dX8_settle_25 : decode cX8_settle 25 = .ok (.iload_n 1, 1) := by decide +kernel
theorem dX8_settle_26 : decode cX8_settle 26 = .ok (.ifCond .eq 15, 3) := by decide +kernel
theorem dX8_settle_29 : decode cX8_settle 29 = .ok (.aload_n 0, 1) := by decide +kernel
theorem dX8_settle_30 : decode cX8_settle 30 = .ok (.iload_n 1, 1) := by decide +kernel
theorem dX8_settle_31 : decode cX8_settle 31 = .ok (.invokevirtual 28, 3) := by decide +kernel
theorem dX8_settle_34 : decode cX8_settle 34 = .ok (.istore_n 1, 1) := by decide +kernel
theorem dX8_settle_35 : decode cX8_settle 35 = .ok (.iinc 2 1, 3) := by decide +kernel
theorem dX8_settle_38 : decode cX8_settle 38 = .ok (.goto (-19), 3) := by decide +kernel
theorem dX8_settle_41 : decode cX8_settle 41 = .ok (.return_, 1) := by decide +kernel
theorem dX8_closeRing_0 : decode cX8_closeRing 0 = .ok (.iload_n 1, 1) := by decide +kernel
theorem dX8_closeRing_1 : decode cX8_closeRing 1 = .ok (.invokestatic 32, 3) := by decide +kernel
theorem dX8_closeRing_4 : decode cX8_closeRing 4 = .ok (.istore_n 2, 1) := by decide +kernel
theorem dX8_closeRing_5 : decode cX8_closeRing 5 = .ok (.iconst 0, 1) := by decide +kernel
theorem dX8_closeRing_6 : decode cX8_closeRing 6 = .ok (.istore_n 3, 1) := by decide +kernel
theorem dX8_closeRing_7 : decode cX8_closeRing 7 = .ok (.iload_n 3, 1) := by decide +kernel
theorem dX8_closeRing_8 : decode cX8_closeRing 8 = .ok (.bipush 8, 2) := by decide +kernel
theorem dX8_closeRing_10 : decode cX8_closeRing 10 = .ok (.if_icmp .ge 16, 3) := by decide +kernel
theorem dX8_closeRing_13 : decode cX8_closeRing 13 = .ok (.aload_n 0, 1) := by decide +kernel
theorem dX8_closeRing_14 : decode cX8_closeRing 14 = .ok (.iload_n 2, 1) := by decide +kernel
theorem dX8_closeRing_15 : decode cX8_closeRing 15 = .ok (.iload_n 1, 1) := by decide +kernel
theorem dX8_closeRing_16 : decode cX8_closeRing 16 = .ok (.invokevirtual 37, 3) := by decide +kernel
theorem dX8_closeRing_19 : decode cX8_closeRing 19 = .ok (.istore_n 2, 1) := by decide +kernel
theorem dX8_closeRing_20 : decode cX8_closeRing 20 = .ok (.iinc 3 1, 3) := by decide +kernel
theorem dX8_closeRing_23 : decode cX8_closeRing 23 = .ok (.goto (-16), 3) := by decide +kernel
theorem dX8_closeRing_26 : decode cX8_closeRing 26 = .ok (.iload_n 1, 1) := by decide +kernel
theorem dX8_closeRing_27 : decode cX8_closeRing 27 = .ok (.istore_n 3, 1) := by decide +kernel
theorem dX8_closeRing_28 : decode cX8_closeRing 28 = .ok (.iconst 0, 1) := by decide +kernel
theorem dX8_closeRing_29 : decode cX8_closeRing 29 = .ok (.istore 4, 2) := by decide +kernel
theorem dX8_closeRing_31 : decode cX8_closeRing 31 = .ok (.iload 4, 2) := by decide +kernel
theorem dX8_closeRing_33 : decode cX8_closeRing 33 = .ok (.bipush 8, 2) := by decide +kernel
theorem dX8_closeRing_35 : decode cX8_closeRing 35 = .ok (.if_icmp .ge 44, 3) := by decide +kernel
theorem dX8_closeRing_38 : decode cX8_closeRing 38 = .ok (.iload_n 3, 1) := by decide +kernel
theorem dX8_closeRing_39 : decode cX8_closeRing 39 = .ok (.iload_n 2, 1) := by decide +kernel
theorem dX8_closeRing_40 : decode cX8_closeRing 40 = .ok (.ishr, 1) := by decide +kernel
theorem dX8_closeRing_41 : decode cX8_closeRing 41 = .ok (.iconst 1, 1) := by decide +kernel
theorem dX8_closeRing_42 : decode cX8_closeRing 42 = .ok (.iand, 1) := by decide +kernel
theorem dX8_closeRing_43 : decode cX8_closeRing 43 = .ok (.ifCond .eq 36, 3) := by decide +kernel
theorem dX8_closeRing_46 : decode cX8_closeRing 46 = .ok (.iload_n 3, 1) := by decide +kernel
theorem dX8_closeRing_47 : decode cX8_closeRing 47 = .ok (.iconst 1, 1) := by decide +kernel
theorem dX8_closeRing_48 : decode cX8_closeRing 48 = .ok (.iload_n 2, 1) := by decide +kernel
theorem dX8_closeRing_49 : decode cX8_closeRing 49 = .ok (.ishl, 1) := by decide +kernel
theorem dX8_closeRing_50 : decode cX8_closeRing 50 = .ok (.iconst (-1), 1) := by decide +kernel
theorem dX8_closeRing_51 : decode cX8_closeRing 51 = .ok (.ixor, 1) := by decide +kernel
theorem dX8_closeRing_52 : decode cX8_closeRing 52 = .ok (.iand, 1) := by decide +kernel
theorem dX8_closeRing_53 : decode cX8_closeRing 53 = .ok (.istore_n 3, 1) := by decide +kernel
theorem dX8_closeRing_54 : decode cX8_closeRing 54 = .ok (.aload_n 0, 1) := by decide +kernel
theorem dX8_closeRing_55 : decode cX8_closeRing 55 = .ok (.getfield 9, 3) := by decide +kernel
theorem dX8_closeRing_58 : decode cX8_closeRing 58 = .ok (.iload_n 2, 1) := by decide +kernel
theorem dX8_closeRing_59 : decode cX8_closeRing 59 = .ok (.aload_n 0, 1) := by decide +kernel
theorem dX8_closeRing_60 : decode cX8_closeRing 60 = .ok (.iload_n 2, 1) := by decide +kernel
theorem dX8_closeRing_61 : decode cX8_closeRing 61 = .ok (.iload_n 1, 1) := by decide +kernel
theorem dX8_closeRing_62 : decode cX8_closeRing 62 = .ok (.invokevirtual 37, 3) := by decide +kernel
theorem dX8_closeRing_65 : decode cX8_closeRing 65 = .ok (.iastore, 1) := by decide +kernel
theorem dX8_closeRing_66 : decode cX8_closeRing 66 = .ok (.aload_n 0, 1) := by decide +kernel
theorem dX8_closeRing_67 : decode cX8_closeRing 67 = .ok (.getfield 9, 3) := by decide +kernel
theorem dX8_closeRing_70 : decode cX8_closeRing 70 = .ok (.iload_n 2, 1) := by decide +kernel
theorem dX8_closeRing_71 : decode cX8_closeRing 71 = .ok (.iaload, 1) := by decide +kernel
theorem dX8_closeRing_72 : decode cX8_closeRing 72 = .ok (.istore_n 2, 1) := by decide +kernel
theorem dX8_closeRing_73 : decode cX8_closeRing 73 = .ok (.iinc 4 1, 3) := by decide +kernel
theorem dX8_closeRing_76 : decode cX8_closeRing 76 = .ok (.goto (-45), 3) := by decide +kernel
theorem dX8_closeRing_79 : decode cX8_closeRing 79 = .ok (.iload 4, 2) := by decide +kernel
theorem dX8_closeRing_81 : decode cX8_closeRing 81 = .ok (.iconst 1, 1) := by decide +kernel
theorem dX8_closeRing_82 : decode cX8_closeRing 82 = .ok (.if_icmp .le 13, 3) := by decide +kernel
theorem dX8_closeRing_85 : decode cX8_closeRing 85 = .ok (.aload_n 0, 1) := by decide +kernel
theorem dX8_closeRing_86 : decode cX8_closeRing 86 = .ok (.dup, 1) := by decide +kernel
theorem dX8_closeRing_87 : decode cX8_closeRing 87 = .ok (.getfield 15, 3) := by decide +kernel
theorem dX8_closeRing_90 : decode cX8_closeRing 90 = .ok (.iconst 1, 1) := by decide +kernel
theorem dX8_closeRing_91 : decode cX8_closeRing 91 = .ok (.iadd, 1) := by decide +kernel
theorem dX8_closeRing_92 : decode cX8_closeRing 92 = .ok (.putfield 15, 3) := by decide +kernel
theorem dX8_closeRing_95 : decode cX8_closeRing 95 = .ok (.iload_n 3, 1) := by decide +kernel
theorem dX8_closeRing_96 : decode cX8_closeRing 96 = .ok (.ireturn, 1) := by decide +kernel
theorem dX8_pointedTo_0 : decode cX8_pointedTo 0 = .ok (.iload_n 1, 1) := by decide +kernel
theorem dX8_pointedTo_1 : decode cX8_pointedTo 1 = .ok (.istore_n 3, 1) := by decide +kernel
theorem dX8_pointedTo_2 : decode cX8_pointedTo 2 = .ok (.iconst 0, 1) := by decide +kernel
theorem dX8_pointedTo_3 : decode cX8_pointedTo 3 = .ok (.istore 4, 2) := by decide +kernel
theorem dX8_pointedTo_5 : decode cX8_pointedTo 5 = .ok (.iload 4, 2) := by decide +kernel
theorem dX8_pointedTo_7 : decode cX8_pointedTo 7 = .ok (.aload_n 0, 1) := by decide +kernel
theorem dX8_pointedTo_8 : decode cX8_pointedTo 8 = .ok (.getfield 19, 3) := by decide +kernel
theorem dX8_pointedTo_11 : decode cX8_pointedTo 11 = .ok (.getfield 23, 3) := by decide +kernel
theorem dX8_pointedTo_14 : decode cX8_pointedTo 14 = .ok (.if_icmp .ge 54, 3) := by decide +kernel
theorem dX8_pointedTo_17 : decode cX8_pointedTo 17 = .ok (.iload_n 2, 1) := by decide +kernel
theorem dX8_pointedTo_18 : decode cX8_pointedTo 18 = .ok (.iload 4, 2) := by decide +kernel
theorem dX8_pointedTo_20 : decode cX8_pointedTo 20 = .ok (.ishr, 1) := by decide +kernel
theorem dX8_pointedTo_21 : decode cX8_pointedTo 21 = .ok (.iconst 1, 1) := by decide +kernel
theorem dX8_pointedTo_22 : decode cX8_pointedTo 22 = .ok (.iand, 1) := by decide +kernel
theorem dX8_pointedTo_23 : decode cX8_pointedTo 23 = .ok (.ifCond .ne 6, 3) := by decide +kernel
theorem dX8_pointedTo_26 : decode cX8_pointedTo 26 = .ok (.goto 36, 3) := by decide +kernel
theorem dX8_pointedTo_29 : decode cX8_pointedTo 29 = .ok (.aload_n 0, 1) := by decide +kernel
theorem dX8_pointedTo_30 : decode cX8_pointedTo 30 = .ok (.getfield 19, 3) := by decide +kernel
theorem dX8_pointedTo_33 : decode cX8_pointedTo 33 = .ok (.iload_n 1, 1) := by decide +kernel
theorem dX8_pointedTo_34 : decode cX8_pointedTo 34 = .ok (.aload_n 0, 1) := by decide +kernel
theorem dX8_pointedTo_35 : decode cX8_pointedTo 35 = .ok (.getfield 19, 3) := by decide +kernel
theorem dX8_pointedTo_38 : decode cX8_pointedTo 38 = .ok (.getfield 41, 3) := by decide +kernel
theorem dX8_pointedTo_41 : decode cX8_pointedTo 41 = .ok (.iload 4, 2) := by decide +kernel
theorem dX8_pointedTo_43 : decode cX8_pointedTo 43 = .ok (.iaload, 1) := by decide +kernel
theorem dX8_pointedTo_44 : decode cX8_pointedTo 44 = .ok (.aload_n 0, 1) := by decide +kernel
theorem dX8_pointedTo_45 : decode cX8_pointedTo 45 = .ok (.getfield 19, 3) := by decide +kernel
theorem dX8_pointedTo_48 : decode cX8_pointedTo 48 = .ok (.getfield 41, 3) := by decide +kernel
theorem dX8_pointedTo_51 : decode cX8_pointedTo 51 = .ok (.iload_n 3, 1) := by decide +kernel
theorem dX8_pointedTo_52 : decode cX8_pointedTo 52 = .ok (.iaload, 1) := by decide +kernel
theorem dX8_pointedTo_53 : decode cX8_pointedTo 53 = .ok (.invokevirtual 44, 3) := by decide +kernel
theorem dX8_pointedTo_56 : decode cX8_pointedTo 56 = .ok (.ifCond .eq 6, 3) := by decide +kernel
theorem dX8_pointedTo_59 : decode cX8_pointedTo 59 = .ok (.iload 4, 2) := by decide +kernel
theorem dX8_pointedTo_61 : decode cX8_pointedTo 61 = .ok (.istore_n 3, 1) := by decide +kernel
theorem dX8_pointedTo_62 : decode cX8_pointedTo 62 = .ok (.iinc 4 1, 3) := by decide +kernel
theorem dX8_pointedTo_65 : decode cX8_pointedTo 65 = .ok (.goto (-60), 3) := by decide +kernel
theorem dX8_pointedTo_68 : decode cX8_pointedTo 68 = .ok (.iload_n 3, 1) := by decide +kernel
theorem dX8_pointedTo_69 : decode cX8_pointedTo 69 = .ok (.ireturn, 1) := by decide +kernel
theorem dX9_init_0 : decode cX9_init 0 = .ok (.aload_n 0, 1) := by decide +kernel
theorem dX9_init_1 : decode cX9_init 1 = .ok (.invokespecial 3, 3) := by decide +kernel
theorem dX9_init_4 : decode cX9_init 4 = .ok (.aload_n 0, 1) := by decide +kernel
theorem dX9_init_5 : decode cX9_init 5 = .ok (.sipush 160, 3) := by decide +kernel
theorem dX9_init_8 : decode cX9_init 8 = .ok (.newarray .char, 2) := by decide +kernel
theorem dX9_init_10 : decode cX9_init 10 = .ok (.putfield 9, 3) := by decide +kernel
theorem dX9_init_13 : decode cX9_init 13 = .ok (.aload_n 0, 1) := by decide +kernel
theorem dX9_init_14 : decode cX9_init 14 = .ok (.iconst 0, 1) := by decide +kernel
theorem dX9_init_15 : decode cX9_init 15 = .ok (.putfield 15, 3) := by decide +kernel
theorem dX9_init_18 : decode cX9_init 18 = .ok (.aload_n 0, 1) := by decide +kernel
theorem dX9_init_19 : decode cX9_init 19 = .ok (.iconst 0, 1) := by decide +kernel
theorem dX9_init_20 : decode cX9_init 20 = .ok (.putfield 19, 3) := by decide +kernel
theorem dX9_init_23 : decode cX9_init 23 = .ok (.return_, 1) := by decide +kernel
theorem dX9_add_0 : decode cX9_add 0 = .ok (.aload_n 0, 1) := by decide +kernel
theorem dX9_add_1 : decode cX9_add 1 = .ok (.getfield 15, 3) := by decide +kernel
theorem dX9_add_4 : decode cX9_add 4 = .ok (.sipush 160, 3) := by decide +kernel
theorem dX9_add_7 : decode cX9_add 7 = .ok (.if_icmp .ge 23, 3) := by decide +kernel
theorem dX9_add_10 : decode cX9_add 10 = .ok (.aload_n 0, 1) := by decide +kernel
theorem dX9_add_11 : decode cX9_add 11 = .ok (.getfield 9, 3) := by decide +kernel
theorem dX9_add_14 : decode cX9_add 14 = .ok (.aload_n 0, 1) := by decide +kernel
theorem dX9_add_15 : decode cX9_add 15 = .ok (.getfield 15, 3) := by decide +kernel
theorem dX9_add_18 : decode cX9_add 18 = .ok (.iload_n 1, 1) := by decide +kernel
theorem dX9_add_19 : decode cX9_add 19 = .ok (.castore, 1) := by decide +kernel
theorem dX9_add_20 : decode cX9_add 20 = .ok (.aload_n 0, 1) := by decide +kernel
theorem dX9_add_21 : decode cX9_add 21 = .ok (.dup, 1) := by decide +kernel
theorem dX9_add_22 : decode cX9_add 22 = .ok (.getfield 15, 3) := by decide +kernel
theorem dX9_add_25 : decode cX9_add 25 = .ok (.iconst 1, 1) := by decide +kernel
theorem dX9_add_26 : decode cX9_add 26 = .ok (.iadd, 1) := by decide +kernel
theorem dX9_add_27 : decode cX9_add 27 = .ok (.putfield 15, 3) := by decide +kernel
theorem dX9_add_30 : decode cX9_add 30 = .ok (.return_, 1) := by decide +kernel
theorem dX9_readInto_0 : decode cX9_readInto 0 = .ok (.aload_n 1, 1) := by decide +kernel
theorem dX9_readInto_1 : decode cX9_readInto 1 = .ok (.invokevirtual 22, 3) := by decide +kernel
theorem dX9_readInto_4 : decode cX9_readInto 4 = .ok (.aload_n 0, 1) := by decide +kernel
theorem dX9_readInto_5 : decode cX9_readInto 5 = .ok (.iconst 0, 1) := by decide +kernel
theorem dX9_readInto_6 : decode cX9_readInto 6 = .ok (.putfield 27, 3) := by decide +kernel
theorem dX9_readInto_9 : decode cX9_readInto 9 = .ok (.aload_n 0, 1) := by decide +kernel
theorem dX9_readInto_10 : decode cX9_readInto 10 = .ok (.invokevirtual 30, 3) := by decide +kernel
theorem dX9_readInto_13 : decode cX9_readInto 13 = .ok (.iconst 1, 1) := by decide +kernel
theorem dX9_readInto_14 : decode cX9_readInto 14 = .ok (.istore_n 2, 1) := by decide +kernel
theorem dX9_readInto_15 : decode cX9_readInto 15 = .ok (.iload_n 2, 1) := by decide +kernel
theorem dX9_readInto_16 : decode cX9_readInto 16 = .ok (.bipush 12, 2) := by decide +kernel
theorem dX9_readInto_18 : decode cX9_readInto 18 = .ok (.if_icmp .gt 60, 3) := by decide +kernel
theorem dX9_readInto_21 : decode cX9_readInto 21 = .ok (.aload_n 0, 1) := by decide +kernel
theorem dX9_readInto_22 : decode cX9_readInto 22 = .ok (.aload_n 1, 1) := by decide +kernel
theorem dX9_readInto_23 : decode cX9_readInto 23 = .ok (.invokevirtual 33, 3) := by decide +kernel
theorem dX9_readInto_26 : decode cX9_readInto 26 = .ok (.ifCond .ne 8, 3) := by decide +kernel
theorem dX9_readInto_29 : decode cX9_readInto 29 = .ok (.aload_n 0, 1) := by decide +kernel
theorem dX9_readInto_30 : decode cX9_readInto 30 = .ok (.getfield 37, 3) := by decide +kernel
theorem dX9_readInto_33 : decode cX9_readInto 33 = .ok (.ireturn, 1) := by decide +kernel
theorem dX9_readInto_34 : decode cX9_readInto 34 = .ok (.aload_n 0, 1) := by decide +kernel
theorem dX9_readInto_35 : decode cX9_readInto 35 = .ok (.iload_n 2, 1) := by decide +kernel
theorem dX9_readInto_36 : decode cX9_readInto 36 = .ok (.putfield 19, 3) := by decide +kernel
theorem dX9_readInto_39 : decode cX9_readInto 39 = .ok (.aload_n 0, 1) := by decide +kernel
theorem dX9_readInto_40 : decode cX9_readInto 40 = .ok (.getfield 37, 3) := by decide +kernel
theorem dX9_readInto_43 : decode cX9_readInto 43 = .ok (.aload_n 0, 1) := by decide +kernel
theorem dX9_readInto_44 : decode cX9_readInto 44 = .ok (.getfield 15, 3) := by decide +kernel
theorem dX9_readInto_47 : decode cX9_readInto 47 = .ok (.if_icmp .ne 5, 3) := by decide +kernel
theorem dX9_readInto_50 : decode cX9_readInto 50 = .ok (.iconst (-1), 1) := by decide +kernel
theorem dX9_readInto_51 : decode cX9_readInto 51 = .ok (.ireturn, 1) := by decide +kernel
theorem dX9_readInto_52 : decode cX9_readInto 52 = .ok (.iload_n 2, 1) := by decide +kernel
theorem dX9_readInto_53 : decode cX9_readInto 53 = .ok (.bipush 12, 2) := by decide +kernel
theorem dX9_readInto_55 : decode cX9_readInto 55 = .ok (.if_icmp .eq 12, 3) := by decide +kernel
theorem dX9_readInto_58 : decode cX9_readInto 58 = .ok (.aload_n 0, 1) := by decide +kernel
theorem dX9_readInto_59 : decode cX9_readInto 59 = .ok (.ldc 40, 2) := by decide +kernel
theorem dX9_readInto_61 : decode cX9_readInto 61 = .ok (.invokevirtual 42, 3) := by decide +kernel
theorem dX9_readInto_64 : decode cX9_readInto 64 = .ok (.ifCond .ne 8, 3) := by decide +kernel
theorem dX9_readInto_67 : decode cX9_readInto 67 = .ok (.aload_n 0, 1) := by decide +kernel
theorem dX9_readInto_68 : decode cX9_readInto 68 = .ok (.getfield 37, 3) := by decide +kernel
theorem dX9_readInto_71 : decode cX9_readInto 71 = .ok (.ireturn, 1) := by decide +kernel
theorem dX9_readInto_72 : decode cX9_readInto 72 = .ok (.iinc 2 1, 3) := by decide +kernel
theorem dX9_readInto_75 : decode cX9_readInto 75 = .ok (.goto (-60), 3) := by decide +kernel
theorem dX9_readInto_78 : decode cX9_readInto 78 = .ok (.aload_n 0, 1) := by decide +kernel
theorem dX9_readInto_79 : decode cX9_readInto 79 = .ok (.getfield 37, 3) := by decide +kernel
theorem dX9_readInto_82 : decode cX9_readInto 82 = .ok (.ireturn, 1) := by decide +kernel
theorem dX9_readLine_0 : decode cX9_readLine 0 = .ok (.aload_n 0, 1) := by decide +kernel
theorem dX9_readLine_1 : decode cX9_readLine 1 = .ok (.ldc 46, 2) := by decide +kernel
theorem dX9_readLine_3 : decode cX9_readLine 3 = .ok (.invokevirtual 42, 3) := by decide +kernel
theorem dX9_readLine_6 : decode cX9_readLine 6 = .ok (.ifCond .eq 31, 3) := by decide +kernel
theorem dX9_readLine_9 : decode cX9_readLine 9 = .ok (.aload_n 1, 1) := by decide +kernel
theorem dX9_readLine_10 : decode cX9_readLine 10 = .ok (.aload_n 0, 1) := by decide +kernel
theorem dX9_readLine_11 : decode cX9_readLine 11 = .ok (.ldc 48, 2) := by decide +kernel
theorem dX9_readLine_13 : decode cX9_readLine 13 = .ok (.ldc 50, 2) := by decide +kernel
theorem dX9_readLine_15 : decode cX9_readLine 15 = .ok (.ldc 52, 2) := by decide +kernel
theorem dX9_readLine_17 : decode cX9_readLine 17 = .ok (.invokevirtual 54, 3) := by decide +kernel
theorem dX9_readLine_20 : decode cX9_readLine 20 = .ok (.putfield 58, 3) := by decide +kernel
theorem dX9_readLine_23 : decode cX9_readLine 23 = .ok (.aload_n 1, 1) := by decide +kernel
theorem dX9_readLine_24 : decode cX9_readLine 24 = .ok (.getfield 58, 3) := by decide +kernel
theorem dX9_readLine_27 : decode cX9_readLine 27 = .ok (.iconst (-1), 1) := by decide +kernel
theorem dX9_readLine_28 : decode cX9_readLine 28 = .ok (.if_icmp .eq 7, 3) := by decide +kernel
theorem dX9_readLine_31 : decode cX9_readLine 31 = .ok (.iconst 1, 1) := by decide +kernel
theorem dX9_readLine_32 : decode cX9_readLine 32 = .ok (.goto 4, 3) := by decide +kernel
theorem dX9_readLine_35 : decode cX9_readLine 35 = .ok (.iconst 0, 1) := by decide +kernel
theorem dX9_readLine_36 : decode cX9_readLine 36 = .ok (.ireturn, 1) := by decide +kernel
theorem dX9_readLine_37 : decode cX9_readLine 37 = .ok (.aload_n 0, 1) := by decide +kernel
theorem dX9_readLine_38 : decode cX9_readLine 38 = .ok (.ldc 60, 2) := by decide +kernel
theorem dX9_readLine_40 : decode cX9_readLine 40 = .ok (.invokevirtual 42, 3) := by decide +kernel
theorem dX9_readLine_43 : decode cX9_readLine 43 = .ok (.ifCond .eq 27, 3) := by decide +kernel
theorem dX9_readLine_46 : decode cX9_readLine 46 = .ok (.aload_n 1, 1) := by decide +kernel
theorem dX9_readLine_47 : decode cX9_readLine 47 = .ok (.aload_n 0, 1) := by decide +kernel
theorem dX9_readLine_48 : decode cX9_readLine 48 = .ok (.bipush 9, 2) := by decide +kernel
theorem dX9_readLine_50 : decode cX9_readLine 50 = .ok (.invokevirtual 62, 3) := by decide +kernel
theorem dX9_readLine_53 : decode cX9_readLine 53 = .ok (.putfield 66, 3) := by decide +kernel
theorem dX9_readLine_56 : decode cX9_readLine 56 = .ok (.aload_n 1, 1) := by decide +kernel
theorem dX9_readLine_57 : decode cX9_readLine 57 = .ok (.getfield 66, 3) := by decide +kernel
theorem dX9_readLine_60 : decode cX9_readLine 60 = .ok (.iconst (-1), 1) := by decide +kernel
theorem dX9_readLine_61 : decode cX9_readLine 61 = .ok (.if_icmp .eq 7, 3) := by decide +kernel
theorem dX9_readLine_64 : decode cX9_readLine 64 = .ok (.iconst 1, 1) := by decide +kernel
theorem dX9_readLine_65 : decode cX9_readLine 65 = .ok (.goto 4, 3) := by decide +kernel
theorem dX9_readLine_68 : decode cX9_readLine 68 = .ok (.iconst 0, 1) := by decide +kernel
theorem dX9_readLine_69 : decode cX9_readLine 69 = .ok (.ireturn, 1) := by decide +kernel
theorem dX9_readLine_70 : decode cX9_readLine 70 = .ok (.aload_n 0, 1) := by decide +kernel
theorem dX9_readLine_71 : decode cX9_readLine 71 = .ok (.ldc 68, 2) := by decide +kernel
theorem dX9_readLine_73 : decode cX9_readLine 73 = .ok (.invokevirtual 42, 3) := by decide +kernel
theorem dX9_readLine_76 : decode cX9_readLine 76 = .ok (.ifCond .eq 31, 3) := by decide +kernel
theorem dX9_readLine_79 : decode cX9_readLine 79 = .ok (.aload_n 1, 1) := by decide +kernel
theorem dX9_readLine_80 : decode cX9_readLine 80 = .ok (.aload_n 0, 1) := by decide +kernel
theorem dX9_readLine_81 : decode cX9_readLine 81 = .ok (.ldc 70, 2) := by decide +kernel
theorem dX9_readLine_83 : decode cX9_readLine 83 = .ok (.ldc 71, 2) := by decide +kernel
theorem dX9_readLine_85 : decode cX9_readLine 85 = .ok (.ldc 73, 2) := by decide +kernel
theorem dX9_readLine_87 : decode cX9_readLine 87 = .ok (.invokevirtual 54, 3) := by decide +kernel
theorem dX9_readLine_90 : decode cX9_readLine 90 = .ok (.putfield 75, 3) := by decide +kernel
theorem dX9_readLine_93 : decode cX9_readLine 93 = .ok (.aload_n 1, 1) := by decide +kernel
theorem dX9_readLine_94 : decode cX9_readLine 94 = .ok (.getfield 75, 3) := by decide +kernel
theorem dX9_readLine_97 : decode cX9_readLine 97 = .ok (.iconst (-1), 1) := by decide +kernel
theorem dX9_readLine_98 : decode cX9_readLine 98 = .ok (.if_icmp .eq 7, 3) := by decide +kernel
theorem dX9_readLine_101 : decode cX9_readLine 101 = .ok (.iconst 1, 1) := by decide +kernel
theorem dX9_readLine_102 : decode cX9_readLine 102 = .ok (.goto 4, 3) := by decide +kernel
theorem dX9_readLine_105 : decode cX9_readLine 105 = .ok (.iconst 0, 1) := by decide +kernel
theorem dX9_readLine_106 : decode cX9_readLine 106 = .ok (.ireturn, 1) := by decide +kernel
theorem dX9_readLine_107 : decode cX9_readLine 107 = .ok (.aload_n 0, 1) := by decide +kernel
theorem dX9_readLine_108 : decode cX9_readLine 108 = .ok (.ldc 77, 2) := by decide +kernel
theorem dX9_readLine_110 : decode cX9_readLine 110 = .ok (.invokevirtual 42, 3) := by decide +kernel
theorem dX9_readLine_113 : decode cX9_readLine 113 = .ok (.ifCond .eq 27, 3) := by decide +kernel
theorem dX9_readLine_116 : decode cX9_readLine 116 = .ok (.aload_n 1, 1) := by decide +kernel
theorem dX9_readLine_117 : decode cX9_readLine 117 = .ok (.aload_n 0, 1) := by decide +kernel
theorem dX9_readLine_118 : decode cX9_readLine 118 = .ok (.bipush 9, 2) := by decide +kernel
theorem dX9_readLine_120 : decode cX9_readLine 120 = .ok (.invokevirtual 62, 3) := by decide +kernel
theorem dX9_readLine_123 : decode cX9_readLine 123 = .ok (.putfield 79, 3) := by decide +kernel
theorem dX9_readLine_126 : decode cX9_readLine 126 = .ok (.aload_n 1, 1) := by decide +kernel
theorem dX9_readLine_127 : decode cX9_readLine 127 = .ok (.getfield 79, 3) := by decide +kernel
theorem dX9_readLine_130 : decode cX9_readLine 130 = .ok (.iconst (-1), 1) := by decide +kernel
theorem dX9_readLine_131 : decode cX9_readLine 131 = .ok (.if_icmp .eq 7, 3) := by decide +kernel
theorem dX9_readLine_134 : decode cX9_readLine 134 = .ok (.iconst 1, 1) := by decide +kernel
theorem dX9_readLine_135 : decode cX9_readLine 135 = .ok (.goto 4, 3) := by decide +kernel
theorem dX9_readLine_138 : decode cX9_readLine 138 = .ok (.iconst 0, 1) := by decide +kernel
theorem dX9_readLine_139 : decode cX9_readLine 139 = .ok (.ireturn, 1) := by decide +kernel
theorem dX9_readLine_140 : decode cX9_readLine 140 = .ok (.aload_n 0, 1) := by decide +kernel
theorem dX9_readLine_141 : decode cX9_readLine 141 = .ok (.ldc 81, 2) := by decide +kernel
theorem dX9_readLine_143 : decode cX9_readLine 143 = .ok (.invokevirtual 42, 3) := by decide +kernel
theorem dX9_readLine_146 : decode cX9_readLine 146 = .ok (.ifCond .eq 15, 3) := by decide +kernel
theorem dX9_readLine_149 : decode cX9_readLine 149 = .ok (.aload_n 0, 1) := by decide +kernel
theorem dX9_readLine_150 : decode cX9_readLine 150 = .ok (.aload_n 1, 1) := by decide +kernel
theorem dX9_readLine_151 : decode cX9_readLine 151 = .ok (.invokevirtual 83, 3) := by decide +kernel
theorem dX9_readLine_154 : decode cX9_readLine 154 = .ok (.ifCond .eq 7, 3) := by decide +kernel
theorem dX9_readLine_157 : decode cX9_readLine 157 = .ok (.iconst 1, 1) := by decide +kernel
theorem dX9_readLine_158 : decode cX9_readLine 158 = .ok (.goto 4, 3) := by decide +kernel
theorem dX9_readLine_161 : decode cX9_readLine 161 = .ok (.iconst 0, 1) := by decide +kernel
theorem dX9_readLine_162 : decode cX9_readLine 162 = .ok (.ireturn, 1) := by decide +kernel
theorem dX9_readWay_0 : decode cX9_readWay 0 = .ok (.aload_n 0, 1) := by decide +kernel
theorem dX9_readWay_1 : decode cX9_readWay 1 = .ok (.iconst 3, 1) := by decide +kernel
theorem dX9_readWay_2 : decode cX9_readWay 2 = .ok (.invokevirtual 62, 3) := by decide +kernel
theorem dX9_readWay_5 : decode cX9_readWay 5 = .ok (.istore_n 2, 1) := by decide +kernel
theorem dX9_readWay_6 : decode cX9_readWay 6 = .ok (.iload_n 2, 1) := by decide +kernel
theorem dX9_readWay_7 : decode cX9_readWay 7 = .ok (.iconst (-1), 1) := by decide +kernel
theorem dX9_readWay_8 : decode cX9_readWay 8 = .ok (.if_icmp .ne 5, 3) := by decide +kernel
theorem dX9_readWay_11 : decode cX9_readWay 11 = .ok (.iconst 0, 1) := by decide +kernel
theorem dX9_readWay_12 : decode cX9_readWay 12 = .ok (.ireturn, 1) := by decide +kernel
theorem dX9_readWay_13 : decode cX9_readWay 13 = .ok (.aload_n 0, 1) := by decide +kernel
theorem dX9_readWay_14 : decode cX9_readWay 14 = .ok (.ldc 86, 2) := by decide +kernel
theorem dX9_readWay_16 : decode cX9_readWay 16 = .ok (.ldc 88, 2) := by decide +kernel
theorem dX9_readWay_18 : decode cX9_readWay 18 = .ok (.ldc 90, 2) := by decide +kernel
theorem dX9_readWay_20 : decode cX9_readWay 20 = .ok (.invokevirtual 54, 3) := by decide +kernel
theorem dX9_readWay_23 : decode cX9_readWay 23 = .ok (.istore_n 3, 1) := by decide +kernel
theorem dX9_readWay_24 : decode cX9_readWay 24 = .ok (.iload_n 3, 1) := by decide +kernel
theorem dX9_readWay_25 : decode cX9_readWay 25 = .ok (.iconst (-1), 1) := by decide +kernel
theorem dX9_readWay_26 : decode cX9_readWay 26 = .ok (.if_icmp .ne 5, 3) := by decide +kernel
theorem dX9_readWay_29 : decode cX9_readWay 29 = .ok (.iconst 0, 1) := by decide +kernel
theorem dX9_readWay_30 : decode cX9_readWay 30 = .ok (.ireturn, 1) := by decide +kernel
theorem dX9_readWay_31 : decode cX9_readWay 31 = .ok (.iload_n 3, 1) := by decide +kernel
theorem dX9_readWay_32 : decode cX9_readWay 32 = .ok (.ifCond .ne 7, 3) := by decide +kernel
theorem dX9_readWay_35 : decode cX9_readWay 35 = .ok (.iconst 0, 1) := by decide +kernel
theorem dX9_readWay_36 : decode cX9_readWay 36 = .ok (.goto 9, 3) := by decide +kernel
theorem dX9_readWay_39 : decode cX9_readWay 39 = .ok (.aload_n 0, 1) := by decide +kernel
theorem dX9_readWay_40 : decode cX9_readWay 40 = .ok (.bipush 99, 2) := by decide +kernel
theorem dX9_readWay_42 : decode cX9_readWay 42 = .ok (.invokevirtual 62, 3) := by decide +kernel
theorem dX9_readWay_45 : decode cX9_readWay 45 = .ok (.istore 4, 2) := by decide +kernel
theorem dX9_readWay_47 : decode cX9_readWay 47 = .ok (.iload 4, 2) := by decide +kernel
theorem dX9_readWay_49 : decode cX9_readWay 49 = .ok (.iconst (-1), 1) := by decide +kernel
theorem dX9_readWay_50 : decode cX9_readWay 50 = .ok (.if_icmp .ne 5, 3) := by decide +kernel
theorem dX9_readWay_53 : decode cX9_readWay 53 = .ok (.iconst 0, 1) := by decide +kernel
theorem dX9_readWay_54 : decode cX9_readWay 54 = .ok (.ireturn, 1) := by decide +kernel
theorem dX9_readWay_55 : decode cX9_readWay 55 = .ok (.iload_n 3, 1) := by decide +kernel
theorem dX9_readWay_56 : decode cX9_readWay 56 = .ok (.iconst 2, 1) := by decide +kernel
theorem dX9_readWay_57 : decode cX9_readWay 57 = .ok (.if_icmp .ne 12, 3) := by decide +kernel
theorem dX9_readWay_60 : decode cX9_readWay 60 = .ok (.aload_n 0, 1) := by decide +kernel
theorem dX9_readWay_61 : decode cX9_readWay 61 = .ok (.bipush 9, 2) := by decide +kernel
theorem dX9_readWay_63 : decode cX9_readWay 63 = .ok (.invokevirtual 62, 3) := by decide +kernel
theorem dX9_readWay_66 : decode cX9_readWay 66 = .ok (.goto 4, 3) := by decide +kernel
theorem dX9_readWay_69 : decode cX9_readWay 69 = .ok (.iconst 0, 1) := by decide +kernel
theorem dX9_readWay_70 : decode cX9_readWay 70 = .ok (.istore 5, 2) := by decide +kernel
theorem dX9_readWay_72 : decode cX9_readWay 72 = .ok (.iload 5, 2) := by decide +kernel
theorem dX9_readWay_74 : decode cX9_readWay 74 = .ok (.iconst (-1), 1) := by decide +kernel
theorem dX9_readWay_75 : decode cX9_readWay 75 = .ok (.if_icmp .ne 5, 3) := by decide +kernel
theorem dX9_readWay_78 : decode cX9_readWay 78 = .ok (.iconst 0, 1) := by decide +kernel
theorem dX9_readWay_79 : decode cX9_readWay 79 = .ok (.ireturn, 1) := by decide +kernel
theorem dX9_readWay_80 : decode cX9_readWay 80 = .ok (.aload_n 1, 1) := by decide +kernel
theorem dX9_readWay_81 : decode cX9_readWay 81 = .ok (.iload_n 2, 1) := by decide +kernel
theorem dX9_readWay_82 : decode cX9_readWay 82 = .ok (.iload_n 3, 1) := by decide +kernel
theorem dX9_readWay_83 : decode cX9_readWay 83 = .ok (.iload 4, 2) := by decide +kernel
theorem dX9_readWay_85 : decode cX9_readWay 85 = .ok (.iload 5, 2) := by decide +kernel
theorem dX9_readWay_87 : decode cX9_readWay 87 = .ok (.invokevirtual 92, 3) := by decide +kernel
theorem dX9_readWay_90 : decode cX9_readWay 90 = .ok (.iconst 1, 1) := by decide +kernel
theorem dX9_readWay_91 : decode cX9_readWay 91 = .ok (.ireturn, 1) := by decide +kernel
theorem dX9_choose_0 : decode cX9_choose 0 = .ok (.aload_n 0, 1) := by decide +kernel
theorem dX9_choose_1 : decode cX9_choose 1 = .ok (.aload_n 1, 1) := by decide +kernel
theorem dX9_choose_2 : decode cX9_choose 2 = .ok (.invokevirtual 42, 3) := by decide +kernel
theorem dX9_choose_5 : decode cX9_choose 5 = .ok (.ifCond .eq 5, 3) := by decide +kernel
theorem dX9_choose_8 : decode cX9_choose 8 = .ok (.iconst 0, 1) := by decide +kernel
theorem dX9_choose_9 : decode cX9_choose 9 = .ok (.ireturn, 1) := by decide +kernel
theorem dX9_choose_10 : decode cX9_choose 10 = .ok (.aload_n 0, 1) := by decide +kernel
theorem dX9_choose_11 : decode cX9_choose 11 = .ok (.aload_n 2, 1) := by decide +kernel
theorem dX9_choose_12 : decode cX9_choose 12 = .ok (.invokevirtual 42, 3) := by decide +kernel
theorem dX9_choose_15 : decode cX9_choose 15 = .ok (.ifCond .eq 5, 3) := by decide +kernel
theorem dX9_choose_18 : decode cX9_choose 18 = .ok (.iconst 1, 1) := by decide +kernel
theorem dX9_choose_19 : decode cX9_choose 19 = .ok (.ireturn, 1) := by decide +kernel
theorem dX9_choose_20 : decode cX9_choose 20 = .ok (.aload_n 0, 1) := by decide +kernel
theorem dX9_choose_21 : decode cX9_choose 21 = .ok (.aload_n 3, 1) := by decide +kernel
theorem dX9_choose_22 : decode cX9_choose 22 = .ok (.invokevirtual 42, 3) := by decide +kernel
theorem dX9_choose_25 : decode cX9_choose 25 = .ok (.ifCond .eq 7, 3) := by decide +kernel
theorem dX9_choose_28 : decode cX9_choose 28 = .ok (.iconst 2, 1) := by decide +kernel
theorem dX9_choose_29 : decode cX9_choose 29 = .ok (.goto 4, 3) := by decide +kernel
theorem dX9_choose_32 : decode cX9_choose 32 = .ok (.iconst (-1), 1) := by decide +kernel
theorem dX9_choose_33 : decode cX9_choose 33 = .ok (.ireturn, 1) := by decide +kernel
theorem dX9_number_0 : decode cX9_number 0 = .ok (.aload_n 0, 1) := by decide +kernel
theorem dX9_number_1 : decode cX9_number 1 = .ok (.getfield 96, 3) := by decide +kernel
theorem dX9_number_4 : decode cX9_number 4 = .ok (.iconst 2, 1) := by decide +kernel
theorem dX9_number_5 : decode cX9_number 5 = .ok (.if_icmp .ne 16, 3) := by decide +kernel
theorem dX9_number_8 : decode cX9_number 8 = .ok (.aload_n 0, 1) := by decide +kernel
theorem dX9_number_9 : decode cX9_number 9 = .ok (.getfield 27, 3) := by decide +kernel
theorem dX9_number_12 : decode cX9_number 12 = .ok (.aload_n 0, 1) := by decide +kernel
theorem dX9_number_13 : decode cX9_number 13 = .ok (.getfield 37, 3) := by decide +kernel
theorem dX9_number_16 : decode cX9_number 16 = .ok (.isub, 1) := by decide +kernel
theorem dX9_number_17 : decode cX9_number 17 = .ok (.iconst 2, 1) := by decide +kernel
theorem dX9_number_18 : decode cX9_number 18 = .ok (.if_icmp .le 5, 3) := by decide +kernel
theorem dX9_number_21 : decode cX9_number 21 = .ok (.iconst (-1), 1) := by decide +kernel
theorem dX9_number_22 : decode cX9_number 22 = .ok (.ireturn, 1) := by decide +kernel
theorem dX9_number_23 : decode cX9_number 23 = .ok (.iconst 0, 1) := by decide +kernel
theorem dX9_number_24 : decode cX9_number 24 = .ok (.istore_n 2, 1) := by decide +kernel
theorem dX9_number_25 : decode cX9_number 25 = .ok (.aload_n 0, 1) := by decide +kernel
theorem dX9_number_26 : decode cX9_number 26 = .ok (.getfield 37, 3) := by decide +kernel
theorem dX9_number_29 : decode cX9_number 29 = .ok (.istore_n 3, 1) := by decide +kernel
theorem dX9_number_30 : decode cX9_number 30 = .ok (.iload_n 3, 1) := by decide +kernel
theorem dX9_number_31 : decode cX9_number 31 = .ok (.aload_n 0, 1) := by decide +kernel
theorem dX9_number_32 : decode cX9_number 32 = .ok (.getfield 27, 3) := by decide +kernel
theorem dX9_number_35 : decode cX9_number 35 = .ok (.if_icmp .ge 24, 3) := by decide +kernel
theorem dX9_number_38 : decode cX9_number 38 = .ok (.iload_n 2, 1) := by decide +kernel
theorem dX9_number_39 : decode cX9_number 39 = .ok (.bipush 10, 2) := by decide +kernel
theorem dX9_number_41 : decode cX9_number 41 = .ok (.imul, 1) := by decide +kernel
theorem dX9_number_42 : decode cX9_number 42 = .ok (.aload_n 0, 1) := by decide +kernel
theorem dX9_number_43 : decode cX9_number 43 = .ok (.getfield 9, 3) := by decide +kernel
theorem dX9_number_46 : decode cX9_number 46 = .ok (.iload_n 3, 1) := by decide +kernel
theorem dX9_number_47 : decode cX9_number 47 = .ok (.caload, 1) := by decide +kernel
theorem dX9_number_48 : decode cX9_number 48 = .ok (.iadd, 1) := by decide +kernel
theorem dX9_number_49 : decode cX9_number 49 = .ok (.bipush 48, 2) := by decide +kernel
theorem dX9_number_51 : decode cX9_number 51 = .ok (.isub, 1) := by decide +kernel
theorem dX9_number_52 : decode cX9_number 52 = .ok (.istore_n 2, 1) := by decide +kernel
theorem dX9_number_53 : decode cX9_number 53 = .ok (.iinc 3 1, 3) := by decide +kernel
theorem dX9_number_56 : decode cX9_number 56 = .ok (.goto (-26), 3) := by decide +kernel
theorem dX9_number_59 : decode cX9_number 59 = .ok (.iload_n 2, 1) := by decide +kernel
theorem dX9_number_60 : decode cX9_number 60 = .ok (.iload_n 1, 1) := by decide +kernel
theorem dX9_number_61 : decode cX9_number 61 = .ok (.if_icmp .le 5, 3) := by decide +kernel
theorem dX9_number_64 : decode cX9_number 64 = .ok (.iconst (-1), 1) := by decide +kernel
theorem dX9_number_65 : decode cX9_number 65 = .ok (.ireturn, 1) := by decide +kernel
theorem dX9_number_66 : decode cX9_number 66 = .ok (.aload_n 0, 1) := by decide +kernel
theorem dX9_number_67 : decode cX9_number 67 = .ok (.invokevirtual 30, 3) := by decide +kernel
theorem dX9_number_70 : decode cX9_number 70 = .ok (.iload_n 2, 1) := by decide +kernel
theorem dX9_number_71 : decode cX9_number 71 = .ok (.ireturn, 1) := by decide +kernel
theorem dX9_pass_0 : decode cX9_pass 0 = .ok (.aload_n 0, 1) := by decide +kernel
theorem dX9_pass_1 : decode cX9_pass 1 = .ok (.getfield 27, 3) := by decide +kernel
theorem dX9_pass_4 : decode cX9_pass 4 = .ok (.aload_n 0, 1) := by decide +kernel
theorem dX9_pass_5 : decode cX9_pass 5 = .ok (.getfield 37, 3) := by decide +kernel
theorem dX9_pass_8 : decode cX9_pass 8 = .ok (.isub, 1) := by decide +kernel
theorem dX9_pass_9 : decode cX9_pass 9 = .ok (.aload_n 1, 1) := by decide +kernel
theorem dX9_pass_10 : decode cX9_pass 10 = .ok (.invokevirtual 99, 3) := by decide +kernel
theorem dX9_pass_13 : decode cX9_pass 13 = .ok (.if_icmp .eq 5, 3) := by decide +kernel
theorem dX9_pass_16 : decode cX9_pass 16 = .ok (.iconst 0, 1) := by decide +kernel
theorem dX9_pass_17 : decode cX9_pass 17 = .ok (.ireturn, 1) := by decide +kernel
theorem dX9_pass_18 : decode cX9_pass 18 = .ok (.iconst 0, 1) := by decide +kernel
theorem dX9_pass_19 : decode cX9_pass 19 = .ok (.istore_n 2, 1) := by decide +kernel
theorem dX9_pass_20 : decode cX9_pass 20 = .ok (.iload_n 2, 1) := by decide +kernel
theorem dX9_pass_21 : decode cX9_pass 21 = .ok (.aload_n 1, 1) := by decide +kernel
theorem dX9_pass_22 : decode cX9_pass 22 = .ok (.invokevirtual 99, 3) := by decide +kernel
theorem dX9_pass_25 : decode cX9_pass 25 = .ok (.if_icmp .ge 30, 3) := by decide +kernel
theorem dX9_pass_28 : decode cX9_pass 28 = .ok (.aload_n 0, 1) := by decide +kernel
theorem dX9_pass_29 : decode cX9_pass 29 = .ok (.getfield 9, 3) := by decide +kernel
theorem dX9_pass_32 : decode cX9_pass 32 = .ok (.aload_n 0, 1) := by decide +kernel
theorem dX9_pass_33 : decode cX9_pass 33 = .ok (.getfield 37, 3) := by decide +kernel
theorem dX9_pass_36 : decode cX9_pass 36 = .ok (.iload_n 2, 1) := by decide +kernel
theorem dX9_pass_37 : decode cX9_pass 37 = .ok (.iadd, 1) := by decide +kernel
theorem dX9_pass_38 : decode cX9_pass 38 = .ok (.caload, 1) := by decide +kernel
theorem dX9_pass_39 : decode cX9_pass 39 = .ok (.aload_n 1, 1) := by decide +kernel
theorem dX9_pass_40 : decode cX9_pass 40 = .ok (.iload_n 2, 1) := by decide +kernel
theorem dX9_pass_41 : decode cX9_pass 41 = .ok (.invokevirtual 104, 3) := by decide +kernel
theorem dX9_pass_44 : decode cX9_pass 44 = .ok (.if_icmp .eq 5, 3) := by decide +kernel
theorem dX9_pass_47 : decode cX9_pass 47 = .ok (.iconst 0, 1) := by decide +kernel
theorem dX9_pass_48 : decode cX9_pass 48 = .ok (.ireturn, 1) := by decide +kernel
theorem dX9_pass_49 : decode cX9_pass 49 = .ok (.iinc 2 1, 3) := by decide +kernel
theorem dX9_pass_52 : decode cX9_pass 52 = .ok (.goto (-32), 3) := by decide +kernel
theorem dX9_pass_55 : decode cX9_pass 55 = .ok (.aload_n 0, 1) := by decide +kernel
theorem dX9_pass_56 : decode cX9_pass 56 = .ok (.invokevirtual 30, 3) := by decide +kernel
theorem dX9_pass_59 : decode cX9_pass 59 = .ok (.iconst 1, 1) := by decide +kernel
theorem dX9_pass_60 : decode cX9_pass 60 = .ok (.ireturn, 1) := by decide +kernel
theorem dX9_goOn_0 : decode cX9_goOn 0 = .ok (.aload_n 0, 1) := by decide +kernel
theorem dX9_goOn_1 : decode cX9_goOn 1 = .ok (.aload_n 0, 1) := by decide +kernel
theorem dX9_goOn_2 : decode cX9_goOn 2 = .ok (.getfield 27, 3) := by decide +kernel
theorem dX9_goOn_5 : decode cX9_goOn 5 = .ok (.putfield 37, 3) := by decide +kernel
theorem dX9_goOn_8 : decode cX9_goOn 8 = .ok (.aload_n 0, 1) := by decide +kernel
theorem dX9_goOn_9 : decode cX9_goOn 9 = .ok (.getfield 37, 3) := by decide +kernel
theorem dX9_goOn_12 : decode cX9_goOn 12 = .ok (.aload_n 0, 1) := by decide +kernel
theorem dX9_goOn_13 : decode cX9_goOn 13 = .ok (.getfield 15, 3) := by decide +kernel
theorem dX9_goOn_16 : decode cX9_goOn 16 = .ok (.if_icmp .ge 30, 3) := by decide +kernel
theorem dX9_goOn_19 : decode cX9_goOn 19 = .ok (.aload_n 0, 1) := by decide +kernel
theorem dX9_goOn_20 : decode cX9_goOn 20 = .ok (.getfield 9, 3) := by decide +kernel
theorem dX9_goOn_23 : decode cX9_goOn 23 = .ok (.aload_n 0, 1) := by decide +kernel
theorem dX9_goOn_24 : decode cX9_goOn 24 = .ok (.getfield 37, 3) := by decide +kernel
theorem dX9_goOn_27 : decode cX9_goOn 27 = .ok (.caload, 1) := by decide +kernel
theorem dX9_goOn_28 : decode cX9_goOn 28 = .ok (.bipush 32, 2) := by decide +kernel
theorem dX9_goOn_30 : decode cX9_goOn 30 = .ok (.if_icmp .ne 16, 3) := by decide +kernel
theorem dX9_goOn_33 : decode cX9_goOn 33 = .ok (.aload_n 0, 1) := by decide +kernel
theorem dX9_goOn_34 : decode cX9_goOn 34 = .ok (.dup, 1) := by decide +kernel
theorem dX9_goOn_35 : decode cX9_goOn 35 = .ok (.getfield 37, 3) := by decide +kernel
theorem dX9_goOn_38 : decode cX9_goOn 38 = .ok (.iconst 1, 1) := by decide +kernel
theorem dX9_goOn_39 : decode cX9_goOn 39 = .ok (.iadd, 1) := by decide +kernel
theorem dX9_goOn_40 : decode cX9_goOn 40 = .ok (.putfield 37, 3) := by decide +kernel
theorem dX9_goOn_43 : decode cX9_goOn 43 = .ok (.goto (-35), 3) := by decide +kernel
theorem dX9_goOn_46 : decode cX9_goOn 46 = .ok (.aload_n 0, 1) := by decide +kernel
theorem dX9_goOn_47 : decode cX9_goOn 47 = .ok (.aload_n 0, 1) := by decide +kernel
theorem dX9_goOn_48 : decode cX9_goOn 48 = .ok (.getfield 37, 3) := by decide +kernel
theorem dX9_goOn_51 : decode cX9_goOn 51 = .ok (.putfield 27, 3) := by decide +kernel
theorem dX9_goOn_54 : decode cX9_goOn 54 = .ok (.aload_n 0, 1) := by decide +kernel
theorem dX9_goOn_55 : decode cX9_goOn 55 = .ok (.iconst 0, 1) := by decide +kernel
theorem dX9_goOn_56 : decode cX9_goOn 56 = .ok (.putfield 96, 3) := by decide +kernel
theorem dX9_goOn_59 : decode cX9_goOn 59 = .ok (.aload_n 0, 1) := by decide +kernel
theorem dX9_goOn_60 : decode cX9_goOn 60 = .ok (.getfield 37, 3) := by decide +kernel
theorem dX9_goOn_63 : decode cX9_goOn 63 = .ok (.aload_n 0, 1) := by decide +kernel
theorem dX9_goOn_64 : decode cX9_goOn 64 = .ok (.getfield 15, 3) := by decide +kernel
theorem dX9_goOn_67 : decode cX9_goOn 67 = .ok (.if_icmp .ne 4, 3) := by decide +kernel
theorem dX9_goOn_70 : decode cX9_goOn 70 = .ok (.return_, 1) := by decide +kernel
theorem dX9_goOn_71 : decode cX9_goOn 71 = .ok (.aload_n 0, 1) := by decide +kernel
theorem dX9_goOn_72 : decode cX9_goOn 72 = .ok (.aload_n 0, 1) := by decide +kernel
theorem dX9_goOn_73 : decode cX9_goOn 73 = .ok (.getfield 9, 3) := by decide +kernel
theorem dX9_goOn_76 : decode cX9_goOn 76 = .ok (.aload_n 0, 1) := by decide +kernel
theorem dX9_goOn_77 : decode cX9_goOn 77 = .ok (.getfield 37, 3) := by decide +kernel
theorem dX9_goOn_80 : decode cX9_goOn 80 = .ok (.caload, 1) := by decide +kernel
theorem dX9_goOn_81 : decode cX9_goOn 81 = .ok (.invokestatic 108, 3) := by decide +kernel
theorem dX9_goOn_84 : decode cX9_goOn 84 = .ok (.putfield 96, 3) := by decide +kernel
theorem dX9_goOn_87 : decode cX9_goOn 87 = .ok (.aload_n 0, 1) := by decide +kernel
theorem dX9_goOn_88 : decode cX9_goOn 88 = .ok (.dup, 1) := by decide +kernel
theorem dX9_goOn_89 : decode cX9_goOn 89 = .ok (.getfield 27, 3) := by decide +kernel
theorem dX9_goOn_92 : decode cX9_goOn 92 = .ok (.iconst 1, 1) := by decide +kernel
theorem dX9_goOn_93 : decode cX9_goOn 93 = .ok (.iadd, 1) := by decide +kernel
theorem dX9_goOn_94 : decode cX9_goOn 94 = .ok (.putfield 27, 3) := by decide +kernel
theorem dX9_goOn_97 : decode cX9_goOn 97 = .ok (.aload_n 0, 1) := by decide +kernel
theorem dX9_goOn_98 : decode cX9_goOn 98 = .ok (.getfield 96, 3) := by decide +kernel
theorem dX9_goOn_101 : decode cX9_goOn 101 = .ok (.ifCond .eq 46, 3) := by decide +kernel
theorem dX9_goOn_104 : decode cX9_goOn 104 = .ok (.aload_n 0, 1) := by decide +kernel
theorem dX9_goOn_105 : decode cX9_goOn 105 = .ok (.getfield 27, 3) := by decide +kernel
theorem dX9_goOn_108 : decode cX9_goOn 108 = .ok (.aload_n 0, 1) := by decide +kernel
theorem dX9_goOn_109 : decode cX9_goOn 109 = .ok (.getfield 15, 3) := by decide +kernel
theorem dX9_goOn_112 : decode cX9_goOn 112 = .ok (.if_icmp .ge 35, 3) := by decide +kernel
theorem dX9_goOn_115 : decode cX9_goOn 115 = .ok (.aload_n 0, 1) := by decide +kernel
theorem dX9_goOn_116 : decode cX9_goOn 116 = .ok (.getfield 9, 3) := by decide +kernel
theorem dX9_goOn_119 : decode cX9_goOn 119 = .ok (.aload_n 0, 1) := by decide +kernel
theorem dX9_goOn_120 : decode cX9_goOn 120 = .ok (.getfield 27, 3) := by decide +kernel
theorem dX9_goOn_123 : decode cX9_goOn 123 = .ok (.caload, 1) := by decide +kernel
theorem dX9_goOn_124 : decode cX9_goOn 124 = .ok (.invokestatic 108, 3) := by decide +kernel
theorem dX9_goOn_127 : decode cX9_goOn 127 = .ok (.aload_n 0, 1) := by decide +kernel
theorem dX9_goOn_128 : decode cX9_goOn 128 = .ok (.getfield 96, 3) := by decide +kernel
theorem dX9_goOn_131 : decode cX9_goOn 131 = .ok (.if_icmp .ne 16, 3) := by decide +kernel
theorem dX9_goOn_134 : decode cX9_goOn 134 = .ok (.aload_n 0, 1) := by decide +kernel
theorem dX9_goOn_135 : decode cX9_goOn 135 = .ok (.dup, 1) := by decide +kernel
theorem dX9_goOn_136 : decode cX9_goOn 136 = .ok (.getfield 27, 3) := by decide +kernel
theorem dX9_goOn_139 : decode cX9_goOn 139 = .ok (.iconst 1, 1) := by decide +kernel
theorem dX9_goOn_140 : decode cX9_goOn 140 = .ok (.iadd, 1) := by decide +kernel
theorem dX9_goOn_141 : decode cX9_goOn 141 = .ok (.putfield 27, 3) := by decide +kernel
theorem dX9_goOn_144 : decode cX9_goOn 144 = .ok (.goto (-47), 3) := by decide +kernel
theorem dX9_goOn_147 : decode cX9_goOn 147 = .ok (.return_, 1) := by decide +kernel
theorem dX9_lookOf_0 : decode cX9_lookOf 0 = .ok (.iload_n 0, 1) := by decide +kernel
theorem dX9_lookOf_1 : decode cX9_lookOf 1 = .ok (.bipush 97, 2) := by decide +kernel
theorem dX9_lookOf_3 : decode cX9_lookOf 3 = .ok (.if_icmp .lt 11, 3) := by decide +kernel
theorem dX9_lookOf_6 : decode cX9_lookOf 6 = .ok (.iload_n 0, 1) := by decide +kernel
theorem dX9_lookOf_7 : decode cX9_lookOf 7 = .ok (.bipush 122, 2) := by decide +kernel
theorem dX9_lookOf_9 : decode cX9_lookOf 9 = .ok (.if_icmp .gt 5, 3) := by decide +kernel
theorem dX9_lookOf_12 : decode cX9_lookOf 12 = .ok (.iconst 1, 1) := by decide +kernel
theorem dX9_lookOf_13 : decode cX9_lookOf 13 = .ok (.ireturn, 1) := by decide +kernel
theorem dX9_lookOf_14 : decode cX9_lookOf 14 = .ok (.iload_n 0, 1) := by decide +kernel
theorem dX9_lookOf_15 : decode cX9_lookOf 15 = .ok (.bipush 48, 2) := by decide +kernel
theorem dX9_lookOf_17 : decode cX9_lookOf 17 = .ok (.if_icmp .lt 13, 3) := by decide +kernel
theorem dX9_lookOf_20 : decode cX9_lookOf 20 = .ok (.iload_n 0, 1) := by decide +kernel
theorem dX9_lookOf_21 : decode cX9_lookOf 21 = .ok (.bipush 57, 2) := by decide +kernel
theorem dX9_lookOf_23 : decode cX9_lookOf 23 = .ok (.if_icmp .gt 7, 3) := by decide +kernel
theorem dX9_lookOf_26 : decode cX9_lookOf 26 = .ok (.iconst 2, 1) := by decide +kernel
theorem dX9_lookOf_27 : decode cX9_lookOf 27 = .ok (.goto 4, 3) := by decide +kernel
theorem dX9_lookOf_30 : decode cX9_lookOf 30 = .ok (.iconst 0, 1) := by decide +kernel
theorem dX9_lookOf_31 : decode cX9_lookOf 31 = .ok (.ireturn, 1) := by decide +kernel
theorem dX10_init_0 : decode cX10_init 0 = .ok (.aload_n 0, 1) := by decide +kernel
theorem dX10_init_1 : decode cX10_init 1 = .ok (.invokespecial 3, 3) := by decide +kernel
theorem dX10_init_4 : decode cX10_init 4 = .ok (.aload_n 0, 1) := by decide +kernel
theorem dX10_init_5 : decode cX10_init 5 = .ok (.iconst 4, 1) := by decide +kernel
theorem dX10_init_6 : decode cX10_init 6 = .ok (.iconst 4, 1) := by decide +kernel
theorem dX10_init_7 : decode cX10_init 7 = .ok (.multianewarray 9 2, 4) := by decide +kernel
theorem dX10_init_11 : decode cX10_init 11 = .ok (.putfield 11, 3) := by decide +kernel
theorem dX10_init_14 : decode cX10_init 14 = .ok (.aload_n 0, 1) := by decide +kernel
theorem dX10_init_15 : decode cX10_init 15 = .ok (.iconst 4, 1) := by decide +kernel
theorem dX10_init_16 : decode cX10_init 16 = .ok (.newarray .int, 2) := by decide +kernel
theorem dX10_init_18 : decode cX10_init 18 = .ok (.putfield 16, 3) := by decide +kernel
theorem dX10_init_21 : decode cX10_init 21 = .ok (.aload_n 0, 1) := by decide +kernel
theorem dX10_init_22 : decode cX10_init 22 = .ok (.new 20, 3) := by decide +kernel
theorem dX10_init_25 : decode cX10_init 25 = .ok (.dup, 1) := by decide +kernel
theorem dX10_init_26 : decode cX10_init 26 = .ok (.invokespecial 22, 3) := by decide +kernel
theorem dX10_init_29 : decode cX10_init 29 = .ok (.putfield 23, 3) := by decide +kernel
theorem dX10_init_32 : decode cX10_init 32 = .ok (.aload_n 0, 1) := by decide +kernel
theorem dX10_init_33 : decode cX10_init 33 = .ok (.new 20, 3) := by decide +kernel
theorem dX10_init_36 : decode cX10_init 36 = .ok (.dup, 1) := by decide +kernel
theorem dX10_init_37 : decode cX10_init 37 = .ok (.invokespecial 22, 3) := by decide +kernel
theorem dX10_init_40 : decode cX10_init 40 = .ok (.putfield 27, 3) := by decide +kernel
theorem dX10_init_43 : decode cX10_init 43 = .ok (.aload_n 0, 1) := by decide +kernel
theorem dX10_init_44 : decode cX10_init 44 = .ok (.getfield 16, 3) := by decide +kernel
theorem dX10_init_47 : decode cX10_init 47 = .ok (.iconst 1, 1) := by decide +kernel
theorem dX10_init_48 : decode cX10_init 48 = .ok (.invokestatic 30, 3) := by decide +kernel
theorem dX10_init_51 : decode cX10_init 51 = .ok (.return_, 1) := by decide +kernel
theorem dX11_init_0 : decode cX11_init 0 = .ok (.aload_n 0, 1) := by decide +kernel
theorem dX11_init_1 : decode cX11_init 1 = .ok (.invokespecial 1, 3) := by decide +kernel
theorem dX11_init_4 : decode cX11_init 4 = .ok (.aload_n 0, 1) := by decide +kernel
theorem dX11_init_5 : decode cX11_init 5 = .ok (.new 7, 3) := by decide +kernel
theorem dX11_init_8 : decode cX11_init 8 = .ok (.dup, 1) := by decide +kernel
theorem dX11_init_9 : decode cX11_init 9 = .ok (.invokespecial 9, 3) := by decide +kernel
theorem dX11_init_12 : decode cX11_init 12 = .ok (.putfield 10, 3) := by decide +kernel
theorem dX11_init_15 : decode cX11_init 15 = .ok (.aload_n 0, 1) := by decide +kernel
theorem dX11_init_16 : decode cX11_init 16 = .ok (.new 16, 3) := by decide +kernel
theorem dX11_init_19 : decode cX11_init 19 = .ok (.dup, 1) := by decide +kernel
theorem dX11_init_20 : decode cX11_init 20 = .ok (.invokespecial 18, 3) := by decide +kernel
theorem dX11_init_23 : decode cX11_init 23 = .ok (.putfield 19, 3) := by decide +kernel
theorem dX11_init_26 : decode cX11_init 26 = .ok (.aload_n 0, 1) := by decide +kernel
theorem dX11_init_27 : decode cX11_init 27 = .ok (.new 16, 3) := by decide +kernel
theorem dX11_init_30 : decode cX11_init 30 = .ok (.dup, 1) := by decide +kernel
theorem dX11_init_31 : decode cX11_init 31 = .ok (.invokespecial 18, 3) := by decide +kernel
theorem dX11_init_34 : decode cX11_init 34 = .ok (.putfield 23, 3) := by decide +kernel
theorem dX11_init_37 : decode cX11_init 37 = .ok (.aload_n 0, 1) := by decide +kernel
theorem dX11_init_38 : decode cX11_init 38 = .ok (.new 26, 3) := by decide +kernel
theorem dX11_init_41 : decode cX11_init 41 = .ok (.dup, 1) := by decide +kernel
theorem dX11_init_42 : decode cX11_init 42 = .ok (.invokespecial 28, 3) := by decide +kernel
theorem dX11_init_45 : decode cX11_init 45 = .ok (.putfield 29, 3) := by decide +kernel
theorem dX11_init_48 : decode cX11_init 48 = .ok (.aload_n 0, 1) := by decide +kernel
theorem dX11_init_49 : decode cX11_init 49 = .ok (.new 33, 3) := by decide +kernel
theorem dX11_init_52 : decode cX11_init 52 = .ok (.dup, 1) := by decide +kernel
theorem dX11_init_53 : decode cX11_init 53 = .ok (.aload_n 0, 1) := by decide +kernel
theorem dX11_init_54 : decode cX11_init 54 = .ok (.getfield 10, 3) := by decide +kernel
theorem dX11_init_57 : decode cX11_init 57 = .ok (.invokespecial 35, 3) := by decide +kernel
theorem dX11_init_60 : decode cX11_init 60 = .ok (.putfield 38, 3) := by decide +kernel
theorem dX11_init_63 : decode cX11_init 63 = .ok (.aload_n 0, 1) := by decide +kernel
theorem dX11_init_64 : decode cX11_init 64 = .ok (.new 33, 3) := by decide +kernel
theorem dX11_init_67 : decode cX11_init 67 = .ok (.dup, 1) := by decide +kernel
theorem dX11_init_68 : decode cX11_init 68 = .ok (.aload_n 0, 1) := by decide +kernel
theorem dX11_init_69 : decode cX11_init 69 = .ok (.getfield 10, 3) := by decide +kernel
theorem dX11_init_72 : decode cX11_init 72 = .ok (.invokespecial 35, 3) := by decide +kernel
theorem dX11_init_75 : decode cX11_init 75 = .ok (.putfield 42, 3) := by decide +kernel
theorem dX11_init_78 : decode cX11_init 78 = .ok (.aload_n 0, 1) := by decide +kernel
theorem dX11_init_79 : decode cX11_init 79 = .ok (.new 45, 3) := by decide +kernel
theorem dX11_init_82 : decode cX11_init 82 = .ok (.dup, 1) := by decide +kernel
theorem dX11_init_83 : decode cX11_init 83 = .ok (.aload_n 0, 1) := by decide +kernel
theorem dX11_init_84 : decode cX11_init 84 = .ok (.getfield 10, 3) := by decide +kernel
theorem dX11_init_87 : decode cX11_init 87 = .ok (.invokespecial 47, 3) := by decide +kernel
theorem dX11_init_90 : decode cX11_init 90 = .ok (.putfield 48, 3) := by decide +kernel
theorem dX11_init_93 : decode cX11_init 93 = .ok (.aload_n 0, 1) := by decide +kernel
theorem dX11_init_94 : decode cX11_init 94 = .ok (.new 52, 3) := by decide +kernel
theorem dX11_init_97 : decode cX11_init 97 = .ok (.dup, 1) := by decide +kernel
theorem dX11_init_98 : decode cX11_init 98 = .ok (.aload_n 0, 1) := by decide +kernel
theorem dX11_init_99 : decode cX11_init 99 = .ok (.getfield 10, 3) := by decide +kernel
theorem dX11_init_102 : decode cX11_init 102 = .ok (.invokespecial 54, 3) := by decide +kernel
theorem dX11_init_105 : decode cX11_init 105 = .ok (.putfield 55, 3) := by decide +kernel
theorem dX11_init_108 : decode cX11_init 108 = .ok (.aload_n 0, 1) := by decide +kernel
theorem dX11_init_109 : decode cX11_init 109 = .ok (.new 59, 3) := by decide +kernel
theorem dX11_init_112 : decode cX11_init 112 = .ok (.dup, 1) := by decide +kernel
theorem dX11_init_113 : decode cX11_init 113 = .ok (.aload_n 0, 1) := by decide +kernel
theorem dX11_init_114 : decode cX11_init 114 = .ok (.getfield 10, 3) := by decide +kernel
theorem dX11_init_117 : decode cX11_init 117 = .ok (.invokespecial 61, 3) := by decide +kernel
theorem dX11_init_120 : decode cX11_init 120 = .ok (.putfield 62, 3) := by decide +kernel
theorem dX11_init_123 : decode cX11_init 123 = .ok (.aload_n 0, 1) := by decide +kernel
theorem dX11_init_124 : decode cX11_init 124 = .ok (.new 66, 3) := by decide +kernel
theorem dX11_init_127 : decode cX11_init 127 = .ok (.dup, 1) := by decide +kernel
theorem dX11_init_128 : decode cX11_init 128 = .ok (.aload_n 0, 1) := by decide +kernel
theorem dX11_init_129 : decode cX11_init 129 = .ok (.getfield 62, 3) := by decide +kernel
theorem dX11_init_132 : decode cX11_init 132 = .ok (.invokespecial 68, 3) := by decide +kernel
theorem dX11_init_135 : decode cX11_init 135 = .ok (.putfield 71, 3) := by decide +kernel
theorem dX11_init_138 : decode cX11_init 138 = .ok (.aload_n 0, 1) := by decide +kernel
theorem dX11_init_139 : decode cX11_init 139 = .ok (.new 75, 3) := by decide +kernel
theorem dX11_init_142 : decode cX11_init 142 = .ok (.dup, 1) := by decide +kernel
theorem dX11_init_143 : decode cX11_init 143 = .ok (.aload_n 0, 1) := by decide +kernel
theorem dX11_init_144 : decode cX11_init 144 = .ok (.getfield 62, 3) := by decide +kernel
theorem dX11_init_147 : decode cX11_init 147 = .ok (.invokespecial 77, 3) := by decide +kernel
theorem dX11_init_150 : decode cX11_init 150 = .ok (.putfield 78, 3) := by decide +kernel
theorem dX11_init_153 : decode cX11_init 153 = .ok (.return_, 1) := by decide +kernel
theorem dX11_worth_0 : decode cX11_worth 0 = .ok (.iload_n 1, 1) := by decide +kernel
theorem dX11_worth_1 : decode cX11_worth 1 = .ok (.invokestatic 82, 3) := by decide +kernel
theorem dX11_worth_4 : decode cX11_worth 4 = .ok (.ifCond .eq 10, 3) := by decide +kernel
theorem dX11_worth_7 : decode cX11_worth 7 = .ok (.iload_n 2, 1) := by decide +kernel
theorem dX11_worth_8 : decode cX11_worth 8 = .ok (.invokestatic 86, 3) := by decide +kernel
theorem dX11_worth_11 : decode cX11_worth 11 = .ok (.ifCond .ne 6, 3) := by decide +kernel
theorem dX11_worth_14 : decode cX11_worth 14 = .ok (.bipush (-2), 2) := by decide +kernel
theorem dX11_worth_16 : decode cX11_worth 16 = .ok (.ireturn, 1) := by decide +kernel
theorem dX11_worth_17 : decode cX11_worth 17 = .ok (.iload_n 3, 1) := by decide +kernel
theorem dX11_worth_18 : decode cX11_worth 18 = .ok (.iconst 0, 1) := by decide +kernel
theorem dX11_worth_19 : decode cX11_worth 19 = .ok (.bipush 99, 2) := by decide +kernel
theorem dX11_worth_21 : decode cX11_worth 21 = .ok (.invokestatic 89, 3) := by decide +kernel
theorem dX11_worth_24 : decode cX11_worth 24 = .ok (.ifCond .ne 6, 3) := by decide +kernel
theorem dX11_worth_27 : decode cX11_worth 27 = .ok (.bipush (-3), 2) := by decide +kernel
theorem dX11_worth_29 : decode cX11_worth 29 = .ok (.ireturn, 1) := by decide +kernel
theorem dX11_worth_30 : decode cX11_worth 30 = .ok (.aload_n 0, 1) := by decide +kernel
theorem dX11_worth_31 : decode cX11_worth 31 = .ok (.getfield 10, 3) := by decide +kernel
theorem dX11_worth_34 : decode cX11_worth 34 = .ok (.getfield 93, 3) := by decide +kernel
theorem dX11_worth_37 : decode cX11_worth 37 = .ok (.iload_n 1, 1) := by decide +kernel
theorem dX11_worth_38 : decode cX11_worth 38 = .ok (.aaload, 1) := by decide +kernel
theorem dX11_worth_39 : decode cX11_worth 39 = .ok (.iload_n 2, 1) := by decide +kernel
theorem dX11_worth_40 : decode cX11_worth 40 = .ok (.iaload, 1) := by decide +kernel
theorem dX11_worth_41 : decode cX11_worth 41 = .ok (.istore 4, 2) := by decide +kernel
theorem dX11_worth_43 : decode cX11_worth 43 = .ok (.aload_n 0, 1) := by decide +kernel
theorem dX11_worth_44 : decode cX11_worth 44 = .ok (.getfield 10, 3) := by decide +kernel
theorem dX11_worth_47 : decode cX11_worth 47 = .ok (.getfield 93, 3) := by decide +kernel
theorem dX11_worth_50 : decode cX11_worth 50 = .ok (.iload_n 1, 1) := by decide +kernel
theorem dX11_worth_51 : decode cX11_worth 51 = .ok (.aaload, 1) := by decide +kernel
theorem dX11_worth_52 : decode cX11_worth 52 = .ok (.iload_n 2, 1) := by decide +kernel
theorem dX11_worth_53 : decode cX11_worth 53 = .ok (.iload_n 3, 1) := by decide +kernel
theorem dX11_worth_54 : decode cX11_worth 54 = .ok (.iastore, 1) := by decide +kernel
theorem dX11_worth_55 : decode cX11_worth 55 = .ok (.aload_n 0, 1) := by decide +kernel
theorem dX11_worth_56 : decode cX11_worth 56 = .ok (.getfield 48, 3) := by decide +kernel
theorem dX11_worth_59 : decode cX11_worth 59 = .ok (.invokevirtual 97, 3) := by decide +kernel
theorem dX11_worth_62 : decode cX11_worth 62 = .ok (.iload 4, 2) := by decide +kernel
theorem dX11_worth_64 : decode cX11_worth 64 = .ok (.ireturn, 1) := by decide +kernel
theorem dX11_need_0 : decode cX11_need 0 = .ok (.iload_n 1, 1) := by decide +kernel
theorem dX11_need_1 : decode cX11_need 1 = .ok (.invokestatic 82, 3) := by decide +kernel
theorem dX11_need_4 : decode cX11_need 4 = .ok (.ifCond .ne 6, 3) := by decide +kernel
theorem dX11_need_7 : decode cX11_need 7 = .ok (.bipush (-2), 2) := by decide +kernel
theorem dX11_need_9 : decode cX11_need 9 = .ok (.ireturn, 1) := by decide +kernel
theorem dX11_need_10 : decode cX11_need 10 = .ok (.iload_n 2, 1) := by decide +kernel
theorem dX11_need_11 : decode cX11_need 11 = .ok (.iconst 1, 1) := by decide +kernel
theorem dX11_need_12 : decode cX11_need 12 = .ok (.bipush 9, 2) := by decide +kernel
theorem dX11_need_14 : decode cX11_need 14 = .ok (.invokestatic 89, 3) := by decide +kernel
theorem dX11_need_17 : decode cX11_need 17 = .ok (.ifCond .ne 6, 3) := by decide +kernel
theorem dX11_need_20 : decode cX11_need 20 = .ok (.bipush (-3), 2) := by decide +kernel
theorem dX11_need_22 : decode cX11_need 22 = .ok (.ireturn, 1) := by decide +kernel
theorem dX11_need_23 : decode cX11_need 23 = .ok (.aload_n 0, 1) := by decide +kernel
theorem dX11_need_24 : decode cX11_need 24 = .ok (.getfield 10, 3) := by decide +kernel
theorem dX11_need_27 : decode cX11_need 27 = .ok (.getfield 100, 3) := by decide +kernel
theorem dX11_need_30 : decode cX11_need 30 = .ok (.iload_n 1, 1) := by decide +kernel
theorem dX11_need_31 : decode cX11_need 31 = .ok (.iaload, 1) := by decide +kernel
theorem dX11_need_32 : decode cX11_need 32 = .ok (.istore_n 3, 1) := by decide +kernel
theorem dX11_need_33 : decode cX11_need 33 = .ok (.aload_n 0, 1) := by decide +kernel
theorem dX11_need_34 : decode cX11_need 34 = .ok (.getfield 10, 3) := by decide +kernel
theorem dX11_need_37 : decode cX11_need 37 = .ok (.getfield 100, 3) := by decide +kernel
theorem dX11_need_40 : decode cX11_need 40 = .ok (.iload_n 1, 1) := by decide +kernel
theorem dX11_need_41 : decode cX11_need 41 = .ok (.iload_n 2, 1) := by decide +kernel
theorem dX11_need_42 : decode cX11_need 42 = .ok (.iastore, 1) := by decide +kernel
theorem dX11_need_43 : decode cX11_need 43 = .ok (.aload_n 0, 1) := by decide +kernel
theorem dX11_need_44 : decode cX11_need 44 = .ok (.getfield 48, 3) := by decide +kernel
theorem dX11_need_47 : decode cX11_need 47 = .ok (.invokevirtual 97, 3) := by decide +kernel
theorem dX11_need_50 : decode cX11_need 50 = .ok (.iload_n 3, 1) := by decide +kernel
theorem dX11_need_51 : decode cX11_need 51 = .ok (.ireturn, 1) := by decide +kernel
theorem dX11_coming_0 : decode cX11_coming 0 = .ok (.iload_n 1, 1) := by decide +kernel
theorem dX11_coming_1 : decode cX11_coming 1 = .ok (.iconst (-1), 1) := by decide +kernel
theorem dX11_coming_2 : decode cX11_coming 2 = .ok (.if_icmp .eq 13, 3) := by decide +kernel
theorem dX11_coming_5 : decode cX11_coming 5 = .ok (.iload_n 1, 1) := by decide +kernel
theorem dX11_coming_6 : decode cX11_coming 6 = .ok (.invokestatic 86, 3) := by decide +kernel
theorem dX11_coming_9 : decode cX11_coming 9 = .ok (.ifCond .ne 6, 3) := by decide +kernel
theorem dX11_coming_12 : decode cX11_coming 12 = .ok (.bipush (-2), 2) := by decide +kernel
theorem dX11_coming_14 : decode cX11_coming 14 = .ok (.ireturn, 1) := by decide +kernel
theorem dX11_coming_15 : decode cX11_coming 15 = .ok (.aload_n 0, 1) := by decide +kernel
theorem dX11_coming_16 : decode cX11_coming 16 = .ok (.getfield 10, 3) := by decide +kernel
theorem dX11_coming_19 : decode cX11_coming 19 = .ok (.getfield 104, 3) := by decide +kernel
theorem dX11_coming_22 : decode cX11_coming 22 = .ok (.invokevirtual 108, 3) := by decide +kernel
theorem dX11_coming_25 : decode cX11_coming 25 = .ok (.ifCond .eq 6, 3) := by decide +kernel
theorem dX11_coming_28 : decode cX11_coming 28 = .ok (.bipush (-5), 2) := by decide +kernel
theorem dX11_coming_30 : decode cX11_coming 30 = .ok (.ireturn, 1) := by decide +kernel
theorem dX11_coming_31 : decode cX11_coming 31 = .ok (.aload_n 0, 1) := by decide +kernel
theorem dX11_coming_32 : decode cX11_coming 32 = .ok (.getfield 48, 3) := by decide +kernel
theorem dX11_coming_35 : decode cX11_coming 35 = .ok (.invokevirtual 97, 3) := by decide +kernel
theorem dX11_coming_38 : decode cX11_coming 38 = .ok (.aload_n 0, 1) := by decide +kernel
theorem dX11_coming_39 : decode cX11_coming 39 = .ok (.getfield 10, 3) := by decide +kernel
theorem dX11_coming_42 : decode cX11_coming 42 = .ok (.getfield 104, 3) := by decide +kernel
theorem dX11_coming_45 : decode cX11_coming 45 = .ok (.iload_n 1, 1) := by decide +kernel
theorem dX11_coming_46 : decode cX11_coming 46 = .ok (.invokevirtual 114, 3) := by decide +kernel
theorem dX11_coming_49 : decode cX11_coming 49 = .ok (.ireturn, 1) := by decide +kernel
theorem dX11_joining_0 : decode cX11_joining 0 = .ok (.iload_n 1, 1) := by decide +kernel
theorem dX11_joining_1 : decode cX11_joining 1 = .ok (.iconst (-1), 1) := by decide +kernel
theorem dX11_joining_2 : decode cX11_joining 2 = .ok (.if_icmp .eq 13, 3) := by decide +kernel
theorem dX11_joining_5 : decode cX11_joining 5 = .ok (.iload_n 1, 1) := by decide +kernel
theorem dX11_joining_6 : decode cX11_joining 6 = .ok (.invokestatic 82, 3) := by decide +kernel
theorem dX11_joining_9 : decode cX11_joining 9 = .ok (.ifCond .ne 6, 3) := by decide +kernel
theorem dX11_joining_12 : decode cX11_joining 12 = .ok (.bipush (-2), 2) := by decide +kernel
theorem dX11_joining_14 : decode cX11_joining 14 = .ok (.ireturn, 1) := by decide +kernel
theorem dX11_joining_15 : decode cX11_joining 15 = .ok (.aload_n 0, 1) := by decide +kernel
theorem dX11_joining_16 : decode cX11_joining 16 = .ok (.getfield 10, 3) := by decide +kernel
theorem dX11_joining_19 : decode cX11_joining 19 = .ok (.getfield 118, 3) := by decide +kernel
theorem dX11_joining_22 : decode cX11_joining 22 = .ok (.invokevirtual 108, 3) := by decide +kernel
theorem dX11_joining_25 : decode cX11_joining 25 = .ok (.ifCond .eq 6, 3) := by decide +kernel
theorem dX11_joining_28 : decode cX11_joining 28 = .ok (.bipush (-5), 2) := by decide +kernel
theorem dX11_joining_30 : decode cX11_joining 30 = .ok (.ireturn, 1) := by decide +kernel
theorem dX11_joining_31 : decode cX11_joining 31 = .ok (.aload_n 0, 1) := by decide +kernel
theorem dX11_joining_32 : decode cX11_joining 32 = .ok (.getfield 48, 3) := by decide +kernel
theorem dX11_joining_35 : decode cX11_joining 35 = .ok (.invokevirtual 97, 3) := by decide +kernel
theorem dX11_joining_38 : decode cX11_joining 38 = .ok (.aload_n 0, 1) := by decide +kernel
theorem dX11_joining_39 : decode cX11_joining 39 = .ok (.getfield 10, 3) := by decide +kernel
theorem dX11_joining_42 : decode cX11_joining 42 = .ok (.getfield 118, 3) := by decide +kernel
theorem dX11_joining_45 : decode cX11_joining 45 = .ok (.iload_n 1, 1) := by decide +kernel
theorem dX11_joining_46 : decode cX11_joining 46 = .ok (.invokevirtual 114, 3) := by decide +kernel
theorem dX11_joining_49 : decode cX11_joining 49 = .ok (.ireturn, 1) := by decide +kernel
theorem dX11_join_0 : decode cX11_join 0 = .ok (.iload_n 1, 1) := by decide +kernel
theorem dX11_join_1 : decode cX11_join 1 = .ok (.invokestatic 82, 3) := by decide +kernel
theorem dX11_join_4 : decode cX11_join 4 = .ok (.ifCond .ne 6, 3) := by decide +kernel
theorem dX11_join_7 : decode cX11_join 7 = .ok (.bipush (-2), 2) := by decide +kernel
theorem dX11_join_9 : decode cX11_join 9 = .ok (.ireturn, 1) := by decide +kernel
theorem dX11_join_10 : decode cX11_join 10 = .ok (.aload_n 0, 1) := by decide +kernel
theorem dX11_join_11 : decode cX11_join 11 = .ok (.getfield 38, 3) := by decide +kernel
theorem dX11_join_14 : decode cX11_join 14 = .ok (.invokevirtual 121, 3) := by decide +kernel
theorem dX11_join_17 : decode cX11_join 17 = .ok (.ifCond .eq 6, 3) := by decide +kernel
theorem dX11_join_20 : decode cX11_join 20 = .ok (.bipush (-5), 2) := by decide +kernel
theorem dX11_join_22 : decode cX11_join 22 = .ok (.ireturn, 1) := by decide +kernel
theorem dX11_join_23 : decode cX11_join 23 = .ok (.aload_n 0, 1) := by decide +kernel
theorem dX11_join_24 : decode cX11_join 24 = .ok (.getfield 48, 3) := by decide +kernel
theorem dX11_join_27 : decode cX11_join 27 = .ok (.invokevirtual 97, 3) := by decide +kernel
theorem dX11_join_30 : decode cX11_join 30 = .ok (.aload_n 0, 1) := by decide +kernel
theorem dX11_join_31 : decode cX11_join 31 = .ok (.getfield 38, 3) := by decide +kernel
theorem dX11_join_34 : decode cX11_join 34 = .ok (.iload_n 1, 1) := by decide +kernel
theorem dX11_join_35 : decode cX11_join 35 = .ok (.invokevirtual 122, 3) := by decide +kernel
theorem dX11_join_38 : decode cX11_join 38 = .ok (.aload_n 0, 1) := by decide +kernel
theorem dX11_join_39 : decode cX11_join 39 = .ok (.getfield 38, 3) := by decide +kernel
theorem dX11_join_42 : decode cX11_join 42 = .ok (.getfield 125, 3) := by decide +kernel
theorem dX11_join_45 : decode cX11_join 45 = .ok (.ireturn, 1) := by decide +kernel
theorem dX11_run_0 : decode cX11_run 0 = .ok (.iload_n 1, 1) := by decide +kernel
theorem dX11_run_1 : decode cX11_run 1 = .ok (.iconst 1, 1) := by decide +kernel
theorem dX11_run_2 : decode cX11_run 2 = .ok (.bipush 100, 2) := by decide +kernel
theorem dX11_run_4 : decode cX11_run 4 = .ok (.invokestatic 89, 3) := by decide +kernel
theorem dX11_run_7 : decode cX11_run 7 = .ok (.ifCond .eq 18, 3) := by decide +kernel
theorem dX11_run_10 : decode cX11_run 10 = .ok (.aload_n 0, 1) := by decide +kernel
theorem dX11_run_11 : decode cX11_run 11 = .ok (.getfield 38, 3) := by decide +kernel
theorem dX11_run_14 : decode cX11_run 14 = .ok (.getfield 129, 3) := by decide +kernel
theorem dX11_run_17 : decode cX11_run 17 = .ok (.iload_n 1, 1) := by decide +kernel
theorem dX11_run_18 : decode cX11_run 18 = .ok (.iadd, 1) := by decide +kernel
theorem dX11_run_19 : decode cX11_run 19 = .ok (.sipush 2000, 3) := by decide +kernel
theorem dX11_run_22 : decode cX11_run 22 = .ok (.if_icmp .le 6, 3) := by decide +kernel
theorem dX11_run_25 : decode cX11_run 25 = .ok (.bipush (-3), 2) := by decide +kernel
theorem dX11_run_27 : decode cX11_run 27 = .ok (.ireturn, 1) := by decide +kernel
theorem dX11_run_28 : decode cX11_run 28 = .ok (.aload_n 0, 1) := by decide +kernel
theorem dX11_run_29 : decode cX11_run 29 = .ok (.getfield 48, 3) := by decide +kernel
theorem dX11_run_32 : decode cX11_run 32 = .ok (.invokevirtual 97, 3) := by decide +kernel
theorem dX11_run_35 : decode cX11_run 35 = .ok (.aload_n 0, 1) := by decide +kernel
theorem dX11_run_36 : decode cX11_run 36 = .ok (.getfield 38, 3) := by decide +kernel
theorem dX11_run_39 : decode cX11_run 39 = .ok (.iload_n 1, 1) := by decide +kernel
theorem dX11_run_40 : decode cX11_run 40 = .ok (.aload_n 0, 1) := by decide +kernel
theorem dX11_run_41 : decode cX11_run 41 = .ok (.getfield 19, 3) := by decide +kernel
theorem dX11_run_44 : decode cX11_run 44 = .ok (.invokevirtual 132, 3) := by decide +kernel
theorem dX11_run_47 : decode cX11_run 47 = .ok (.aload_n 0, 1) := by decide +kernel
theorem dX11_run_48 : decode cX11_run 48 = .ok (.getfield 38, 3) := by decide +kernel
theorem dX11_run_51 : decode cX11_run 51 = .ok (.getfield 129, 3) := by decide +kernel
theorem dX11_run_54 : decode cX11_run 54 = .ok (.ireturn, 1) := by decide +kernel
