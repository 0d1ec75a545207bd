theorem dX12_rule_0 : decode cX12_rule 0 = .ok (.iload_n 1, 1) := by decide +kernel
theorem dX12_rule_1 : decode cX12_rule 1 = .ok (.invokestatic 79, 3) := by decide +kernel
theorem dX12_rule_4 : decode cX12_rule 4 = .ok (.ifCond .eq 12, 3) := by decide +kernel
theorem dX12_rule_7 : decode cX12_rule 7 = .ok (.aload_n 0, 1) := by decide +kernel
theorem dX12_rule_8 : decode cX12_rule 8 = .ok (.getfield 41, 3) := by decide +kernel
theorem dX12_rule_11 : decode cX12_rule 11 = .ok (.iload_n 1, 1) := by decide +kernel
theorem dX12_rule_12 : decode cX12_rule 12 = .ok (.iaload, 1) := by decide +kernel
theorem dX12_rule_13 : decode cX12_rule 13 = .ok (.goto 5, 3) := by decide +kernel
theorem dX12_rule_16 : decode cX12_rule 16 = .ok (.bipush (-3), 2) := by decide +kernel
theorem dX12_rule_18 : decode cX12_rule 18 = .ok (.ireturn, 1) := by decide +kernel
theorem dX12_way_0 : decode cX12_way 0 = .ok (.iload_n 1, 1) := by decide +kernel
theorem dX12_way_1 : decode cX12_way 1 = .ok (.invokestatic 79, 3) := by decide +kernel
theorem dX12_way_4 : decode cX12_way 4 = .ok (.ifCond .ne 6, 3) := by decide +kernel
theorem dX12_way_7 : decode cX12_way 7 = .ok (.bipush (-2), 2) := by decide +kernel
theorem dX12_way_9 : decode cX12_way 9 = .ok (.ireturn, 1) := by decide +kernel
theorem dX12_way_10 : decode cX12_way 10 = .ok (.iload_n 2, 1) := by decide +kernel
theorem dX12_way_11 : decode cX12_way 11 = .ok (.iconst 0, 1) := by decide +kernel
theorem dX12_way_12 : decode cX12_way 12 = .ok (.iconst 2, 1) := by decide +kernel
theorem dX12_way_13 : decode cX12_way 13 = .ok (.invokestatic 75, 3) := by decide +kernel
theorem dX12_way_16 : decode cX12_way 16 = .ok (.ifCond .eq 18, 3) := by decide +kernel
theorem dX12_way_19 : decode cX12_way 19 = .ok (.aload_n 0, 1) := by decide +kernel
theorem dX12_way_20 : decode cX12_way 20 = .ok (.getfield 41, 3) := by decide +kernel
theorem dX12_way_23 : decode cX12_way 23 = .ok (.iconst 4, 1) := by decide +kernel
theorem dX12_way_24 : decode cX12_way 24 = .ok (.iconst 3, 1) := by decide +kernel
theorem dX12_way_25 : decode cX12_way 25 = .ok (.iload_n 1, 1) := by decide +kernel
theorem dX12_way_26 : decode cX12_way 26 = .ok (.imul, 1) := by decide +kernel
theorem dX12_way_27 : decode cX12_way 27 = .ok (.iadd, 1) := by decide +kernel
theorem dX12_way_28 : decode cX12_way 28 = .ok (.iload_n 2, 1) := by decide +kernel
theorem dX12_way_29 : decode cX12_way 29 = .ok (.iadd, 1) := by decide +kernel
theorem dX12_way_30 : decode cX12_way 30 = .ok (.iaload, 1) := by decide +kernel
theorem dX12_way_31 : decode cX12_way 31 = .ok (.goto 5, 3) := by decide +kernel
theorem dX12_way_34 : decode cX12_way 34 = .ok (.bipush (-3), 2) := by decide +kernel
theorem dX12_way_36 : decode cX12_way 36 = .ok (.ireturn, 1) := by decide +kernel
theorem dX12_keepRules_0 : decode cX12_keepRules 0 = .ok (.iconst 0, 1) := by decide +kernel
theorem dX12_keepRules_1 : decode cX12_keepRules 1 = .ok (.istore_n 1, 1) := by decide +kernel
theorem dX12_keepRules_2 : decode cX12_keepRules 2 = .ok (.iload_n 1, 1) := by decide +kernel
theorem dX12_keepRules_3 : decode cX12_keepRules 3 = .ok (.bipush 16, 2) := by decide +kernel
theorem dX12_keepRules_5 : decode cX12_keepRules 5 = .ok (.if_icmp .ge 21, 3) := by decide +kernel
theorem dX12_keepRules_8 : decode cX12_keepRules 8 = .ok (.aload_n 0, 1) := by decide +kernel
theorem dX12_keepRules_9 : decode cX12_keepRules 9 = .ok (.getfield 44, 3) := by decide +kernel
theorem dX12_keepRules_12 : decode cX12_keepRules 12 = .ok (.iload_n 1, 1) := by decide +kernel
theorem dX12_keepRules_13 : decode cX12_keepRules 13 = .ok (.aload_n 0, 1) := by decide +kernel
theorem dX12_keepRules_14 : decode cX12_keepRules 14 = .ok (.getfield 41, 3) := by decide +kernel
theorem dX12_keepRules_17 : decode cX12_keepRules 17 = .ok (.iload_n 1, 1) := by decide +kernel
theorem dX12_keepRules_18 : decode cX12_keepRules 18 = .ok (.iaload, 1) := by decide +kernel
theorem dX12_keepRules_19 : decode cX12_keepRules 19 = .ok (.iastore, 1) := by decide +kernel
theorem dX12_keepRules_20 : decode cX12_keepRules 20 = .ok (.iinc 1 1, 3) := by decide +kernel
theorem dX12_keepRules_23 : decode cX12_keepRules 23 = .ok (.goto (-21), 3) := by decide +kernel
theorem dX12_keepRules_26 : decode cX12_keepRules 26 = .ok (.return_, 1) := by decide +kernel
theorem dX12_layBackRules_0 : decode cX12_layBackRules 0 = .ok (.iconst 0, 1) := by decide +kernel
theorem dX12_layBackRules_1 : decode cX12_layBackRules 1 = .ok (.istore_n 1, 1) := by decide +kernel
theorem dX12_layBackRules_2 : decode cX12_layBackRules 2 = .ok (.iload_n 1, 1) := by decide +kernel
theorem dX12_layBackRules_3 : decode cX12_layBackRules 3 = .ok (.bipush 16, 2) := by decide +kernel
theorem dX12_layBackRules_5 : decode cX12_layBackRules 5 = .ok (.if_icmp .ge 21, 3) := by decide +kernel
theorem dX12_layBackRules_8 : decode cX12_layBackRules 8 = .ok (.aload_n 0, 1) := by decide +kernel
theorem dX12_layBackRules_9 : decode cX12_layBackRules 9 = .ok (.getfield 41, 3) := by decide +kernel
theorem dX12_layBackRules_12 : decode cX12_layBackRules 12 = .ok (.iload_n 1, 1) := by decide +kernel
theorem dX12_layBackRules_13 : decode cX12_layBackRules 13 = .ok (.aload_n 0, 1) := by decide +kernel
theorem dX12_layBackRules_14 : decode cX12_layBackRules 14 = .ok (.getfield 44, 3) := by decide +kernel
theorem dX12_layBackRules_17 : decode cX12_layBackRules 17 = .ok (.iload_n 1, 1) := by decide +kernel
theorem dX12_layBackRules_18 : decode cX12_layBackRules 18 = .ok (.iaload, 1) := by decide +kernel
theorem dX12_layBackRules_19 : decode cX12_layBackRules 19 = .ok (.iastore, 1) := by decide +kernel
theorem dX12_layBackRules_20 : decode cX12_layBackRules 20 = .ok (.iinc 1 1, 3) := by decide +kernel
theorem dX12_layBackRules_23 : decode cX12_layBackRules 23 = .ok (.goto (-21), 3) := by decide +kernel
theorem dX12_layBackRules_26 : decode cX12_layBackRules 26 = .ok (.return_, 1) := by decide +kernel
theorem dX12_goOn_0 : decode cX12_goOn 0 = .ok (.iconst 0, 1) := by decide +kernel
theorem dX12_goOn_1 : decode cX12_goOn 1 = .ok (.istore_n 2, 1) := by decide +kernel
theorem dX12_goOn_2 : decode cX12_goOn 2 = .ok (.iload_n 2, 1) := by decide +kernel
theorem dX12_goOn_3 : decode cX12_goOn 3 = .ok (.bipush 88, 2) := by decide +kernel
theorem dX12_goOn_5 : decode cX12_goOn 5 = .ok (.if_icmp .ge 21, 3) := by decide +kernel
theorem dX12_goOn_8 : decode cX12_goOn 8 = .ok (.aload_n 0, 1) := by decide +kernel
theorem dX12_goOn_9 : decode cX12_goOn 9 = .ok (.getfield 25, 3) := by decide +kernel
theorem dX12_goOn_12 : decode cX12_goOn 12 = .ok (.iload_n 2, 1) := by decide +kernel
theorem dX12_goOn_13 : decode cX12_goOn 13 = .ok (.aload_n 0, 1) := by decide +kernel
theorem dX12_goOn_14 : decode cX12_goOn 14 = .ok (.getfield 22, 3) := by decide +kernel
theorem dX12_goOn_17 : decode cX12_goOn 17 = .ok (.iload_n 2, 1) := by decide +kernel
theorem dX12_goOn_18 : decode cX12_goOn 18 = .ok (.iaload, 1) := by decide +kernel
theorem dX12_goOn_19 : decode cX12_goOn 19 = .ok (.iastore, 1) := by decide +kernel
theorem dX12_goOn_20 : decode cX12_goOn 20 = .ok (.iinc 2 1, 3) := by decide +kernel
theorem dX12_goOn_23 : decode cX12_goOn 23 = .ok (.goto (-21), 3) := by decide +kernel
theorem dX12_goOn_26 : decode cX12_goOn 26 = .ok (.iconst 0, 1) := by decide +kernel
theorem dX12_goOn_27 : decode cX12_goOn 27 = .ok (.istore_n 2, 1) := by decide +kernel
theorem dX12_goOn_28 : decode cX12_goOn 28 = .ok (.iload_n 2, 1) := by decide +kernel
theorem dX12_goOn_29 : decode cX12_goOn 29 = .ok (.iload_n 1, 1) := by decide +kernel
theorem dX12_goOn_30 : decode cX12_goOn 30 = .ok (.if_icmp .ge 13, 3) := by decide +kernel
theorem dX12_goOn_33 : decode cX12_goOn 33 = .ok (.aload_n 0, 1) := by decide +kernel
theorem dX12_goOn_34 : decode cX12_goOn 34 = .ok (.invokevirtual 107, 3) := by decide +kernel
theorem dX12_goOn_37 : decode cX12_goOn 37 = .ok (.iinc 2 1, 3) := by decide +kernel
theorem dX12_goOn_40 : decode cX12_goOn 40 = .ok (.goto (-12), 3) := by decide +kernel
theorem dX12_goOn_43 : decode cX12_goOn 43 = .ok (.return_, 1) := by decide +kernel
theorem dX12_layBack_0 : decode cX12_layBack 0 = .ok (.iconst 0, 1) := by decide +kernel
theorem dX12_layBack_1 : decode cX12_layBack 1 = .ok (.istore_n 1, 1) := by decide +kernel
theorem dX12_layBack_2 : decode cX12_layBack 2 = .ok (.iload_n 1, 1) := by decide +kernel
theorem dX12_layBack_3 : decode cX12_layBack 3 = .ok (.bipush 88, 2) := by decide +kernel
theorem dX12_layBack_5 : decode cX12_layBack 5 = .ok (.if_icmp .ge 21, 3) := by decide +kernel
theorem dX12_layBack_8 : decode cX12_layBack 8 = .ok (.aload_n 0, 1) := by decide +kernel
theorem dX12_layBack_9 : decode cX12_layBack 9 = .ok (.getfield 22, 3) := by decide +kernel
theorem dX12_layBack_12 : decode cX12_layBack 12 = .ok (.iload_n 1, 1) := by decide +kernel
theorem dX12_layBack_13 : decode cX12_layBack 13 = .ok (.aload_n 0, 1) := by decide +kernel
theorem dX12_layBack_14 : decode cX12_layBack 14 = .ok (.getfield 25, 3) := by decide +kernel
theorem dX12_layBack_17 : decode cX12_layBack 17 = .ok (.iload_n 1, 1) := by decide +kernel
theorem dX12_layBack_18 : decode cX12_layBack 18 = .ok (.iaload, 1) := by decide +kernel
theorem dX12_layBack_19 : decode cX12_layBack 19 = .ok (.iastore, 1) := by decide +kernel
theorem dX12_layBack_20 : decode cX12_layBack 20 = .ok (.iinc 1 1, 3) := by decide +kernel
theorem dX12_layBack_23 : decode cX12_layBack 23 = .ok (.goto (-21), 3) := by decide +kernel
theorem dX12_layBack_26 : decode cX12_layBack 26 = .ok (.return_, 1) := by decide +kernel
theorem dX12_more_0 : decode cX12_more 0 = .ok (.iconst 0, 1) := by decide +kernel
theorem dX12_more_1 : decode cX12_more 1 = .ok (.istore_n 2, 1) := by decide +kernel
theorem dX12_more_2 : decode cX12_more 2 = .ok (.iconst 0, 1) := by decide +kernel
theorem dX12_more_3 : decode cX12_more 3 = .ok (.istore_n 3, 1) := by decide +kernel
theorem dX12_more_4 : decode cX12_more 4 = .ok (.iload_n 3, 1) := by decide +kernel
theorem dX12_more_5 : decode cX12_more 5 = .ok (.iconst 4, 1) := by decide +kernel
theorem dX12_more_6 : decode cX12_more 6 = .ok (.if_icmp .ge 29, 3) := by decide +kernel
theorem dX12_more_9 : decode cX12_more 9 = .ok (.iload_n 2, 1) := by decide +kernel
theorem dX12_more_10 : decode cX12_more 10 = .ok (.aload_n 0, 1) := by decide +kernel
theorem dX12_more_11 : decode cX12_more 11 = .ok (.getfield 22, 3) := by decide +kernel
theorem dX12_more_14 : decode cX12_more 14 = .ok (.iload_n 1, 1) := by decide +kernel
theorem dX12_more_15 : decode cX12_more 15 = .ok (.iload_n 3, 1) := by decide +kernel
theorem dX12_more_16 : decode cX12_more 16 = .ok (.iadd, 1) := by decide +kernel
theorem dX12_more_17 : decode cX12_more 17 = .ok (.iaload, 1) := by decide +kernel
theorem dX12_more_18 : decode cX12_more 18 = .ok (.aload_n 0, 1) := by decide +kernel
theorem dX12_more_19 : decode cX12_more 19 = .ok (.getfield 25, 3) := by decide +kernel
theorem dX12_more_22 : decode cX12_more 22 = .ok (.iload_n 1, 1) := by decide +kernel
theorem dX12_more_23 : decode cX12_more 23 = .ok (.iload_n 3, 1) := by decide +kernel
theorem dX12_more_24 : decode cX12_more 24 = .ok (.iadd, 1) := by decide +kernel
theorem dX12_more_25 : decode cX12_more 25 = .ok (.iaload, 1) := by decide +kernel
theorem dX12_more_26 : decode cX12_more 26 = .ok (.isub, 1) := by decide +kernel
theorem dX12_more_27 : decode cX12_more 27 = .ok (.iadd, 1) := by decide +kernel
theorem dX12_more_28 : decode cX12_more 28 = .ok (.istore_n 2, 1) := by decide +kernel
theorem dX12_more_29 : decode cX12_more 29 = .ok (.iinc 3 1, 3) := by decide +kernel
theorem dX12_more_32 : decode cX12_more 32 = .ok (.goto (-28), 3) := by decide +kernel
theorem dX12_more_35 : decode cX12_more 35 = .ok (.iload_n 2, 1) := by decide +kernel
theorem dX12_more_36 : decode cX12_more 36 = .ok (.ireturn, 1) := by decide +kernel
theorem dX12_would_0 : decode cX12_would 0 = .ok (.iload_n 1, 1) := by decide +kernel
theorem dX12_would_1 : decode cX12_would 1 = .ok (.iconst 1, 1) := by decide +kernel
theorem dX12_would_2 : decode cX12_would 2 = .ok (.bipush 60, 2) := by decide +kernel
theorem dX12_would_4 : decode cX12_would 4 = .ok (.invokestatic 75, 3) := by decide +kernel
theorem dX12_would_7 : decode cX12_would 7 = .ok (.ifCond .eq 12, 3) := by decide +kernel
theorem dX12_would_10 : decode cX12_would 10 = .ok (.iload_n 2, 1) := by decide +kernel
theorem dX12_would_11 : decode cX12_would 11 = .ok (.iconst 0, 1) := by decide +kernel
theorem dX12_would_12 : decode cX12_would 12 = .ok (.iconst 4, 1) := by decide +kernel
theorem dX12_would_13 : decode cX12_would 13 = .ok (.invokestatic 75, 3) := by decide +kernel
theorem dX12_would_16 : decode cX12_would 16 = .ok (.ifCond .ne 6, 3) := by decide +kernel
theorem dX12_would_19 : decode cX12_would 19 = .ok (.bipush (-3), 2) := by decide +kernel
theorem dX12_would_21 : decode cX12_would 21 = .ok (.ireturn, 1) := by decide +kernel
theorem dX12_would_22 : decode cX12_would 22 = .ok (.aload_n 0, 1) := by decide +kernel
theorem dX12_would_23 : decode cX12_would 23 = .ok (.iload_n 1, 1) := by decide +kernel
theorem dX12_would_24 : decode cX12_would 24 = .ok (.invokevirtual 200, 3) := by decide +kernel
theorem dX12_would_27 : decode cX12_would 27 = .ok (.iload_n 2, 1) := by decide +kernel
theorem dX12_would_28 : decode cX12_would 28 = .ok (.iconst 2, 1) := by decide +kernel
theorem dX12_would_29 : decode cX12_would 29 = .ok (.if_icmp .ne 21, 3) := by decide +kernel
theorem dX12_would_32 : decode cX12_would 32 = .ok (.aload_n 0, 1) := by decide +kernel
theorem dX12_would_33 : decode cX12_would 33 = .ok (.getfield 22, 3) := by decide +kernel
theorem dX12_would_36 : decode cX12_would 36 = .ok (.bipush 87, 2) := by decide +kernel
theorem dX12_would_38 : decode cX12_would 38 = .ok (.iaload, 1) := by decide +kernel
theorem dX12_would_39 : decode cX12_would 39 = .ok (.aload_n 0, 1) := by decide +kernel
theorem dX12_would_40 : decode cX12_would 40 = .ok (.getfield 25, 3) := by decide +kernel
theorem dX12_would_43 : decode cX12_would 43 = .ok (.bipush 87, 2) := by decide +kernel
theorem dX12_would_45 : decode cX12_would 45 = .ok (.iaload, 1) := by decide +kernel
theorem dX12_would_46 : decode cX12_would 46 = .ok (.isub, 1) := by decide +kernel
theorem dX12_would_47 : decode cX12_would 47 = .ok (.goto 38, 3) := by decide +kernel
theorem dX12_would_50 : decode cX12_would 50 = .ok (.aload_n 0, 1) := by decide +kernel
theorem dX12_would_51 : decode cX12_would 51 = .ok (.iload_n 2, 1) := by decide +kernel
theorem dX12_would_52 : decode cX12_would 52 = .ok (.ifCond .ne 8, 3) := by decide +kernel
theorem dX12_would_55 : decode cX12_would 55 = .ok (.bipush 80, 2) := by decide +kernel
theorem dX12_would_57 : decode cX12_would 57 = .ok (.goto 25, 3) := by decide +kernel
theorem dX12_would_60 : decode cX12_would 60 = .ok (.iload_n 2, 1) := by decide +kernel
theorem dX12_would_61 : decode cX12_would 61 = .ok (.iconst 1, 1) := by decide +kernel
theorem dX12_would_62 : decode cX12_would 62 = .ok (.if_icmp .ne 8, 3) := by decide +kernel
theorem dX12_would_65 : decode cX12_would 65 = .ok (.bipush 60, 2) := by decide +kernel
theorem dX12_would_67 : decode cX12_would 67 = .ok (.goto 15, 3) := by decide +kernel
theorem dX12_would_70 : decode cX12_would 70 = .ok (.iload_n 2, 1) := by decide +kernel
theorem dX12_would_71 : decode cX12_would 71 = .ok (.iconst 3, 1) := by decide +kernel
theorem dX12_would_72 : decode cX12_would 72 = .ok (.if_icmp .ne 8, 3) := by decide +kernel
theorem dX12_would_75 : decode cX12_would 75 = .ok (.bipush 72, 2) := by decide +kernel
theorem dX12_would_77 : decode cX12_would 77 = .ok (.goto 5, 3) := by decide +kernel
theorem dX12_would_80 : decode cX12_would 80 = .ok (.bipush 76, 2) := by decide +kernel
theorem dX12_would_82 : decode cX12_would 82 = .ok (.invokevirtual 203, 3) := by decide +kernel
theorem dX12_would_85 : decode cX12_would 85 = .ok (.istore_n 3, 1) := by decide +kernel
theorem dX12_would_86 : decode cX12_would 86 = .ok (.aload_n 0, 1) := by decide +kernel
theorem dX12_would_87 : decode cX12_would 87 = .ok (.invokevirtual 207, 3) := by decide +kernel
theorem dX12_would_90 : decode cX12_would 90 = .ok (.iload_n 3, 1) := by decide +kernel
theorem dX12_would_91 : decode cX12_would 91 = .ok (.ireturn, 1) := by decide +kernel
theorem dX12_gainOf_0 : decode cX12_gainOf 0 = .ok (.aload_n 0, 1) := by decide +kernel
theorem dX12_gainOf_1 : decode cX12_gainOf 1 = .ok (.getfield 22, 3) := by decide +kernel
theorem dX12_gainOf_4 : decode cX12_gainOf 4 = .ok (.bipush 68, 2) := by decide +kernel
theorem dX12_gainOf_6 : decode cX12_gainOf 6 = .ok (.iload_n 1, 1) := by decide +kernel
theorem dX12_gainOf_7 : decode cX12_gainOf 7 = .ok (.iadd, 1) := by decide +kernel
theorem dX12_gainOf_8 : decode cX12_gainOf 8 = .ok (.iaload, 1) := by decide +kernel
theorem dX12_gainOf_9 : decode cX12_gainOf 9 = .ok (.aload_n 0, 1) := by decide +kernel
theorem dX12_gainOf_10 : decode cX12_gainOf 10 = .ok (.getfield 25, 3) := by decide +kernel
theorem dX12_gainOf_13 : decode cX12_gainOf 13 = .ok (.bipush 68, 2) := by decide +kernel
theorem dX12_gainOf_15 : decode cX12_gainOf 15 = .ok (.iload_n 1, 1) := by decide +kernel
theorem dX12_gainOf_16 : decode cX12_gainOf 16 = .ok (.iadd, 1) := by decide +kernel
theorem dX12_gainOf_17 : decode cX12_gainOf 17 = .ok (.iaload, 1) := by decide +kernel
theorem dX12_gainOf_18 : decode cX12_gainOf 18 = .ok (.isub, 1) := by decide +kernel
theorem dX12_gainOf_19 : decode cX12_gainOf 19 = .ok (.aload_n 0, 1) := by decide +kernel
theorem dX12_gainOf_20 : decode cX12_gainOf 20 = .ok (.getfield 22, 3) := by decide +kernel
theorem dX12_gainOf_23 : decode cX12_gainOf 23 = .ok (.bipush 80, 2) := by decide +kernel
theorem dX12_gainOf_25 : decode cX12_gainOf 25 = .ok (.iload_n 1, 1) := by decide +kernel
theorem dX12_gainOf_26 : decode cX12_gainOf 26 = .ok (.iadd, 1) := by decide +kernel
theorem dX12_gainOf_27 : decode cX12_gainOf 27 = .ok (.iaload, 1) := by decide +kernel
theorem dX12_gainOf_28 : decode cX12_gainOf 28 = .ok (.isub, 1) := by decide +kernel
theorem dX12_gainOf_29 : decode cX12_gainOf 29 = .ok (.aload_n 0, 1) := by decide +kernel
theorem dX12_gainOf_30 : decode cX12_gainOf 30 = .ok (.getfield 25, 3) := by decide +kernel
theorem dX12_gainOf_33 : decode cX12_gainOf 33 = .ok (.bipush 80, 2) := by decide +kernel
theorem dX12_gainOf_35 : decode cX12_gainOf 35 = .ok (.iload_n 1, 1) := by decide +kernel
theorem dX12_gainOf_36 : decode cX12_gainOf 36 = .ok (.iadd, 1) := by decide +kernel
theorem dX12_gainOf_37 : decode cX12_gainOf 37 = .ok (.iaload, 1) := by decide +kernel
theorem dX12_gainOf_38 : decode cX12_gainOf 38 = .ok (.iadd, 1) := by decide +kernel
theorem dX12_gainOf_39 : decode cX12_gainOf 39 = .ok (.ireturn, 1) := by decide +kernel
theorem dX12_gain_0 : decode cX12_gain 0 = .ok (.iload_n 1, 1) := by decide +kernel
theorem dX12_gain_1 : decode cX12_gain 1 = .ok (.invokestatic 79, 3) := by decide +kernel
theorem dX12_gain_4 : decode cX12_gain 4 = .ok (.ifCond .eq 13, 3) := by decide +kernel
theorem dX12_gain_7 : decode cX12_gain 7 = .ok (.iload_n 2, 1) := by decide +kernel
theorem dX12_gain_8 : decode cX12_gain 8 = .ok (.iconst 1, 1) := by decide +kernel
theorem dX12_gain_9 : decode cX12_gain 9 = .ok (.bipush 60, 2) := by decide +kernel
theorem dX12_gain_11 : decode cX12_gain 11 = .ok (.invokestatic 75, 3) := by decide +kernel
theorem dX12_gain_14 : decode cX12_gain 14 = .ok (.ifCond .ne 6, 3) := by decide +kernel
theorem dX12_gain_17 : decode cX12_gain 17 = .ok (.ldc 210, 2) := by decide +kernel
theorem dX12_gain_19 : decode cX12_gain 19 = .ok (.ireturn, 1) := by decide +kernel
theorem dX12_gain_20 : decode cX12_gain 20 = .ok (.aload_n 0, 1) := by decide +kernel
theorem dX12_gain_21 : decode cX12_gain 21 = .ok (.iload_n 2, 1) := by decide +kernel
theorem dX12_gain_22 : decode cX12_gain 22 = .ok (.invokevirtual 200, 3) := by decide +kernel
theorem dX12_gain_25 : decode cX12_gain 25 = .ok (.aload_n 0, 1) := by decide +kernel
theorem dX12_gain_26 : decode cX12_gain 26 = .ok (.iload_n 1, 1) := by decide +kernel
theorem dX12_gain_27 : decode cX12_gain 27 = .ok (.invokevirtual 211, 3) := by decide +kernel
theorem dX12_gain_30 : decode cX12_gain 30 = .ok (.istore_n 3, 1) := by decide +kernel
theorem dX12_gain_31 : decode cX12_gain 31 = .ok (.aload_n 0, 1) := by decide +kernel
theorem dX12_gain_32 : decode cX12_gain 32 = .ok (.invokevirtual 207, 3) := by decide +kernel
theorem dX12_gain_35 : decode cX12_gain 35 = .ok (.iload_n 3, 1) := by decide +kernel
theorem dX12_gain_36 : decode cX12_gain 36 = .ok (.ireturn, 1) := by decide +kernel
theorem dX12_best_0 : decode cX12_best 0 = .ok (.iload_n 1, 1) := by decide +kernel
theorem dX12_best_1 : decode cX12_best 1 = .ok (.iconst 1, 1) := by decide +kernel
theorem dX12_best_2 : decode cX12_best 2 = .ok (.bipush 60, 2) := by decide +kernel
theorem dX12_best_4 : decode cX12_best 4 = .ok (.invokestatic 75, 3) := by decide +kernel
theorem dX12_best_7 : decode cX12_best 7 = .ok (.ifCond .eq 12, 3) := by decide +kernel
theorem dX12_best_10 : decode cX12_best 10 = .ok (.iload_n 2, 1) := by decide +kernel
theorem dX12_best_11 : decode cX12_best 11 = .ok (.iconst 0, 1) := by decide +kernel
theorem dX12_best_12 : decode cX12_best 12 = .ok (.iconst 1, 1) := by decide +kernel
theorem dX12_best_13 : decode cX12_best 13 = .ok (.invokestatic 75, 3) := by decide +kernel
theorem dX12_best_16 : decode cX12_best 16 = .ok (.ifCond .ne 6, 3) := by decide +kernel
theorem dX12_best_19 : decode cX12_best 19 = .ok (.bipush (-3), 2) := by decide +kernel
theorem dX12_best_21 : decode cX12_best 21 = .ok (.ireturn, 1) := by decide +kernel
theorem dX12_best_22 : decode cX12_best 22 = .ok (.aload_n 0, 1) := by decide +kernel
theorem dX12_best_23 : decode cX12_best 23 = .ok (.invokevirtual 214, 3) := by decide +kernel
theorem dX12_best_26 : decode cX12_best 26 = .ok (.iconst (-1), 1) := by decide +kernel
theorem dX12_best_27 : decode cX12_best 27 = .ok (.istore_n 3, 1) := by decide +kernel
theorem dX12_best_28 : decode cX12_best 28 = .ok (.iconst 0, 1) := by decide +kernel
theorem dX12_best_29 : decode cX12_best 29 = .ok (.istore 4, 2) := by decide +kernel
theorem dX12_best_31 : decode cX12_best 31 = .ok (.iconst 0, 1) := by decide +kernel
theorem dX12_best_32 : decode cX12_best 32 = .ok (.istore 5, 2) := by decide +kernel
theorem dX12_best_34 : decode cX12_best 34 = .ok (.iload 5, 2) := by decide +kernel
theorem dX12_best_36 : decode cX12_best 36 = .ok (.bipush 36, 2) := by decide +kernel
theorem dX12_best_38 : decode cX12_best 38 = .ok (.if_icmp .ge 79, 3) := by decide +kernel
theorem dX12_best_41 : decode cX12_best 41 = .ok (.aload_n 0, 1) := by decide +kernel
theorem dX12_best_42 : decode cX12_best 42 = .ok (.getfield 41, 3) := by decide +kernel
theorem dX12_best_45 : decode cX12_best 45 = .ok (.iconst 0, 1) := by decide +kernel
theorem dX12_best_46 : decode cX12_best 46 = .ok (.iload 5, 2) := by decide +kernel
theorem dX12_best_48 : decode cX12_best 48 = .ok (.bipush 12, 2) := by decide +kernel
theorem dX12_best_50 : decode cX12_best 50 = .ok (.idiv, 1) := by decide +kernel
theorem dX12_best_51 : decode cX12_best 51 = .ok (.iastore, 1) := by decide +kernel
theorem dX12_best_52 : decode cX12_best 52 = .ok (.aload_n 0, 1) := by decide +kernel
theorem dX12_best_53 : decode cX12_best 53 = .ok (.getfield 41, 3) := by decide +kernel
theorem dX12_best_56 : decode cX12_best 56 = .ok (.iconst 1, 1) := by decide +kernel
theorem dX12_best_57 : decode cX12_best 57 = .ok (.iload 5, 2) := by decide +kernel
theorem dX12_best_59 : decode cX12_best 59 = .ok (.bipush 12, 2) := by decide +kernel
theorem dX12_best_61 : decode cX12_best 61 = .ok (.irem, 1) := by decide +kernel
theorem dX12_best_62 : decode cX12_best 62 = .ok (.iconst 3, 1) := by decide +kernel
theorem dX12_best_63 : decode cX12_best 63 = .ok (.idiv, 1) := by decide +kernel
theorem dX12_best_64 : decode cX12_best 64 = .ok (.iastore, 1) := by decide +kernel
theorem dX12_best_65 : decode cX12_best 65 = .ok (.aload_n 0, 1) := by decide +kernel
theorem dX12_best_66 : decode cX12_best 66 = .ok (.getfield 41, 3) := by decide +kernel
theorem dX12_best_69 : decode cX12_best 69 = .ok (.iconst 2, 1) := by decide +kernel
theorem dX12_best_70 : decode cX12_best 70 = .ok (.iload 5, 2) := by decide +kernel
theorem dX12_best_72 : decode cX12_best 72 = .ok (.iconst 3, 1) := by decide +kernel
theorem dX12_best_73 : decode cX12_best 73 = .ok (.irem, 1) := by decide +kernel
theorem dX12_best_74 : decode cX12_best 74 = .ok (.iastore, 1) := by decide +kernel
theorem dX12_best_75 : decode cX12_best 75 = .ok (.aload_n 0, 1) := by decide +kernel
theorem dX12_best_76 : decode cX12_best 76 = .ok (.iload_n 1, 1) := by decide +kernel
theorem dX12_best_77 : decode cX12_best 77 = .ok (.invokevirtual 200, 3) := by decide +kernel
theorem dX12_best_80 : decode cX12_best 80 = .ok (.aload_n 0, 1) := by decide +kernel
theorem dX12_best_81 : decode cX12_best 81 = .ok (.bipush 80, 2) := by decide +kernel
theorem dX12_best_83 : decode cX12_best 83 = .ok (.invokevirtual 203, 3) := by decide +kernel
theorem dX12_best_86 : decode cX12_best 86 = .ok (.istore 6, 2) := by decide +kernel
theorem dX12_best_88 : decode cX12_best 88 = .ok (.aload_n 0, 1) := by decide +kernel
theorem dX12_best_89 : decode cX12_best 89 = .ok (.invokevirtual 207, 3) := by decide +kernel
theorem dX12_best_92 : decode cX12_best 92 = .ok (.iload_n 3, 1) := by decide +kernel
theorem dX12_best_93 : decode cX12_best 93 = .ok (.iconst (-1), 1) := by decide +kernel
theorem dX12_best_94 : decode cX12_best 94 = .ok (.if_icmp .eq 10, 3) := by decide +kernel
theorem dX12_best_97 : decode cX12_best 97 = .ok (.iload 6, 2) := by decide +kernel
theorem dX12_best_99 : decode cX12_best 99 = .ok (.iload 4, 2) := by decide +kernel
theorem dX12_best_101 : decode cX12_best 101 = .ok (.if_icmp .ge 10, 3) := by decide +kernel
theorem dX12_best_104 : decode cX12_best 104 = .ok (.iload 5, 2) := by decide +kernel
theorem dX12_best_106 : decode cX12_best 106 = .ok (.istore_n 3, 1) := by decide +kernel
theorem dX12_best_107 : decode cX12_best 107 = .ok (.iload 6, 2) := by decide +kernel
theorem dX12_best_109 : decode cX12_best 109 = .ok (.istore 4, 2) := by decide +kernel
theorem dX12_best_111 : decode cX12_best 111 = .ok (.iinc 5 1, 3) := by decide +kernel
theorem dX12_best_114 : decode cX12_best 114 = .ok (.goto (-80), 3) := by decide +kernel
theorem dX12_best_117 : decode cX12_best 117 = .ok (.aload_n 0, 1) := by decide +kernel
theorem dX12_best_118 : decode cX12_best 118 = .ok (.invokevirtual 217, 3) := by decide +kernel
theorem dX12_best_121 : decode cX12_best 121 = .ok (.iload_n 2, 1) := by decide +kernel
theorem dX12_best_122 : decode cX12_best 122 = .ok (.ifCond .ne 7, 3) := by decide +kernel
theorem dX12_best_125 : decode cX12_best 125 = .ok (.iload_n 3, 1) := by decide +kernel
theorem dX12_best_126 : decode cX12_best 126 = .ok (.goto 5, 3) := by decide +kernel
theorem dX12_best_129 : decode cX12_best 129 = .ok (.iload 4, 2) := by decide +kernel
theorem dX12_best_131 : decode cX12_best 131 = .ok (.ireturn, 1) := by decide +kernel
theorem dX12_findGains_0 : decode cX12_findGains 0 = .ok (.aload_n 0, 1) := by decide +kernel
theorem dX12_findGains_1 : decode cX12_findGains 1 = .ok (.invokevirtual 214, 3) := by decide +kernel
theorem dX12_findGains_4 : decode cX12_findGains 4 = .ok (.iconst 0, 1) := by decide +kernel
theorem dX12_findGains_5 : decode cX12_findGains 5 = .ok (.istore_n 2, 1) := by decide +kernel
theorem dX12_findGains_6 : decode cX12_findGains 6 = .ok (.iload_n 2, 1) := by decide +kernel
theorem dX12_findGains_7 : decode cX12_findGains 7 = .ok (.sipush 625, 3) := by decide +kernel
theorem dX12_findGains_10 : decode cX12_findGains 10 = .ok (.if_icmp .ge 144, 3) := by decide +kernel
theorem dX12_findGains_13 : decode cX12_findGains 13 = .ok (.iload_n 2, 1) := by decide +kernel
theorem dX12_findGains_14 : decode cX12_findGains 14 = .ok (.istore_n 3, 1) := by decide +kernel
theorem dX12_findGains_15 : decode cX12_findGains 15 = .ok (.iconst 0, 1) := by decide +kernel
theorem dX12_findGains_16 : decode cX12_findGains 16 = .ok (.istore 4, 2) := by decide +kernel
theorem dX12_findGains_18 : decode cX12_findGains 18 = .ok (.iload 4, 2) := by decide +kernel
theorem dX12_findGains_20 : decode cX12_findGains 20 = .ok (.iconst 4, 1) := by decide +kernel
theorem dX12_findGains_21 : decode cX12_findGains 21 = .ok (.if_icmp .ge 86, 3) := by decide +kernel
theorem dX12_findGains_24 : decode cX12_findGains 24 = .ok (.iload_n 3, 1) := by decide +kernel
theorem dX12_findGains_25 : decode cX12_findGains 25 = .ok (.iconst 5, 1) := by decide +kernel
theorem dX12_findGains_26 : decode cX12_findGains 26 = .ok (.irem, 1) := by decide +kernel
theorem dX12_findGains_27 : decode cX12_findGains 27 = .ok (.istore 5, 2) := by decide +kernel
theorem dX12_findGains_29 : decode cX12_findGains 29 = .ok (.aload_n 0, 1) := by decide +kernel
theorem dX12_findGains_30 : decode cX12_findGains 30 = .ok (.getfield 41, 3) := by decide +kernel
theorem dX12_findGains_33 : decode cX12_findGains 33 = .ok (.iconst 4, 1) := by decide +kernel
theorem dX12_findGains_34 : decode cX12_findGains 34 = .ok (.iconst 3, 1) := by decide +kernel
theorem dX12_findGains_35 : decode cX12_findGains 35 = .ok (.iload 4, 2) := by decide +kernel
theorem dX12_findGains_37 : decode cX12_findGains 37 = .ok (.imul, 1) := by decide +kernel
theorem dX12_findGains_38 : decode cX12_findGains 38 = .ok (.iadd, 1) := by decide +kernel
theorem dX12_findGains_39 : decode cX12_findGains 39 = .ok (.iload 5, 2) := by decide +kernel
theorem dX12_findGains_41 : decode cX12_findGains 41 = .ok (.ifCond .ne 7, 3) := by decide +kernel
theorem dX12_findGains_44 : decode cX12_findGains 44 = .ok (.iconst 0, 1) := by decide +kernel
theorem dX12_findGains_45 : decode cX12_findGains 45 = .ok (.goto 4, 3) := by decide +kernel
theorem dX12_findGains_48 : decode cX12_findGains 48 = .ok (.iconst 1, 1) := by decide +kernel
theorem dX12_findGains_49 : decode cX12_findGains 49 = .ok (.iastore, 1) := by decide +kernel
theorem dX12_findGains_50 : decode cX12_findGains 50 = .ok (.aload_n 0, 1) := by decide +kernel
theorem dX12_findGains_51 : decode cX12_findGains 51 = .ok (.getfield 41, 3) := by decide +kernel
theorem dX12_findGains_54 : decode cX12_findGains 54 = .ok (.iconst 5, 1) := by decide +kernel
theorem dX12_findGains_55 : decode cX12_findGains 55 = .ok (.iconst 3, 1) := by decide +kernel
theorem dX12_findGains_56 : decode cX12_findGains 56 = .ok (.iload 4, 2) := by decide +kernel
theorem dX12_findGains_58 : decode cX12_findGains 58 = .ok (.imul, 1) := by decide +kernel
theorem dX12_findGains_59 : decode cX12_findGains 59 = .ok (.iadd, 1) := by decide +kernel
theorem dX12_findGains_60 : decode cX12_findGains 60 = .ok (.iload 5, 2) := by decide +kernel
theorem dX12_findGains_62 : decode cX12_findGains 62 = .ok (.ifCond .ne 7, 3) := by decide +kernel
theorem dX12_findGains_65 : decode cX12_findGains 65 = .ok (.iconst 0, 1) := by decide +kernel
theorem dX12_findGains_66 : decode cX12_findGains 66 = .ok (.goto 17, 3) := by decide +kernel
theorem dX12_findGains_69 : decode cX12_findGains 69 = .ok (.aload_n 0, 1) := by decide +kernel
theorem dX12_findGains_70 : decode cX12_findGains 70 = .ok (.getfield 7, 3) := by decide +kernel
theorem dX12_findGains_73 : decode cX12_findGains 73 = .ok (.iconst 4, 1) := by decide +kernel
theorem dX12_findGains_74 : decode cX12_findGains 74 = .ok (.iload 4, 2) := by decide +kernel
theorem dX12_findGains_76 : decode cX12_findGains 76 = .ok (.imul, 1) := by decide +kernel
theorem dX12_findGains_77 : decode cX12_findGains 77 = .ok (.iload 5, 2) := by decide +kernel
theorem dX12_findGains_79 : decode cX12_findGains 79 = .ok (.iadd, 1) := by decide +kernel
theorem dX12_findGains_80 : decode cX12_findGains 80 = .ok (.iconst 1, 1) := by decide +kernel
theorem dX12_findGains_81 : decode cX12_findGains 81 = .ok (.isub, 1) := by decide +kernel
theorem dX12_findGains_82 : decode cX12_findGains 82 = .ok (.iaload, 1) := by decide +kernel
theorem dX12_findGains_83 : decode cX12_findGains 83 = .ok (.iastore, 1) := by decide +kernel
theorem dX12_findGains_84 : decode cX12_findGains 84 = .ok (.aload_n 0, 1) := by decide +kernel
theorem dX12_findGains_85 : decode cX12_findGains 85 = .ok (.getfield 41, 3) := by decide +kernel
theorem dX12_findGains_88 : decode cX12_findGains 88 = .ok (.bipush 6, 2) := by decide +kernel
theorem dX12_findGains_90 : decode cX12_findGains 90 = .ok (.iconst 3, 1) := by decide +kernel
theorem dX12_findGains_91 : decode cX12_findGains 91 = .ok (.iload 4, 2) := by decide +kernel
theorem dX12_findGains_93 : decode cX12_findGains 93 = .ok (.imul, 1) := by decide +kernel
theorem dX12_findGains_94 : decode cX12_findGains 94 = .ok (.iadd, 1) := by decide +kernel
theorem dX12_findGains_95 : decode cX12_findGains 95 = .ok (.iconst 0, 1) := by decide +kernel
theorem dX12_findGains_96 : decode cX12_findGains 96 = .ok (.iastore, 1) := by decide +kernel
theorem dX12_findGains_97 : decode cX12_findGains 97 = .ok (.iload_n 3, 1) := by decide +kernel
theorem dX12_findGains_98 : decode cX12_findGains 98 = .ok (.iconst 5, 1) := by decide +kernel
theorem dX12_findGains_99 : decode cX12_findGains 99 = .ok (.idiv, 1) := by decide +kernel
theorem dX12_findGains_100 : decode cX12_findGains 100 = .ok (.istore_n 3, 1) := by decide +kernel
theorem dX12_findGains_101 : decode cX12_findGains 101 = .ok (.iinc 4 1, 3) := by decide +kernel
theorem dX12_findGains_104 : decode cX12_findGains 104 = .ok (.goto (-86), 3) := by decide +kernel
theorem dX12_findGains_107 : decode cX12_findGains 107 = .ok (.aload_n 0, 1) := by decide +kernel
theorem dX12_findGains_108 : decode cX12_findGains 108 = .ok (.iload_n 1, 1) := by decide +kernel
theorem dX12_findGains_109 : decode cX12_findGains 109 = .ok (.invokevirtual 200, 3) := by decide +kernel
theorem dX12_findGains_112 : decode cX12_findGains 112 = .ok (.iconst 0, 1) := by decide +kernel
theorem dX12_findGains_113 : decode cX12_findGains 113 = .ok (.istore 4, 2) := by decide +kernel
theorem dX12_findGains_115 : decode cX12_findGains 115 = .ok (.iload 4, 2) := by decide +kernel
theorem dX12_findGains_117 : decode cX12_findGains 117 = .ok (.iconst 4, 1) := by decide +kernel
theorem dX12_findGains_118 : decode cX12_findGains 118 = .ok (.if_icmp .ge 26, 3) := by decide +kernel
theorem dX12_findGains_121 : decode cX12_findGains 121 = .ok (.aload_n 0, 1) := by decide +kernel
theorem dX12_findGains_122 : decode cX12_findGains 122 = .ok (.getfield 47, 3) := by decide +kernel
theorem dX12_findGains_125 : decode cX12_findGains 125 = .ok (.iconst 4, 1) := by decide +kernel
theorem dX12_findGains_126 : decode cX12_findGains 126 = .ok (.iload_n 2, 1) := by decide +kernel
theorem dX12_findGains_127 : decode cX12_findGains 127 = .ok (.imul, 1) := by decide +kernel
theorem dX12_findGains_128 : decode cX12_findGains 128 = .ok (.iload 4, 2) := by decide +kernel
theorem dX12_findGains_130 : decode cX12_findGains 130 = .ok (.iadd, 1) := by decide +kernel
theorem dX12_findGains_131 : decode cX12_findGains 131 = .ok (.aload_n 0, 1) := by decide +kernel
theorem dX12_findGains_132 : decode cX12_findGains 132 = .ok (.iload 4, 2) := by decide +kernel
theorem dX12_findGains_134 : decode cX12_findGains 134 = .ok (.invokevirtual 211, 3) := by decide +kernel
theorem dX12_findGains_137 : decode cX12_findGains 137 = .ok (.iastore, 1) := by decide +kernel
theorem dX12_findGains_138 : decode cX12_findGains 138 = .ok (.iinc 4 1, 3) := by decide +kernel
theorem dX12_findGains_141 : decode cX12_findGains 141 = .ok (.goto (-26), 3) := by decide +kernel
theorem dX12_findGains_144 : decode cX12_findGains 144 = .ok (.aload_n 0, 1) := by decide +kernel
theorem dX12_findGains_145 : decode cX12_findGains 145 = .ok (.invokevirtual 207, 3) := by decide +kernel
theorem dX12_findGains_148 : decode cX12_findGains 148 = .ok (.iinc 2 1, 3) := by decide +kernel
theorem dX12_findGains_151 : decode cX12_findGains 151 = .ok (.goto (-145), 3) := by decide +kernel
theorem dX12_findGains_154 : decode cX12_findGains 154 = .ok (.aload_n 0, 1) := by decide +kernel
theorem dX12_findGains_155 : decode cX12_findGains 155 = .ok (.invokevirtual 217, 3) := by decide +kernel
theorem dX12_findGains_158 : decode cX12_findGains 158 = .ok (.return_, 1) := by decide +kernel
theorem dX12_isAtRest_0 : decode cX12_isAtRest 0 = .ok (.iconst 1, 1) := by decide +kernel
theorem dX12_isAtRest_1 : decode cX12_isAtRest 1 = .ok (.istore_n 2, 1) := by decide +kernel
theorem dX12_isAtRest_2 : decode cX12_isAtRest 2 = .ok (.iconst 1, 1) := by decide +kernel
theorem dX12_isAtRest_3 : decode cX12_isAtRest 3 = .ok (.istore_n 3, 1) := by decide +kernel
theorem dX12_isAtRest_4 : decode cX12_isAtRest 4 = .ok (.iconst 0, 1) := by decide +kernel
theorem dX12_isAtRest_5 : decode cX12_isAtRest 5 = .ok (.istore 4, 2) := by decide +kernel
theorem dX12_isAtRest_7 : decode cX12_isAtRest 7 = .ok (.iload 4, 2) := by decide +kernel
theorem dX12_isAtRest_9 : decode cX12_isAtRest 9 = .ok (.iconst 4, 1) := by decide +kernel
theorem dX12_isAtRest_10 : decode cX12_isAtRest 10 = .ok (.if_icmp .ge 80, 3) := by decide +kernel
theorem dX12_isAtRest_13 : decode cX12_isAtRest 13 = .ok (.iload_n 1, 1) := by decide +kernel
theorem dX12_isAtRest_14 : decode cX12_isAtRest 14 = .ok (.iload_n 1, 1) := by decide +kernel
theorem dX12_isAtRest_15 : decode cX12_isAtRest 15 = .ok (.iload_n 3, 1) := by decide +kernel
theorem dX12_isAtRest_16 : decode cX12_isAtRest 16 = .ok (.idiv, 1) := by decide +kernel
theorem dX12_isAtRest_17 : decode cX12_isAtRest 17 = .ok (.iconst 5, 1) := by decide +kernel
theorem dX12_isAtRest_18 : decode cX12_isAtRest 18 = .ok (.irem, 1) := by decide +kernel
theorem dX12_isAtRest_19 : decode cX12_isAtRest 19 = .ok (.iload_n 3, 1) := by decide +kernel
theorem dX12_isAtRest_20 : decode cX12_isAtRest 20 = .ok (.imul, 1) := by decide +kernel
theorem dX12_isAtRest_21 : decode cX12_isAtRest 21 = .ok (.isub, 1) := by decide +kernel
theorem dX12_isAtRest_22 : decode cX12_isAtRest 22 = .ok (.istore 5, 2) := by decide +kernel
theorem dX12_isAtRest_24 : decode cX12_isAtRest 24 = .ok (.iconst 0, 1) := by decide +kernel
theorem dX12_isAtRest_25 : decode cX12_isAtRest 25 = .ok (.istore 6, 2) := by decide +kernel
theorem dX12_isAtRest_27 : decode cX12_isAtRest 27 = .ok (.iload 6, 2) := by decide +kernel
theorem dX12_isAtRest_29 : decode cX12_isAtRest 29 = .ok (.iconst 5, 1) := by decide +kernel
theorem dX12_isAtRest_30 : decode cX12_isAtRest 30 = .ok (.if_icmp .ge 50, 3) := by decide +kernel
theorem dX12_isAtRest_33 : decode cX12_isAtRest 33 = .ok (.iload_n 2, 1) := by decide +kernel
theorem dX12_isAtRest_34 : decode cX12_isAtRest 34 = .ok (.ifCond .eq 38, 3) := by decide +kernel
theorem dX12_isAtRest_37 : decode cX12_isAtRest 37 = .ok (.aload_n 0, 1) := by decide +kernel
theorem dX12_isAtRest_38 : decode cX12_isAtRest 38 = .ok (.getfield 47, 3) := by decide +kernel
theorem dX12_isAtRest_41 : decode cX12_isAtRest 41 = .ok (.iconst 4, 1) := by decide +kernel
theorem dX12_isAtRest_42 : decode cX12_isAtRest 42 = .ok (.iload 5, 2) := by decide +kernel
theorem dX12_isAtRest_44 : decode cX12_isAtRest 44 = .ok (.iload 6, 2) := by decide +kernel
theorem dX12_isAtRest_46 : decode cX12_isAtRest 46 = .ok (.iload_n 3, 1) := by decide +kernel
theorem dX12_isAtRest_47 : decode cX12_isAtRest 47 = .ok (.imul, 1) := by decide +kernel
theorem dX12_isAtRest_48 : decode cX12_isAtRest 48 = .ok (.iadd, 1) := by decide +kernel
theorem dX12_isAtRest_49 : decode cX12_isAtRest 49 = .ok (.imul, 1) := by decide +kernel
theorem dX12_isAtRest_50 : decode cX12_isAtRest 50 = .ok (.iload 4, 2) := by decide +kernel
theorem dX12_isAtRest_52 : decode cX12_isAtRest 52 = .ok (.iadd, 1) := by decide +kernel
theorem dX12_isAtRest_53 : decode cX12_isAtRest 53 = .ok (.iaload, 1) := by decide +kernel
theorem dX12_isAtRest_54 : decode cX12_isAtRest 54 = .ok (.aload_n 0, 1) := by decide +kernel
theorem dX12_isAtRest_55 : decode cX12_isAtRest 55 = .ok (.getfield 47, 3) := by decide +kernel
theorem dX12_isAtRest_58 : decode cX12_isAtRest 58 = .ok (.iconst 4, 1) := by decide +kernel
theorem dX12_isAtRest_59 : decode cX12_isAtRest 59 = .ok (.iload_n 1, 1) := by decide +kernel
theorem dX12_isAtRest_60 : decode cX12_isAtRest 60 = .ok (.imul, 1) := by decide +kernel
theorem dX12_isAtRest_61 : decode cX12_isAtRest 61 = .ok (.iload 4, 2) := by decide +kernel
theorem dX12_isAtRest_63 : decode cX12_isAtRest 63 = .ok (.iadd, 1) := by decide +kernel
theorem dX12_isAtRest_64 : decode cX12_isAtRest 64 = .ok (.iaload, 1) := by decide +kernel
theorem dX12_isAtRest_65 : decode cX12_isAtRest 65 = .ok (.if_icmp .gt 7, 3) := by decide +kernel
theorem dX12_isAtRest_68 : decode cX12_isAtRest 68 = .ok (.iconst 1, 1) := by decide +kernel
theorem dX12_isAtRest_69 : decode cX12_isAtRest 69 = .ok (.goto 4, 3) := by decide +kernel
theorem dX12_isAtRest_72 : decode cX12_isAtRest 72 = .ok (.iconst 0, 1) := by decide +kernel
theorem dX12_isAtRest_73 : decode cX12_isAtRest 73 = .ok (.istore_n 2, 1) := by decide +kernel
theorem dX12_isAtRest_74 : decode cX12_isAtRest 74 = .ok (.iinc 6 1, 3) := by decide +kernel
theorem dX12_isAtRest_77 : decode cX12_isAtRest 77 = .ok (.goto (-50), 3) := by decide +kernel
theorem dX12_isAtRest_80 : decode cX12_isAtRest 80 = .ok (.iconst 5, 1) := by decide +kernel
theorem dX12_isAtRest_81 : decode cX12_isAtRest 81 = .ok (.iload_n 3, 1) := by decide +kernel
theorem dX12_isAtRest_82 : decode cX12_isAtRest 82 = .ok (.imul, 1) := by decide +kernel
theorem dX12_isAtRest_83 : decode cX12_isAtRest 83 = .ok (.istore_n 3, 1) := by decide +kernel
theorem dX12_isAtRest_84 : decode cX12_isAtRest 84 = .ok (.iinc 4 1, 3) := by decide +kernel
theorem dX12_isAtRest_87 : decode cX12_isAtRest 87 = .ok (.goto (-80), 3) := by decide +kernel
theorem dX12_isAtRest_90 : decode cX12_isAtRest 90 = .ok (.iload_n 2, 1) := by decide +kernel
theorem dX12_isAtRest_91 : decode cX12_isAtRest 91 = .ok (.ireturn, 1) := by decide +kernel
theorem dX12_rest_0 : decode cX12_rest 0 = .ok (.iload_n 1, 1) := by decide +kernel
theorem dX12_rest_1 : decode cX12_rest 1 = .ok (.iconst 1, 1) := by decide +kernel
theorem dX12_rest_2 : decode cX12_rest 2 = .ok (.bipush 40, 2) := by decide +kernel
theorem dX12_rest_4 : decode cX12_rest 4 = .ok (.invokestatic 75, 3) := by decide +kernel
theorem dX12_rest_7 : decode cX12_rest 7 = .ok (.ifCond .eq 8, 3) := by decide +kernel
theorem dX12_rest_10 : decode cX12_rest 10 = .ok (.iload_n 2, 1) := by decide +kernel
theorem dX12_rest_11 : decode cX12_rest 11 = .ok (.iconst (-1), 1) := by decide +kernel
theorem dX12_rest_12 : decode cX12_rest 12 = .ok (.if_icmp .ge 6, 3) := by decide +kernel
theorem dX12_rest_15 : decode cX12_rest 15 = .ok (.bipush (-3), 2) := by decide +kernel
theorem dX12_rest_17 : decode cX12_rest 17 = .ok (.ireturn, 1) := by decide +kernel
theorem dX12_rest_18 : decode cX12_rest 18 = .ok (.aload_n 0, 1) := by decide +kernel
theorem dX12_rest_19 : decode cX12_rest 19 = .ok (.iload_n 1, 1) := by decide +kernel
theorem dX12_rest_20 : decode cX12_rest 20 = .ok (.invokevirtual 220, 3) := by decide +kernel
theorem dX12_rest_23 : decode cX12_rest 23 = .ok (.iconst 0, 1) := by decide +kernel
theorem dX12_rest_24 : decode cX12_rest 24 = .ok (.istore_n 3, 1) := by decide +kernel
theorem dX12_rest_25 : decode cX12_rest 25 = .ok (.iconst 0, 1) := by decide +kernel
theorem dX12_rest_26 : decode cX12_rest 26 = .ok (.istore 4, 2) := by decide +kernel
theorem dX12_rest_28 : decode cX12_rest 28 = .ok (.iload 4, 2) := by decide +kernel
theorem dX12_rest_30 : decode cX12_rest 30 = .ok (.sipush 625, 3) := by decide +kernel
theorem dX12_rest_33 : decode cX12_rest 33 = .ok (.if_icmp .ge 29, 3) := by decide +kernel
theorem dX12_rest_36 : decode cX12_rest 36 = .ok (.aload_n 0, 1) := by decide +kernel
theorem dX12_rest_37 : decode cX12_rest 37 = .ok (.iload 4, 2) := by decide +kernel
theorem dX12_rest_39 : decode cX12_rest 39 = .ok (.invokevirtual 223, 3) := by decide +kernel
theorem dX12_rest_42 : decode cX12_rest 42 = .ok (.ifCond .eq 14, 3) := by decide +kernel
theorem dX12_rest_45 : decode cX12_rest 45 = .ok (.iload_n 3, 1) := by decide +kernel
theorem dX12_rest_46 : decode cX12_rest 46 = .ok (.iload_n 2, 1) := by decide +kernel
theorem dX12_rest_47 : decode cX12_rest 47 = .ok (.if_icmp .ne 6, 3) := by decide +kernel
theorem dX12_rest_50 : decode cX12_rest 50 = .ok (.iload 4, 2) := by decide +kernel
theorem dX12_rest_52 : decode cX12_rest 52 = .ok (.ireturn, 1) := by decide +kernel
theorem dX12_rest_53 : decode cX12_rest 53 = .ok (.iinc 3 1, 3) := by decide +kernel
theorem dX12_rest_56 : decode cX12_rest 56 = .ok (.iinc 4 1, 3) := by decide +kernel
theorem dX12_rest_59 : decode cX12_rest 59 = .ok (.goto (-31), 3) := by decide +kernel
theorem dX12_rest_62 : decode cX12_rest 62 = .ok (.iload_n 2, 1) := by decide +kernel
theorem dX12_rest_63 : decode cX12_rest 63 = .ok (.iconst (-1), 1) := by decide +kernel
theorem dX12_rest_64 : decode cX12_rest 64 = .ok (.if_icmp .ne 7, 3) := by decide +kernel
theorem dX12_rest_67 : decode cX12_rest 67 = .ok (.iload_n 3, 1) := by decide +kernel
theorem dX12_rest_68 : decode cX12_rest 68 = .ok (.goto 4, 3) := by decide +kernel
theorem dX12_rest_71 : decode cX12_rest 71 = .ok (.iconst (-1), 1) := by decide +kernel
theorem dX12_rest_72 : decode cX12_rest 72 = .ok (.ireturn, 1) := by decide +kernel
theorem dX12_divisor_0 : decode cX12_divisor 0 = .ok (.lload_n 0, 1) := by decide +kernel
theorem dX12_divisor_1 : decode cX12_divisor 1 = .ok (.lstore 4, 2) := by decide +kernel
theorem dX12_divisor_3 : decode cX12_divisor 3 = .ok (.lload_n 2, 1) := by decide +kernel
theorem dX12_divisor_4 : decode cX12_divisor 4 = .ok (.lstore 6, 2) := by decide +kernel
theorem dX12_divisor_6 : decode cX12_divisor 6 = .ok (.lload 6, 2) := by decide +kernel
theorem dX12_divisor_8 : decode cX12_divisor 8 = .ok (.lconst 0, 1) := by decide +kernel
theorem dX12_divisor_9 : decode cX12_divisor 9 = .ok (.lcmp, 1) := by decide +kernel
theorem dX12_divisor_10 : decode cX12_divisor 10 = .ok (.ifCond .eq 21, 3) := by decide +kernel
theorem dX12_divisor_13 : decode cX12_divisor 13 = .ok (.lload 4, 2) := by decide +kernel
theorem dX12_divisor_15 : decode cX12_divisor 15 = .ok (.lload 6, 2) := by decide +kernel
theorem dX12_divisor_17 : decode cX12_divisor 17 = .ok (.lrem, 1) := by decide +kernel
theorem dX12_divisor_18 : decode cX12_divisor 18 = .ok (.lstore 8, 2) := by decide +kernel
theorem dX12_divisor_20 : decode cX12_divisor 20 = .ok (.lload 6, 2) := by decide +kernel
theorem dX12_divisor_22 : decode cX12_divisor 22 = .ok (.lstore 4, 2) := by decide +kernel
theorem dX12_divisor_24 : decode cX12_divisor 24 = .ok (.lload 8, 2) := by decide +kernel
theorem dX12_divisor_26 : decode cX12_divisor 26 = .ok (.lstore 6, 2) := by decide +kernel
theorem dX12_divisor_28 : decode cX12_divisor 28 = .ok (.goto (-22), 3) := by decide +kernel
theorem dX12_divisor_31 : decode cX12_divisor 31 = .ok (.lload 4, 2) := by decide +kernel
theorem dX12_divisor_33 : decode cX12_divisor 33 = .ok (.lreturn, 1) := by decide +kernel
theorem dX12_part_0 : decode cX12_part 0 = .ok (.lload_n 1, 1) := by decide +kernel
theorem dX12_part_1 : decode cX12_part 1 = .ok (.lload_n 3, 1) := by decide +kernel
theorem dX12_part_2 : decode cX12_part 2 = .ok (.invokestatic 226, 3) := by decide +kernel
theorem dX12_part_5 : decode cX12_part 5 = .ok (.lstore 6, 2) := by decide +kernel
theorem dX12_part_7 : decode cX12_part 7 = .ok (.iload 5, 2) := by decide +kernel
theorem dX12_part_9 : decode cX12_part 9 = .ok (.ifCond .ne 7, 3) := by decide +kernel
theorem dX12_part_12 : decode cX12_part 12 = .ok (.lload_n 1, 1) := by decide +kernel
theorem dX12_part_13 : decode cX12_part 13 = .ok (.goto 4, 3) := by decide +kernel
theorem dX12_part_16 : decode cX12_part 16 = .ok (.lload_n 3, 1) := by decide +kernel
theorem dX12_part_17 : decode cX12_part 17 = .ok (.lload 6, 2) := by decide +kernel
theorem dX12_part_19 : decode cX12_part 19 = .ok (.ldiv, 1) := by decide +kernel
theorem dX12_part_20 : decode cX12_part 20 = .ok (.l2i, 1) := by decide +kernel
theorem dX12_part_21 : decode cX12_part 21 = .ok (.ireturn, 1) := by decide +kernel
theorem dX12_lotOf_0 : decode cX12_lotOf 0 = .ok (.iconst 0, 1) := by decide +kernel
theorem dX12_lotOf_1 : decode cX12_lotOf 1 = .ok (.istore 4, 2) := by decide +kernel
theorem dX12_lotOf_3 : decode cX12_lotOf 3 = .ok (.iload 4, 2) := by decide +kernel
theorem dX12_lotOf_5 : decode cX12_lotOf 5 = .ok (.iload_n 1, 1) := by decide +kernel
theorem dX12_lotOf_6 : decode cX12_lotOf 6 = .ok (.if_icmp .ge 195, 3) := by decide +kernel
theorem dX12_lotOf_9 : decode cX12_lotOf 9 = .ok (.aload_n 0, 1) := by decide +kernel
theorem dX12_lotOf_10 : decode cX12_lotOf 10 = .ok (.getfield 22, 3) := by decide +kernel
theorem dX12_lotOf_13 : decode cX12_lotOf 13 = .ok (.iconst 0, 1) := by decide +kernel
theorem dX12_lotOf_14 : decode cX12_lotOf 14 = .ok (.aload_n 0, 1) := by decide +kernel
theorem dX12_lotOf_15 : decode cX12_lotOf 15 = .ok (.getfield 28, 3) := by decide +kernel
theorem dX12_lotOf_18 : decode cX12_lotOf 18 = .ok (.aload_n 0, 1) := by decide +kernel
theorem dX12_lotOf_19 : decode cX12_lotOf 19 = .ok (.getfield 50, 3) := by decide +kernel
theorem dX12_lotOf_22 : decode cX12_lotOf 22 = .ok (.iload 4, 2) := by decide +kernel
theorem dX12_lotOf_24 : decode cX12_lotOf 24 = .ok (.iaload, 1) := by decide +kernel
theorem dX12_lotOf_25 : decode cX12_lotOf 25 = .ok (.iaload, 1) := by decide +kernel
theorem dX12_lotOf_26 : decode cX12_lotOf 26 = .ok (.iadd, 1) := by decide +kernel
theorem dX12_lotOf_27 : decode cX12_lotOf 27 = .ok (.iaload, 1) := by decide +kernel
theorem dX12_lotOf_28 : decode cX12_lotOf 28 = .ok (.istore 5, 2) := by decide +kernel
theorem dX12_lotOf_30 : decode cX12_lotOf 30 = .ok (.iconst (-1), 1) := by decide +kernel
theorem dX12_lotOf_31 : decode cX12_lotOf 31 = .ok (.istore 6, 2) := by decide +kernel
theorem dX12_lotOf_33 : decode cX12_lotOf 33 = .ok (.iconst 0, 1) := by decide +kernel
theorem dX12_lotOf_34 : decode cX12_lotOf 34 = .ok (.istore 7, 2) := by decide +kernel
theorem dX12_lotOf_36 : decode cX12_lotOf 36 = .ok (.iload 7, 2) := by decide +kernel
theorem dX12_lotOf_38 : decode cX12_lotOf 38 = .ok (.iload_n 3, 1) := by decide +kernel
theorem dX12_lotOf_39 : decode cX12_lotOf 39 = .ok (.if_icmp .ge 109, 3) := by decide +kernel
theorem dX12_lotOf_42 : decode cX12_lotOf 42 = .ok (.aload_n 0, 1) := by decide +kernel
theorem dX12_lotOf_43 : decode cX12_lotOf 43 = .ok (.getfield 53, 3) := by decide +kernel
theorem dX12_lotOf_46 : decode cX12_lotOf 46 = .ok (.iload 7, 2) := by decide +kernel
theorem dX12_lotOf_48 : decode cX12_lotOf 48 = .ok (.iaload, 1) := by decide +kernel
theorem dX12_lotOf_49 : decode cX12_lotOf 49 = .ok (.iconst (-1), 1) := by decide +kernel
theorem dX12_lotOf_50 : decode cX12_lotOf 50 = .ok (.if_icmp .eq 92, 3) := by decide +kernel
theorem dX12_lotOf_53 : decode cX12_lotOf 53 = .ok (.iload 6, 2) := by decide +kernel
theorem dX12_lotOf_55 : decode cX12_lotOf 55 = .ok (.iconst (-1), 1) := by decide +kernel
theorem dX12_lotOf_56 : decode cX12_lotOf 56 = .ok (.if_icmp .ne 7, 3) := by decide +kernel
theorem dX12_lotOf_59 : decode cX12_lotOf 59 = .ok (.iconst 0, 1) := by decide +kernel
theorem dX12_lotOf_60 : decode cX12_lotOf 60 = .ok (.goto 38, 3) := by decide +kernel
theorem dX12_lotOf_63 : decode cX12_lotOf 63 = .ok (.aload_n 0, 1) := by decide +kernel
theorem dX12_lotOf_64 : decode cX12_lotOf 64 = .ok (.getfield 7, 3) := by decide +kernel
theorem dX12_lotOf_67 : decode cX12_lotOf 67 = .ok (.iconst 4, 1) := by decide +kernel
theorem dX12_lotOf_68 : decode cX12_lotOf 68 = .ok (.iload 5, 2) := by decide +kernel
theorem dX12_lotOf_70 : decode cX12_lotOf 70 = .ok (.imul, 1) := by decide +kernel
theorem dX12_lotOf_71 : decode cX12_lotOf 71 = .ok (.aload_n 0, 1) := by decide +kernel
theorem dX12_lotOf_72 : decode cX12_lotOf 72 = .ok (.getfield 53, 3) := by decide +kernel
theorem dX12_lotOf_75 : decode cX12_lotOf 75 = .ok (.iload 7, 2) := by decide +kernel
theorem dX12_lotOf_77 : decode cX12_lotOf 77 = .ok (.iaload, 1) := by decide +kernel
theorem dX12_lotOf_78 : decode cX12_lotOf 78 = .ok (.iadd, 1) := by decide +kernel
theorem dX12_lotOf_79 : decode cX12_lotOf 79 = .ok (.iaload, 1) := by decide +kernel
theorem dX12_lotOf_80 : decode cX12_lotOf 80 = .ok (.aload_n 0, 1) := by decide +kernel
theorem dX12_lotOf_81 : decode cX12_lotOf 81 = .ok (.getfield 7, 3) := by decide +kernel
theorem dX12_lotOf_84 : decode cX12_lotOf 84 = .ok (.iconst 4, 1) := by decide +kernel
theorem dX12_lotOf_85 : decode cX12_lotOf 85 = .ok (.iload 5, 2) := by decide +kernel
theorem dX12_lotOf_87 : decode cX12_lotOf 87 = .ok (.imul, 1) := by decide +kernel
theorem dX12_lotOf_88 : decode cX12_lotOf 88 = .ok (.aload_n 0, 1) := by decide +kernel
theorem dX12_lotOf_89 : decode cX12_lotOf 89 = .ok (.getfield 53, 3) := by decide +kernel
theorem dX12_lotOf_92 : decode cX12_lotOf 92 = .ok (.iload 6, 2) := by decide +kernel
theorem dX12_lotOf_94 : decode cX12_lotOf 94 = .ok (.iaload, 1) := by decide +kernel
theorem dX12_lotOf_95 : decode cX12_lotOf 95 = .ok (.iadd, 1) := by decide +kernel
theorem dX12_lotOf_96 : decode cX12_lotOf 96 = .ok (.iaload, 1) := by decide +kernel
theorem dX12_lotOf_97 : decode cX12_lotOf 97 = .ok (.isub, 1) := by decide +kernel
theorem dX12_lotOf_98 : decode cX12_lotOf 98 = .ok (.istore 8, 2) := by decide +kernel
theorem dX12_lotOf_100 : decode cX12_lotOf 100 = .ok (.iload 6, 2) := by decide +kernel
theorem dX12_lotOf_102 : decode cX12_lotOf 102 = .ok (.iconst (-1), 1) := by decide +kernel
theorem dX12_lotOf_103 : decode cX12_lotOf 103 = .ok (.if_icmp .eq 30, 3) := by decide +kernel
theorem dX12_lotOf_106 : decode cX12_lotOf 106 = .ok (.iload 8, 2) := by decide +kernel
theorem dX12_lotOf_108 : decode cX12_lotOf 108 = .ok (.ifCond .gt 25, 3) := by decide +kernel
theorem dX12_lotOf_111 : decode cX12_lotOf 111 = .ok (.iload 8, 2) := by decide +kernel
theorem dX12_lotOf_113 : decode cX12_lotOf 113 = .ok (.ifCond .ne 25, 3) := by decide +kernel
theorem dX12_lotOf_116 : decode cX12_lotOf 116 = .ok (.aload_n 0, 1) := by decide +kernel
theorem dX12_lotOf_117 : decode cX12_lotOf 117 = .ok (.getfield 53, 3) := by decide +kernel
theorem dX12_lotOf_120 : decode cX12_lotOf 120 = .ok (.iload 7, 2) := by decide +kernel
theorem dX12_lotOf_122 : decode cX12_lotOf 122 = .ok (.iaload, 1) := by decide +kernel
theorem dX12_lotOf_123 : decode cX12_lotOf 123 = .ok (.aload_n 0, 1) := by decide +kernel
theorem dX12_lotOf_124 : decode cX12_lotOf 124 = .ok (.getfield 53, 3) := by decide +kernel
theorem dX12_lotOf_127 : decode cX12_lotOf 127 = .ok (.iload 6, 2) := by decide +kernel
theorem dX12_lotOf_129 : decode cX12_lotOf 129 = .ok (.iaload, 1) := by decide +kernel
theorem dX12_lotOf_130 : decode cX12_lotOf 130 = .ok (.if_icmp .ge 8, 3) := by decide +kernel
theorem dX12_lotOf_133 : decode cX12_lotOf 133 = .ok (.iload 7, 2) := by decide +kernel
theorem dX12_lotOf_135 : decode cX12_lotOf 135 = .ok (.goto 5, 3) := by decide +kernel
theorem dX12_lotOf_138 : decode cX12_lotOf 138 = .ok (.iload 6, 2) := by decide +kernel
theorem dX12_lotOf_140 : decode cX12_lotOf 140 = .ok (.istore 6, 2) := by decide +kernel
theorem dX12_lotOf_142 : decode cX12_lotOf 142 = .ok (.iinc 7 1, 3) := by decide +kernel
theorem dX12_lotOf_145 : decode cX12_lotOf 145 = .ok (.goto (-109), 3) := by decide +kernel
theorem dX12_lotOf_148 : decode cX12_lotOf 148 = .ok (.iload 6, 2) := by decide +kernel
theorem dX12_lotOf_150 : decode cX12_lotOf 150 = .ok (.iconst (-1), 1) := by decide +kernel
theorem dX12_lotOf_151 : decode cX12_lotOf 151 = .ok (.if_icmp .ne 7, 3) := by decide +kernel
theorem dX12_lotOf_154 : decode cX12_lotOf 154 = .ok (.iconst (-1), 1) := by decide +kernel
theorem dX12_lotOf_155 : decode cX12_lotOf 155 = .ok (.goto 10, 3) := by decide +kernel
theorem dX12_lotOf_158 : decode cX12_lotOf 158 = .ok (.aload_n 0, 1) := by decide +kernel
theorem dX12_lotOf_159 : decode cX12_lotOf 159 = .ok (.getfield 53, 3) := by decide +kernel
theorem dX12_lotOf_162 : decode cX12_lotOf 162 = .ok (.iload 6, 2) := by decide +kernel
theorem dX12_lotOf_164 : decode cX12_lotOf 164 = .ok (.iaload, 1) := by decide +kernel
theorem dX12_lotOf_165 : decode cX12_lotOf 165 = .ok (.istore 7, 2) := by decide +kernel
theorem dX12_lotOf_167 : decode cX12_lotOf 167 = .ok (.aload_n 0, 1) := by decide +kernel
theorem dX12_lotOf_168 : decode cX12_lotOf 168 = .ok (.getfield 50, 3) := by decide +kernel
theorem dX12_lotOf_171 : decode cX12_lotOf 171 = .ok (.iload 4, 2) := by decide +kernel
theorem dX12_lotOf_173 : decode cX12_lotOf 173 = .ok (.iaload, 1) := by decide +kernel
theorem dX12_lotOf_174 : decode cX12_lotOf 174 = .ok (.iload_n 2, 1) := by decide +kernel
theorem dX12_lotOf_175 : decode cX12_lotOf 175 = .ok (.if_icmp .ne 6, 3) := by decide +kernel
theorem dX12_lotOf_178 : decode cX12_lotOf 178 = .ok (.iload 7, 2) := by decide +kernel
theorem dX12_lotOf_180 : decode cX12_lotOf 180 = .ok (.ireturn, 1) := by decide +kernel
theorem dX12_lotOf_181 : decode cX12_lotOf 181 = .ok (.iload 6, 2) := by decide +kernel
theorem dX12_lotOf_183 : decode cX12_lotOf 183 = .ok (.iconst (-1), 1) := by decide +kernel
theorem dX12_lotOf_184 : decode cX12_lotOf 184 = .ok (.if_icmp .eq 11, 3) := by decide +kernel
theorem dX12_lotOf_187 : decode cX12_lotOf 187 = .ok (.aload_n 0, 1) := by decide +kernel
theorem dX12_lotOf_188 : decode cX12_lotOf 188 = .ok (.getfield 53, 3) := by decide +kernel
theorem dX12_lotOf_191 : decode cX12_lotOf 191 = .ok (.iload 6, 2) := by decide +kernel
theorem dX12_lotOf_193 : decode cX12_lotOf 193 = .ok (.iconst (-1), 1) := by decide +kernel
theorem dX12_lotOf_194 : decode cX12_lotOf 194 = .ok (.iastore, 1) := by decide +kernel
theorem dX12_lotOf_195 : decode cX12_lotOf 195 = .ok (.iinc 4 1, 3) := by decide +kernel
theorem dX12_lotOf_198 : decode cX12_lotOf 198 = .ok (.goto (-195), 3) := by decide +kernel
theorem dX12_lotOf_201 : decode cX12_lotOf 201 = .ok (.iconst (-1), 1) := by decide +kernel
theorem dX12_lotOf_202 : decode cX12_lotOf 202 = .ok (.ireturn, 1) := by decide +kernel
theorem dX12_lot_0 : decode cX12_lot 0 = .ok (.aload_n 0, 1) := by decide +kernel
theorem dX12_lot_1 : decode cX12_lot 1 = .ok (.getfield 22, 3) := by decide +kernel
theorem dX12_lot_4 : decode cX12_lot 4 = .ok (.bipush 84, 2) := by decide +kernel
theorem dX12_lot_6 : decode cX12_lot 6 = .ok (.iaload, 1) := by decide +kernel
theorem dX12_lot_7 : decode cX12_lot 7 = .ok (.bipush 6, 2) := by decide +kernel
theorem dX12_lot_9 : decode cX12_lot 9 = .ok (.if_icmp .le 8, 3) := by decide +kernel
theorem dX12_lot_12 : decode cX12_lot 12 = .ok (.bipush 6, 2) := by decide +kernel
theorem dX12_lot_14 : decode cX12_lot 14 = .ok (.goto 10, 3) := by decide +kernel
theorem dX12_lot_17 : decode cX12_lot 17 = .ok (.aload_n 0, 1) := by decide +kernel
theorem dX12_lot_18 : decode cX12_lot 18 = .ok (.getfield 22, 3) := by decide +kernel
theorem dX12_lot_21 : decode cX12_lot 21 = .ok (.bipush 84, 2) := by decide +kernel
theorem dX12_lot_23 : decode cX12_lot 23 = .ok (.iaload, 1) := by decide +kernel
theorem dX12_lot_24 : decode cX12_lot 24 = .ok (.istore 6, 2) := by decide +kernel
theorem dX12_lot_26 : decode cX12_lot 26 = .ok (.iload_n 1, 1) := by decide +kernel
theorem dX12_lot_27 : decode cX12_lot 27 = .ok (.iconst 0, 1) := by decide +kernel
theorem dX12_lot_28 : decode cX12_lot 28 = .ok (.iload 6, 2) := by decide +kernel
theorem dX12_lot_30 : decode cX12_lot 30 = .ok (.iconst 1, 1) := by decide +kernel
theorem dX12_lot_31 : decode cX12_lot 31 = .ok (.isub, 1) := by decide +kernel
theorem dX12_lot_32 : decode cX12_lot 32 = .ok (.invokestatic 75, 3) := by decide +kernel
theorem dX12_lot_35 : decode cX12_lot 35 = .ok (.ifCond .eq 13, 3) := by decide +kernel
theorem dX12_lot_38 : decode cX12_lot 38 = .ok (.iload 4, 2) := by decide +kernel
theorem dX12_lot_40 : decode cX12_lot 40 = .ok (.iconst (-1), 1) := by decide +kernel
theorem dX12_lot_41 : decode cX12_lot 41 = .ok (.iconst 3, 1) := by decide +kernel
theorem dX12_lot_42 : decode cX12_lot 42 = .ok (.invokestatic 75, 3) := by decide +kernel
theorem dX12_lot_45 : decode cX12_lot 45 = .ok (.ifCond .ne 6, 3) := by decide +kernel
theorem dX12_lot_48 : decode cX12_lot 48 = .ok (.bipush (-2), 2) := by decide +kernel
theorem dX12_lot_50 : decode cX12_lot 50 = .ok (.ireturn, 1) := by decide +kernel
theorem dX12_lot_51 : decode cX12_lot 51 = .ok (.iload_n 3, 1) := by decide +kernel
theorem dX12_lot_52 : decode cX12_lot 52 = .ok (.iconst 1, 1) := by decide +kernel
theorem dX12_lot_53 : decode cX12_lot 53 = .ok (.iconst 4, 1) := by decide +kernel
theorem dX12_lot_54 : decode cX12_lot 54 = .ok (.invokestatic 75, 3) := by decide +kernel
theorem dX12_lot_57 : decode cX12_lot 57 = .ok (.ifCond .eq 13, 3) := by decide +kernel
theorem dX12_lot_60 : decode cX12_lot 60 = .ok (.iload 5, 2) := by decide +kernel
theorem dX12_lot_62 : decode cX12_lot 62 = .ok (.iconst 0, 1) := by decide +kernel
theorem dX12_lot_63 : decode cX12_lot 63 = .ok (.iconst 1, 1) := by decide +kernel
theorem dX12_lot_64 : decode cX12_lot 64 = .ok (.invokestatic 75, 3) := by decide +kernel
theorem dX12_lot_67 : decode cX12_lot 67 = .ok (.ifCond .ne 6, 3) := by decide +kernel
theorem dX12_lot_70 : decode cX12_lot 70 = .ok (.bipush (-3), 2) := by decide +kernel
theorem dX12_lot_72 : decode cX12_lot 72 = .ok (.ireturn, 1) := by decide +kernel
theorem dX12_lot_73 : decode cX12_lot 73 = .ok (.aload_n 0, 1) := by decide +kernel
theorem dX12_lot_74 : decode cX12_lot 74 = .ok (.invokevirtual 98, 3) := by decide +kernel
theorem dX12_lot_77 : decode cX12_lot 77 = .ok (.lconst 0, 1) := by decide +kernel
theorem dX12_lot_78 : decode cX12_lot 78 = .ok (.lstore 7, 2) := by decide +kernel
theorem dX12_lot_80 : decode cX12_lot 80 = .ok (.lconst 0, 1) := by decide +kernel
theorem dX12_lot_81 : decode cX12_lot 81 = .ok (.lstore 9, 2) := by decide +kernel
theorem dX12_lot_83 : decode cX12_lot 83 = .ok (.iconst 0, 1) := by decide +kernel
theorem dX12_lot_84 : decode cX12_lot 84 = .ok (.istore 11, 2) := by decide +kernel
theorem dX12_lot_86 : decode cX12_lot 86 = .ok (.aload_n 0, 1) := by decide +kernel
theorem dX12_lot_87 : decode cX12_lot 87 = .ok (.getfield 50, 3) := by decide +kernel
theorem dX12_lot_90 : decode cX12_lot 90 = .ok (.iconst 0, 1) := by decide +kernel
theorem dX12_lot_91 : decode cX12_lot 91 = .ok (.iconst (-1), 1) := by decide +kernel
theorem dX12_lot_92 : decode cX12_lot 92 = .ok (.iastore, 1) := by decide +kernel
theorem dX12_lot_93 : decode cX12_lot 93 = .ok (.iload 11, 2) := by decide +kernel
theorem dX12_lot_95 : decode cX12_lot 95 = .ok (.ifCond .lt 191, 3) := by decide +kernel
theorem dX12_lot_98 : decode cX12_lot 98 = .ok (.aload_n 0, 1) := by decide +kernel
theorem dX12_lot_99 : decode cX12_lot 99 = .ok (.getfield 50, 3) := by decide +kernel
theorem dX12_lot_102 : decode cX12_lot 102 = .ok (.iload 11, 2) := by decide +kernel
theorem dX12_lot_104 : decode cX12_lot 104 = .ok (.dup2, 1) := by decide +kernel
theorem dX12_lot_105 : decode cX12_lot 105 = .ok (.iaload, 1) := by decide +kernel
theorem dX12_lot_106 : decode cX12_lot 106 = .ok (.iconst 1, 1) := by decide +kernel
theorem dX12_lot_107 : decode cX12_lot 107 = .ok (.iadd, 1) := by decide +kernel
theorem dX12_lot_108 : decode cX12_lot 108 = .ok (.iastore, 1) := by decide +kernel
theorem dX12_lot_109 : decode cX12_lot 109 = .ok (.iconst 1, 1) := by decide +kernel
theorem dX12_lot_110 : decode cX12_lot 110 = .ok (.istore 12, 2) := by decide +kernel
theorem dX12_lot_112 : decode cX12_lot 112 = .ok (.iconst 0, 1) := by decide +kernel
theorem dX12_lot_113 : decode cX12_lot 113 = .ok (.istore 13, 2) := by decide +kernel
theorem dX12_lot_115 : decode cX12_lot 115 = .ok (.iload 13, 2) := by decide +kernel
theorem dX12_lot_117 : decode cX12_lot 117 = .ok (.iload 11, 2) := by decide +kernel
theorem dX12_lot_119 : decode cX12_lot 119 = .ok (.if_icmp .ge 38, 3) := by decide +kernel
theorem dX12_lot_122 : decode cX12_lot 122 = .ok (.iload 12, 2) := by decide +kernel
theorem dX12_lot_124 : decode cX12_lot 124 = .ok (.ifCond .eq 24, 3) := by decide +kernel
theorem dX12_lot_127 : decode cX12_lot 127 = .ok (.aload_n 0, 1) := by decide +kernel
theorem dX12_lot_128 : decode cX12_lot 128 = .ok (.getfield 50, 3) := by decide +kernel
theorem dX12_lot_131 : decode cX12_lot 131 = .ok (.iload 13, 2) := by decide +kernel
theorem dX12_lot_133 : decode cX12_lot 133 = .ok (.iaload, 1) := by decide +kernel
theorem dX12_lot_134 : decode cX12_lot 134 = .ok (.aload_n 0, 1) := by decide +kernel
theorem dX12_lot_135 : decode cX12_lot 135 = .ok (.getfield 50, 3) := by decide +kernel
theorem dX12_lot_138 : decode cX12_lot 138 = .ok (.iload 11, 2) := by decide +kernel
theorem dX12_lot_140 : decode cX12_lot 140 = .ok (.iaload, 1) := by decide +kernel
theorem dX12_lot_141 : decode cX12_lot 141 = .ok (.if_icmp .eq 7, 3) := by decide +kernel
theorem dX12_lot_144 : decode cX12_lot 144 = .ok (.iconst 1, 1) := by decide +kernel
theorem dX12_lot_145 : decode cX12_lot 145 = .ok (.goto 4, 3) := by decide +kernel
theorem dX12_lot_148 : decode cX12_lot 148 = .ok (.iconst 0, 1) := by decide +kernel
theorem dX12_lot_149 : decode cX12_lot 149 = .ok (.istore 12, 2) := by decide +kernel
theorem dX12_lot_151 : decode cX12_lot 151 = .ok (.iinc 13 1, 3) := by decide +kernel
theorem dX12_lot_154 : decode cX12_lot 154 = .ok (.goto (-39), 3) := by decide +kernel
theorem dX12_lot_157 : decode cX12_lot 157 = .ok (.aload_n 0, 1) := by decide +kernel
theorem dX12_lot_158 : decode cX12_lot 158 = .ok (.getfield 50, 3) := by decide +kernel
theorem dX12_lot_161 : decode cX12_lot 161 = .ok (.iload 11, 2) := by decide +kernel
theorem dX12_lot_163 : decode cX12_lot 163 = .ok (.iaload, 1) := by decide +kernel
theorem dX12_lot_164 : decode cX12_lot 164 = .ok (.iload 6, 2) := by decide +kernel
theorem dX12_lot_166 : decode cX12_lot 166 = .ok (.if_icmp .ne 9, 3) := by decide +kernel
theorem dX12_lot_169 : decode cX12_lot 169 = .ok (.iinc 11 (-1), 3) := by decide +kernel
theorem dX12_lot_172 : decode cX12_lot 172 = .ok (.goto 111, 3) := by decide +kernel
theorem dX12_lot_175 : decode cX12_lot 175 = .ok (.iload 12, 2) := by decide +kernel
theorem dX12_lot_177 : decode cX12_lot 177 = .ok (.ifCond .eq 90, 3) := by decide +kernel
theorem dX12_lot_180 : decode cX12_lot 180 = .ok (.iload 11, 2) := by decide +kernel
theorem dX12_lot_182 : decode cX12_lot 182 = .ok (.iload 6, 2) := by decide +kernel
theorem dX12_lot_184 : decode cX12_lot 184 = .ok (.iconst 1, 1) := by decide +kernel
theorem dX12_lot_185 : decode cX12_lot 185 = .ok (.isub, 1) := by decide +kernel
theorem dX12_lot_186 : decode cX12_lot 186 = .ok (.if_icmp .ne 81, 3) := by decide +kernel
theorem dX12_lot_189 : decode cX12_lot 189 = .ok (.iconst 0, 1) := by decide +kernel
theorem dX12_lot_190 : decode cX12_lot 190 = .ok (.istore 13, 2) := by decide +kernel
theorem dX12_lot_192 : decode cX12_lot 192 = .ok (.iload 13, 2) := by decide +kernel
theorem dX12_lot_194 : decode cX12_lot 194 = .ok (.iload_n 3, 1) := by decide +kernel
theorem dX12_lot_195 : decode cX12_lot 195 = .ok (.if_icmp .ge 24, 3) := by decide +kernel
theorem dX12_lot_198 : decode cX12_lot 198 = .ok (.aload_n 0, 1) := by decide +kernel
theorem dX12_lot_199 : decode cX12_lot 199 = .ok (.getfield 53, 3) := by decide +kernel
theorem dX12_lot_202 : decode cX12_lot 202 = .ok (.iload 13, 2) := by decide +kernel
theorem dX12_lot_204 : decode cX12_lot 204 = .ok (.iload_n 2, 1) := by decide +kernel
theorem dX12_lot_205 : decode cX12_lot 205 = .ok (.iconst 2, 1) := by decide +kernel
theorem dX12_lot_206 : decode cX12_lot 206 = .ok (.iload 13, 2) := by decide +kernel
theorem dX12_lot_208 : decode cX12_lot 208 = .ok (.imul, 1) := by decide +kernel
theorem dX12_lot_209 : decode cX12_lot 209 = .ok (.ishr, 1) := by decide +kernel
theorem dX12_lot_210 : decode cX12_lot 210 = .ok (.iconst 3, 1) := by decide +kernel
theorem dX12_lot_211 : decode cX12_lot 211 = .ok (.iand, 1) := by decide +kernel
theorem dX12_lot_212 : decode cX12_lot 212 = .ok (.iastore, 1) := by decide +kernel
theorem dX12_lot_213 : decode cX12_lot 213 = .ok (.iinc 13 1, 3) := by decide +kernel
theorem dX12_lot_216 : decode cX12_lot 216 = .ok (.goto (-24), 3) := by decide +kernel
theorem dX12_lot_219 : decode cX12_lot 219 = .ok (.aload_n 0, 1) := by decide +kernel
theorem dX12_lot_220 : decode cX12_lot 220 = .ok (.iload 6, 2) := by decide +kernel
theorem dX12_lot_222 : decode cX12_lot 222 = .ok (.iload_n 1, 1) := by decide +kernel
theorem dX12_lot_223 : decode cX12_lot 223 = .ok (.iload_n 3, 1) := by decide +kernel
theorem dX12_lot_224 : decode cX12_lot 224 = .ok (.invokevirtual 230, 3) := by decide +kernel
theorem dX12_lot_227 : decode cX12_lot 227 = .ok (.istore 13, 2) := by decide +kernel
theorem dX12_lot_229 : decode cX12_lot 229 = .ok (.lload 7, 2) := by decide +kernel
theorem dX12_lot_231 : decode cX12_lot 231 = .ok (.lconst 1, 1) := by decide +kernel
theorem dX12_lot_232 : decode cX12_lot 232 = .ok (.ladd, 1) := by decide +kernel
theorem dX12_lot_233 : decode cX12_lot 233 = .ok (.lstore 7, 2) := by decide +kernel
theorem dX12_lot_235 : decode cX12_lot 235 = .ok (.lload 9, 2) := by decide +kernel
theorem dX12_lot_237 : decode cX12_lot 237 = .ok (.iload 13, 2) := by decide +kernel
theorem dX12_lot_239 : decode cX12_lot 239 = .ok (.iconst (-1), 1) := by decide +kernel
theorem dX12_lot_240 : decode cX12_lot 240 = .ok (.if_icmp .eq 20, 3) := by decide +kernel
theorem dX12_lot_243 : decode cX12_lot 243 = .ok (.iload 4, 2) := by decide +kernel
theorem dX12_lot_245 : decode cX12_lot 245 = .ok (.iconst (-1), 1) := by decide +kernel
theorem dX12_lot_246 : decode cX12_lot 246 = .ok (.if_icmp .eq 10, 3) := by decide +kernel
theorem dX12_lot_249 : decode cX12_lot 249 = .ok (.iload 13, 2) := by decide +kernel
theorem dX12_lot_251 : decode cX12_lot 251 = .ok (.iload 4, 2) := by decide +kernel
theorem dX12_lot_253 : decode cX12_lot 253 = .ok (.if_icmp .ne 7, 3) := by decide +kernel
theorem dX12_lot_256 : decode cX12_lot 256 = .ok (.lconst 1, 1) := by decide +kernel
theorem dX12_lot_257 : decode cX12_lot 257 = .ok (.goto 4, 3) := by decide +kernel
theorem dX12_lot_260 : decode cX12_lot 260 = .ok (.lconst 0, 1) := by decide +kernel
theorem dX12_lot_261 : decode cX12_lot 261 = .ok (.ladd, 1) := by decide +kernel
theorem dX12_lot_262 : decode cX12_lot 262 = .ok (.lstore 9, 2) := by decide +kernel
theorem dX12_lot_264 : decode cX12_lot 264 = .ok (.goto 19, 3) := by decide +kernel
theorem dX12_lot_267 : decode cX12_lot 267 = .ok (.iload 12, 2) := by decide +kernel
theorem dX12_lot_269 : decode cX12_lot 269 = .ok (.ifCond .eq 14, 3) := by decide +kernel
theorem dX12_lot_272 : decode cX12_lot 272 = .ok (.iinc 11 1, 3) := by decide +kernel
theorem dX12_lot_275 : decode cX12_lot 275 = .ok (.aload_n 0, 1) := by decide +kernel
theorem dX12_lot_276 : decode cX12_lot 276 = .ok (.getfield 50, 3) := by decide +kernel
theorem dX12_lot_279 : decode cX12_lot 279 = .ok (.iload 11, 2) := by decide +kernel
theorem dX12_lot_281 : decode cX12_lot 281 = .ok (.iconst (-1), 1) := by decide +kernel
theorem dX12_lot_282 : decode cX12_lot 282 = .ok (.iastore, 1) := by decide +kernel
theorem dX12_lot_283 : decode cX12_lot 283 = .ok (.goto (-190), 3) := by decide +kernel
theorem dX12_lot_286 : decode cX12_lot 286 = .ok (.aload_n 0, 1) := by decide +kernel
theorem dX12_lot_287 : decode cX12_lot 287 = .ok (.lload 9, 2) := by decide +kernel
theorem dX12_lot_289 : decode cX12_lot 289 = .ok (.lload 7, 2) := by decide +kernel
theorem dX12_lot_291 : decode cX12_lot 291 = .ok (.iload 5, 2) := by decide +kernel
theorem dX12_lot_293 : decode cX12_lot 293 = .ok (.invokevirtual 234, 3) := by decide +kernel
theorem dX12_lot_296 : decode cX12_lot 296 = .ok (.ireturn, 1) := by decide +kernel
theorem dX12_holder_0 : decode cX12_holder 0 = .ok (.iload_n 1, 1) := by decide +kernel
theorem dX12_holder_1 : decode cX12_holder 1 = .ok (.invokestatic 79, 3) := by decide +kernel
theorem dX12_holder_4 : decode cX12_holder 4 = .ok (.ifCond .eq 10, 3) := by decide +kernel
theorem dX12_holder_7 : decode cX12_holder 7 = .ok (.iload_n 2, 1) := by decide +kernel
theorem dX12_holder_8 : decode cX12_holder 8 = .ok (.invokestatic 79, 3) := by decide +kernel
theorem dX12_holder_11 : decode cX12_holder 11 = .ok (.ifCond .ne 6, 3) := by decide +kernel
theorem dX12_holder_14 : decode cX12_holder 14 = .ok (.bipush (-2), 2) := by decide +kernel
theorem dX12_holder_16 : decode cX12_holder 16 = .ok (.ireturn, 1) := by decide +kernel
theorem dX12_holder_17 : decode cX12_holder 17 = .ok (.aload_n 0, 1) := by decide +kernel
theorem dX12_holder_18 : decode cX12_holder 18 = .ok (.getfield 238, 3) := by decide +kernel
theorem dX12_holder_21 : decode cX12_holder 21 = .ok (.bipush 8, 2) := by decide +kernel
theorem dX12_holder_23 : decode cX12_holder 23 = .ok (.if_icmp .ne 6, 3) := by decide +kernel
theorem dX12_holder_26 : decode cX12_holder 26 = .ok (.bipush (-5), 2) := by decide +kernel
theorem dX12_holder_28 : decode cX12_holder 28 = .ok (.ireturn, 1) := by decide +kernel
theorem dX12_holder_29 : decode cX12_holder 29 = .ok (.aload_n 0, 1) := by decide +kernel
theorem dX12_holder_30 : decode cX12_holder 30 = .ok (.getfield 56, 3) := by decide +kernel
theorem dX12_holder_33 : decode cX12_holder 33 = .ok (.aload_n 0, 1) := by decide +kernel
theorem dX12_holder_34 : decode cX12_holder 34 = .ok (.getfield 238, 3) := by decide +kernel
theorem dX12_holder_37 : decode cX12_holder 37 = .ok (.iload_n 1, 1) := by decide +kernel
theorem dX12_holder_38 : decode cX12_holder 38 = .ok (.iastore, 1) := by decide +kernel
theorem dX12_holder_39 : decode cX12_holder 39 = .ok (.aload_n 0, 1) := by decide +kernel
theorem dX12_holder_40 : decode cX12_holder 40 = .ok (.getfield 59, 3) := by decide +kernel
theorem dX12_holder_43 : decode cX12_holder 43 = .ok (.aload_n 0, 1) := by decide +kernel
theorem dX12_holder_44 : decode cX12_holder 44 = .ok (.getfield 238, 3) := by decide +kernel
theorem dX12_holder_47 : decode cX12_holder 47 = .ok (.iload_n 2, 1) := by decide +kernel
theorem dX12_holder_48 : decode cX12_holder 48 = .ok (.iastore, 1) := by decide +kernel
theorem dX12_holder_49 : decode cX12_holder 49 = .ok (.aload_n 0, 1) := by decide +kernel
theorem dX12_holder_50 : decode cX12_holder 50 = .ok (.dup, 1) := by decide +kernel
theorem dX12_holder_51 : decode cX12_holder 51 = .ok (.getfield 238, 3) := by decide +kernel
theorem dX12_holder_54 : decode cX12_holder 54 = .ok (.iconst 1, 1) := by decide +kernel
theorem dX12_holder_55 : decode cX12_holder 55 = .ok (.iadd, 1) := by decide +kernel
theorem dX12_holder_56 : decode cX12_holder 56 = .ok (.putfield 238, 3) := by decide +kernel
theorem dX12_holder_59 : decode cX12_holder 59 = .ok (.aload_n 0, 1) := by decide +kernel
theorem dX12_holder_60 : decode cX12_holder 60 = .ok (.getfield 238, 3) := by decide +kernel
theorem dX12_holder_63 : decode cX12_holder 63 = .ok (.iconst 1, 1) := by decide +kernel
theorem dX12_holder_64 : decode cX12_holder 64 = .ok (.isub, 1) := by decide +kernel
theorem dX12_holder_65 : decode cX12_holder 65 = .ok (.ireturn, 1) := by decide +kernel
theorem dX12_worthTo_0 : decode cX12_worthTo 0 = .ok (.aload_n 0, 1) := by decide +kernel
theorem dX12_worthTo_1 : decode cX12_worthTo 1 = .ok (.getfield 7, 3) := by decide +kernel
theorem dX12_worthTo_4 : decode cX12_worthTo 4 = .ok (.iconst 4, 1) := by decide +kernel
theorem dX12_worthTo_5 : decode cX12_worthTo 5 = .ok (.aload_n 0, 1) := by decide +kernel
theorem dX12_worthTo_6 : decode cX12_worthTo 6 = .ok (.getfield 56, 3) := by decide +kernel
theorem dX12_worthTo_9 : decode cX12_worthTo 9 = .ok (.iload_n 1, 1) := by decide +kernel
theorem dX12_worthTo_10 : decode cX12_worthTo 10 = .ok (.iaload, 1) := by decide +kernel
theorem dX12_worthTo_11 : decode cX12_worthTo 11 = .ok (.imul, 1) := by decide +kernel
theorem dX12_worthTo_12 : decode cX12_worthTo 12 = .ok (.aload_n 0, 1) := by decide +kernel
theorem dX12_worthTo_13 : decode cX12_worthTo 13 = .ok (.getfield 59, 3) := by decide +kernel
theorem dX12_worthTo_16 : decode cX12_worthTo 16 = .ok (.iload_n 2, 1) := by decide +kernel
theorem dX12_worthTo_17 : decode cX12_worthTo 17 = .ok (.iaload, 1) := by decide +kernel
theorem dX12_worthTo_18 : decode cX12_worthTo 18 = .ok (.iadd, 1) := by decide +kernel
theorem dX12_worthTo_19 : decode cX12_worthTo 19 = .ok (.iaload, 1) := by decide +kernel
theorem dX12_worthTo_20 : decode cX12_worthTo 20 = .ok (.ireturn, 1) := by decide +kernel
theorem dX12_swapAll_0 : decode cX12_swapAll 0 = .ok (.iconst 1, 1) := by decide +kernel
theorem dX12_swapAll_1 : decode cX12_swapAll 1 = .ok (.aload_n 0, 1) := by decide +kernel
theorem dX12_swapAll_2 : decode cX12_swapAll 2 = .ok (.getfield 238, 3) := by decide +kernel
theorem dX12_swapAll_5 : decode cX12_swapAll 5 = .ok (.ishl, 1) := by decide +kernel
theorem dX12_swapAll_6 : decode cX12_swapAll 6 = .ok (.iconst 1, 1) := by decide +kernel
theorem dX12_swapAll_7 : decode cX12_swapAll 7 = .ok (.isub, 1) := by decide +kernel
theorem dX12_swapAll_8 : decode cX12_swapAll 8 = .ok (.istore_n 1, 1) := by decide +kernel
theorem dX12_swapAll_9 : decode cX12_swapAll 9 = .ok (.aload_n 0, 1) := by decide +kernel
theorem dX12_swapAll_10 : decode cX12_swapAll 10 = .ok (.iconst 0, 1) := by decide +kernel
theorem dX12_swapAll_11 : decode cX12_swapAll 11 = .ok (.putfield 241, 3) := by decide +kernel
theorem dX12_swapAll_14 : decode cX12_swapAll 14 = .ok (.iload_n 1, 1) := by decide +kernel
theorem dX12_swapAll_15 : decode cX12_swapAll 15 = .ok (.ifCond .eq 299, 3) := by decide +kernel
theorem dX12_swapAll_18 : decode cX12_swapAll 18 = .ok (.iconst 0, 1) := by decide +kernel
theorem dX12_swapAll_19 : decode cX12_swapAll 19 = .ok (.istore_n 2, 1) := by decide +kernel
theorem dX12_swapAll_20 : decode cX12_swapAll 20 = .ok (.iload_n 2, 1) := by decide +kernel
theorem dX12_swapAll_21 : decode cX12_swapAll 21 = .ok (.aload_n 0, 1) := by decide +kernel
theorem dX12_swapAll_22 : decode cX12_swapAll 22 = .ok (.getfield 238, 3) := by decide +kernel
theorem dX12_swapAll_25 : decode cX12_swapAll 25 = .ok (.if_icmp .ge 111, 3) := by decide +kernel
theorem dX12_swapAll_28 : decode cX12_swapAll 28 = .ok (.aload_n 0, 1) := by decide +kernel
theorem dX12_swapAll_29 : decode cX12_swapAll 29 = .ok (.getfield 62, 3) := by decide +kernel
theorem dX12_swapAll_32 : decode cX12_swapAll 32 = .ok (.iload_n 2, 1) := by decide +kernel
theorem dX12_swapAll_33 : decode cX12_swapAll 33 = .ok (.iconst (-1), 1) := by decide +kernel
theorem dX12_swapAll_34 : decode cX12_swapAll 34 = .ok (.iastore, 1) := by decide +kernel
theorem dX12_swapAll_35 : decode cX12_swapAll 35 = .ok (.iconst 0, 1) := by decide +kernel
theorem dX12_swapAll_36 : decode cX12_swapAll 36 = .ok (.istore_n 3, 1) := by decide +kernel
theorem dX12_swapAll_37 : decode cX12_swapAll 37 = .ok (.iload_n 3, 1) := by decide +kernel
theorem dX12_swapAll_38 : decode cX12_swapAll 38 = .ok (.aload_n 0, 1) := by decide +kernel
theorem dX12_swapAll_39 : decode cX12_swapAll 39 = .ok (.getfield 238, 3) := by decide +kernel
theorem dX12_swapAll_42 : decode cX12_swapAll 42 = .ok (.if_icmp .ge 88, 3) := by decide +kernel
theorem dX12_swapAll_45 : decode cX12_swapAll 45 = .ok (.iload_n 1, 1) := by decide +kernel
theorem dX12_swapAll_46 : decode cX12_swapAll 46 = .ok (.iload_n 2, 1) := by decide +kernel
theorem dX12_swapAll_47 : decode cX12_swapAll 47 = .ok (.ishr, 1) := by decide +kernel
theorem dX12_swapAll_48 : decode cX12_swapAll 48 = .ok (.iconst 1, 1) := by decide +kernel
theorem dX12_swapAll_49 : decode cX12_swapAll 49 = .ok (.iand, 1) := by decide +kernel
theorem dX12_swapAll_50 : decode cX12_swapAll 50 = .ok (.iconst 1, 1) := by decide +kernel
theorem dX12_swapAll_51 : decode cX12_swapAll 51 = .ok (.if_icmp .ne 79, 3) := by decide +kernel
theorem dX12_swapAll_54 : decode cX12_swapAll 54 = .ok (.iload_n 1, 1) := by decide +kernel
theorem dX12_swapAll_55 : decode cX12_swapAll 55 = .ok (.iload_n 3, 1) := by decide +kernel
theorem dX12_swapAll_56 : decode cX12_swapAll 56 = .ok (.ishr, 1) := by decide +kernel
theorem dX12_swapAll_57 : decode cX12_swapAll 57 = .ok (.iconst 1, 1) := by decide +kernel
theorem dX12_swapAll_58 : decode cX12_swapAll 58 = .ok (.iand, 1) := by decide +kernel
theorem dX12_swapAll_59 : decode cX12_swapAll 59 = .ok (.iconst 1, 1) := by decide +kernel
theorem dX12_swapAll_60 : decode cX12_swapAll 60 = .ok (.if_icmp .ne 64, 3) := by decide +kernel
theorem dX12_swapAll_63 : decode cX12_swapAll 63 = .ok (.aload_n 0, 1) := by decide +kernel
theorem dX12_swapAll_64 : decode cX12_swapAll 64 = .ok (.getfield 62, 3) := by decide +kernel
theorem dX12_swapAll_67 : decode cX12_swapAll 67 = .ok (.iload_n 2, 1) := by decide +kernel
theorem dX12_swapAll_68 : decode cX12_swapAll 68 = .ok (.iaload, 1) := by decide +kernel
theorem dX12_swapAll_69 : decode cX12_swapAll 69 = .ok (.istore 4, 2) := by decide +kernel
theorem dX12_swapAll_71 : decode cX12_swapAll 71 = .ok (.iload 4, 2) := by decide +kernel
theorem dX12_swapAll_73 : decode cX12_swapAll 73 = .ok (.iconst (-1), 1) := by decide +kernel
theorem dX12_swapAll_74 : decode cX12_swapAll 74 = .ok (.if_icmp .ne 7, 3) := by decide +kernel
theorem dX12_swapAll_77 : decode cX12_swapAll 77 = .ok (.iconst 1, 1) := by decide +kernel
theorem dX12_swapAll_78 : decode cX12_swapAll 78 = .ok (.goto 17, 3) := by decide +kernel
theorem dX12_swapAll_81 : decode cX12_swapAll 81 = .ok (.aload_n 0, 1) := by decide +kernel
theorem dX12_swapAll_82 : decode cX12_swapAll 82 = .ok (.iload_n 2, 1) := by decide +kernel
theorem dX12_swapAll_83 : decode cX12_swapAll 83 = .ok (.iload_n 3, 1) := by decide +kernel
theorem dX12_swapAll_84 : decode cX12_swapAll 84 = .ok (.invokevirtual 244, 3) := by decide +kernel
theorem dX12_swapAll_87 : decode cX12_swapAll 87 = .ok (.aload_n 0, 1) := by decide +kernel
theorem dX12_swapAll_88 : decode cX12_swapAll 88 = .ok (.iload_n 2, 1) := by decide +kernel
theorem dX12_swapAll_89 : decode cX12_swapAll 89 = .ok (.iload 4, 2) := by decide +kernel
theorem dX12_swapAll_91 : decode cX12_swapAll 91 = .ok (.invokevirtual 244, 3) := by decide +kernel
theorem dX12_swapAll_94 : decode cX12_swapAll 94 = .ok (.isub, 1) := by decide +kernel
theorem dX12_swapAll_95 : decode cX12_swapAll 95 = .ok (.istore 5, 2) := by decide +kernel
theorem dX12_swapAll_97 : decode cX12_swapAll 97 = .ok (.aload_n 0, 1) := by decide +kernel
theorem dX12_swapAll_98 : decode cX12_swapAll 98 = .ok (.getfield 62, 3) := by decide +kernel
theorem dX12_swapAll_101 : decode cX12_swapAll 101 = .ok (.iload_n 2, 1) := by decide +kernel
theorem dX12_swapAll_102 : decode cX12_swapAll 102 = .ok (.iload 5, 2) := by decide +kernel
theorem dX12_swapAll_104 : decode cX12_swapAll 104 = .ok (.ifCond .gt 13, 3) := by decide +kernel
theorem dX12_swapAll_107 : decode cX12_swapAll 107 = .ok (.iload 5, 2) := by decide +kernel
theorem dX12_swapAll_109 : decode cX12_swapAll 109 = .ok (.ifCond .ne 12, 3) := by decide +kernel
theorem dX12_swapAll_112 : decode cX12_swapAll 112 = .ok (.iload_n 3, 1) := by decide +kernel
theorem dX12_swapAll_113 : decode cX12_swapAll 113 = .ok (.iload_n 2, 1) := by decide +kernel
theorem dX12_swapAll_114 : decode cX12_swapAll 114 = .ok (.if_icmp .ne 7, 3) := by decide +kernel
theorem dX12_swapAll_117 : decode cX12_swapAll 117 = .ok (.iload_n 3, 1) := by decide +kernel
theorem dX12_swapAll_118 : decode cX12_swapAll 118 = .ok (.goto 5, 3) := by decide +kernel
theorem dX12_swapAll_121 : decode cX12_swapAll 121 = .ok (.iload 4, 2) := by decide +kernel
theorem dX12_swapAll_123 : decode cX12_swapAll 123 = .ok (.iastore, 1) := by decide +kernel
theorem dX12_swapAll_124 : decode cX12_swapAll 124 = .ok (.iinc 3 1, 3) := by decide +kernel
theorem dX12_swapAll_127 : decode cX12_swapAll 127 = .ok (.goto (-90), 3) := by decide +kernel
theorem dX12_swapAll_130 : decode cX12_swapAll 130 = .ok (.iinc 2 1, 3) := by decide +kernel
theorem dX12_swapAll_133 : decode cX12_swapAll 133 = .ok (.goto (-113), 3) := by decide +kernel
theorem dX12_swapAll_136 : decode cX12_swapAll 136 = .ok (.iconst 0, 1) := by decide +kernel
theorem dX12_swapAll_137 : decode cX12_swapAll 137 = .ok (.istore_n 2, 1) := by decide +kernel
theorem dX12_swapAll_138 : decode cX12_swapAll 138 = .ok (.iconst 0, 1) := by decide +kernel
theorem dX12_swapAll_139 : decode cX12_swapAll 139 = .ok (.istore_n 3, 1) := by decide +kernel
theorem dX12_swapAll_140 : decode cX12_swapAll 140 = .ok (.iload_n 3, 1) := by decide +kernel
theorem dX12_swapAll_141 : decode cX12_swapAll 141 = .ok (.aload_n 0, 1) := by decide +kernel
theorem dX12_swapAll_142 : decode cX12_swapAll 142 = .ok (.getfield 238, 3) := by decide +kernel
theorem dX12_swapAll_145 : decode cX12_swapAll 145 = .ok (.if_icmp .ge 114, 3) := by decide +kernel
theorem dX12_swapAll_148 : decode cX12_swapAll 148 = .ok (.iload_n 1, 1) := by decide +kernel
theorem dX12_swapAll_149 : decode cX12_swapAll 149 = .ok (.iload_n 3, 1) := by decide +kernel
theorem dX12_swapAll_150 : decode cX12_swapAll 150 = .ok (.ishr, 1) := by decide +kernel
theorem dX12_swapAll_151 : decode cX12_swapAll 151 = .ok (.iconst 1, 1) := by decide +kernel
theorem dX12_swapAll_152 : decode cX12_swapAll 152 = .ok (.iand, 1) := by decide +kernel
theorem dX12_swapAll_153 : decode cX12_swapAll 153 = .ok (.iconst 1, 1) := by decide +kernel
theorem dX12_swapAll_154 : decode cX12_swapAll 154 = .ok (.if_icmp .ne 99, 3) := by decide +kernel
theorem dX12_swapAll_157 : decode cX12_swapAll 157 = .ok (.iload_n 2, 1) := by decide +kernel
theorem dX12_swapAll_158 : decode cX12_swapAll 158 = .ok (.iload_n 3, 1) := by decide +kernel
theorem dX12_swapAll_159 : decode cX12_swapAll 159 = .ok (.ishr, 1) := by decide +kernel
theorem dX12_swapAll_160 : decode cX12_swapAll 160 = .ok (.iconst 1, 1) := by decide +kernel
theorem dX12_swapAll_161 : decode cX12_swapAll 161 = .ok (.iand, 1) := by decide +kernel
theorem dX12_swapAll_162 : decode cX12_swapAll 162 = .ok (.ifCond .ne 91, 3) := by decide +kernel
theorem dX12_swapAll_165 : decode cX12_swapAll 165 = .ok (.aload_n 0, 1) := by decide +kernel
theorem dX12_swapAll_166 : decode cX12_swapAll 166 = .ok (.getfield 62, 3) := by decide +kernel
theorem dX12_swapAll_169 : decode cX12_swapAll 169 = .ok (.iload_n 3, 1) := by decide +kernel
theorem dX12_swapAll_170 : decode cX12_swapAll 170 = .ok (.iaload, 1) := by decide +kernel
theorem dX12_swapAll_171 : decode cX12_swapAll 171 = .ok (.istore 4, 2) := by decide +kernel
theorem dX12_swapAll_173 : decode cX12_swapAll 173 = .ok (.iconst 1, 1) := by decide +kernel
theorem dX12_swapAll_174 : decode cX12_swapAll 174 = .ok (.iload_n 3, 1) := by decide +kernel
theorem dX12_swapAll_175 : decode cX12_swapAll 175 = .ok (.ishl, 1) := by decide +kernel
theorem dX12_swapAll_176 : decode cX12_swapAll 176 = .ok (.istore 5, 2) := by decide +kernel
theorem dX12_swapAll_178 : decode cX12_swapAll 178 = .ok (.iconst 0, 1) := by decide +kernel
theorem dX12_swapAll_179 : decode cX12_swapAll 179 = .ok (.istore 6, 2) := by decide +kernel
theorem dX12_swapAll_181 : decode cX12_swapAll 181 = .ok (.iload 6, 2) := by decide +kernel
theorem dX12_swapAll_183 : decode cX12_swapAll 183 = .ok (.aload_n 0, 1) := by decide +kernel
theorem dX12_swapAll_184 : decode cX12_swapAll 184 = .ok (.getfield 238, 3) := by decide +kernel
theorem dX12_swapAll_187 : decode cX12_swapAll 187 = .ok (.if_icmp .ge 33, 3) := by decide +kernel
theorem dX12_swapAll_190 : decode cX12_swapAll 190 = .ok (.iload 4, 2) := by decide +kernel
theorem dX12_swapAll_192 : decode cX12_swapAll 192 = .ok (.iload_n 3, 1) := by decide +kernel
theorem dX12_swapAll_193 : decode cX12_swapAll 193 = .ok (.if_icmp .eq 27, 3) := by decide +kernel
theorem dX12_swapAll_196 : decode cX12_swapAll 196 = .ok (.iload 5, 2) := by decide +kernel
theorem dX12_swapAll_198 : decode cX12_swapAll 198 = .ok (.iconst 1, 1) := by decide +kernel
theorem dX12_swapAll_199 : decode cX12_swapAll 199 = .ok (.iload 4, 2) := by decide +kernel
theorem dX12_swapAll_201 : decode cX12_swapAll 201 = .ok (.ishl, 1) := by decide +kernel
theorem dX12_swapAll_202 : decode cX12_swapAll 202 = .ok (.ior, 1) := by decide +kernel
theorem dX12_swapAll_203 : decode cX12_swapAll 203 = .ok (.istore 5, 2) := by decide +kernel
theorem dX12_swapAll_205 : decode cX12_swapAll 205 = .ok (.aload_n 0, 1) := by decide +kernel
theorem dX12_swapAll_206 : decode cX12_swapAll 206 = .ok (.getfield 62, 3) := by decide +kernel
theorem dX12_swapAll_209 : decode cX12_swapAll 209 = .ok (.iload 4, 2) := by decide +kernel
theorem dX12_swapAll_211 : decode cX12_swapAll 211 = .ok (.iaload, 1) := by decide +kernel
theorem dX12_swapAll_212 : decode cX12_swapAll 212 = .ok (.istore 4, 2) := by decide +kernel
theorem dX12_swapAll_214 : decode cX12_swapAll 214 = .ok (.iinc 6 1, 3) := by decide +kernel
theorem dX12_swapAll_217 : decode cX12_swapAll 217 = .ok (.goto (-36), 3) := by decide +kernel
theorem dX12_swapAll_220 : decode cX12_swapAll 220 = .ok (.iload 4, 2) := by decide +kernel
theorem dX12_swapAll_222 : decode cX12_swapAll 222 = .ok (.iload_n 3, 1) := by decide +kernel
theorem dX12_swapAll_223 : decode cX12_swapAll 223 = .ok (.if_icmp .ne 30, 3) := by decide +kernel
theorem dX12_swapAll_226 : decode cX12_swapAll 226 = .ok (.iload_n 2, 1) := by decide +kernel
theorem dX12_swapAll_227 : decode cX12_swapAll 227 = .ok (.iload 5, 2) := by decide +kernel
theorem dX12_swapAll_229 : decode cX12_swapAll 229 = .ok (.ior, 1) := by decide +kernel
theorem dX12_swapAll_230 : decode cX12_swapAll 230 = .ok (.istore_n 2, 1) := by decide +kernel
theorem dX12_swapAll_231 : decode cX12_swapAll 231 = .ok (.aload_n 0, 1) := by decide +kernel
theorem dX12_swapAll_232 : decode cX12_swapAll 232 = .ok (.dup, 1) := by decide +kernel
theorem dX12_swapAll_233 : decode cX12_swapAll 233 = .ok (.getfield 241, 3) := by decide +kernel
theorem dX12_swapAll_236 : decode cX12_swapAll 236 = .ok (.iload 5, 2) := by decide +kernel
theorem dX12_swapAll_238 : decode cX12_swapAll 238 = .ok (.iconst 1, 1) := by decide +kernel
theorem dX12_swapAll_239 : decode cX12_swapAll 239 = .ok (.iload_n 3, 1) := by decide +kernel
theorem dX12_swapAll_240 : decode cX12_swapAll 240 = .ok (.ishl, 1) := by decide +kernel
theorem dX12_swapAll_241 : decode cX12_swapAll 241 = .ok (.if_icmp .ne 7, 3) := by decide +kernel
theorem dX12_swapAll_244 : decode cX12_swapAll 244 = .ok (.iconst 0, 1) := by decide +kernel
theorem dX12_swapAll_245 : decode cX12_swapAll 245 = .ok (.goto 4, 3) := by decide +kernel
theorem dX12_swapAll_248 : decode cX12_swapAll 248 = .ok (.iconst 1, 1) := by decide +kernel
theorem dX12_swapAll_249 : decode cX12_swapAll 249 = .ok (.iadd, 1) := by decide +kernel
theorem dX12_swapAll_250 : decode cX12_swapAll 250 = .ok (.putfield 241, 3) := by decide +kernel
theorem dX12_swapAll_253 : decode cX12_swapAll 253 = .ok (.iinc 3 1, 3) := by decide +kernel
theorem dX12_swapAll_256 : decode cX12_swapAll 256 = .ok (.goto (-116), 3) := by decide +kernel
theorem dX12_swapAll_259 : decode cX12_swapAll 259 = .ok (.iconst 0, 1) := by decide +kernel
theorem dX12_swapAll_260 : decode cX12_swapAll 260 = .ok (.istore_n 3, 1) := by decide +kernel
theorem dX12_swapAll_261 : decode cX12_swapAll 261 = .ok (.iload_n 3, 1) := by decide +kernel
theorem dX12_swapAll_262 : decode cX12_swapAll 262 = .ok (.aload_n 0, 1) := by decide +kernel
theorem dX12_swapAll_263 : decode cX12_swapAll 263 = .ok (.getfield 238, 3) := by decide +kernel
theorem dX12_swapAll_266 : decode cX12_swapAll 266 = .ok (.if_icmp .ge 39, 3) := by decide +kernel
theorem dX12_swapAll_269 : decode cX12_swapAll 269 = .ok (.aload_n 0, 1) := by decide +kernel
theorem dX12_swapAll_270 : decode cX12_swapAll 270 = .ok (.getfield 65, 3) := by decide +kernel
theorem dX12_swapAll_273 : decode cX12_swapAll 273 = .ok (.iload_n 3, 1) := by decide +kernel
theorem dX12_swapAll_274 : decode cX12_swapAll 274 = .ok (.iload_n 2, 1) := by decide +kernel
theorem dX12_swapAll_275 : decode cX12_swapAll 275 = .ok (.iload_n 3, 1) := by decide +kernel
theorem dX12_swapAll_276 : decode cX12_swapAll 276 = .ok (.ishr, 1) := by decide +kernel
theorem dX12_swapAll_277 : decode cX12_swapAll 277 = .ok (.iconst 1, 1) := by decide +kernel
theorem dX12_swapAll_278 : decode cX12_swapAll 278 = .ok (.iand, 1) := by decide +kernel
theorem dX12_swapAll_279 : decode cX12_swapAll 279 = .ok (.iconst 1, 1) := by decide +kernel
theorem dX12_swapAll_280 : decode cX12_swapAll 280 = .ok (.if_icmp .ne 12, 3) := by decide +kernel
theorem dX12_swapAll_283 : decode cX12_swapAll 283 = .ok (.aload_n 0, 1) := by decide +kernel
theorem dX12_swapAll_284 : decode cX12_swapAll 284 = .ok (.getfield 62, 3) := by decide +kernel
theorem dX12_swapAll_287 : decode cX12_swapAll 287 = .ok (.iload_n 3, 1) := by decide +kernel
theorem dX12_swapAll_288 : decode cX12_swapAll 288 = .ok (.iaload, 1) := by decide +kernel
theorem dX12_swapAll_289 : decode cX12_swapAll 289 = .ok (.goto 9, 3) := by decide +kernel
theorem dX12_swapAll_292 : decode cX12_swapAll 292 = .ok (.aload_n 0, 1) := by decide +kernel
theorem dX12_swapAll_293 : decode cX12_swapAll 293 = .ok (.getfield 65, 3) := by decide +kernel
theorem dX12_swapAll_296 : decode cX12_swapAll 296 = .ok (.iload_n 3, 1) := by decide +kernel
theorem dX12_swapAll_297 : decode cX12_swapAll 297 = .ok (.iaload, 1) := by decide +kernel
theorem dX12_swapAll_298 : decode cX12_swapAll 298 = .ok (.iastore, 1) := by decide +kernel
theorem dX12_swapAll_299 : decode cX12_swapAll 299 = .ok (.iinc 3 1, 3) := by decide +kernel
theorem dX12_swapAll_302 : decode cX12_swapAll 302 = .ok (.goto (-41), 3) := by decide +kernel
theorem dX12_swapAll_305 : decode cX12_swapAll 305 = .ok (.iload_n 1, 1) := by decide +kernel
theorem dX12_swapAll_306 : decode cX12_swapAll 306 = .ok (.iload_n 2, 1) := by decide +kernel
theorem dX12_swapAll_307 : decode cX12_swapAll 307 = .ok (.iconst (-1), 1) := by decide +kernel
theorem dX12_swapAll_308 : decode cX12_swapAll 308 = .ok (.ixor, 1) := by decide +kernel
theorem dX12_swapAll_309 : decode cX12_swapAll 309 = .ok (.iand, 1) := by decide +kernel
theorem dX12_swapAll_310 : decode cX12_swapAll 310 = .ok (.istore_n 1, 1) := by decide +kernel
theorem dX12_swapAll_311 : decode cX12_swapAll 311 = .ok (.goto (-297), 3) := by decide +kernel
theorem dX12_swapAll_314 : decode cX12_swapAll 314 = .ok (.return_, 1) := by decide +kernel
theorem dX12_swaps_0 : decode cX12_swaps 0 = .ok (.iload_n 1, 1) := by decide +kernel
theorem dX12_swaps_1 : decode cX12_swaps 1 = .ok (.iconst 0, 1) := by decide +kernel
theorem dX12_swaps_2 : decode cX12_swaps 2 = .ok (.aload_n 0, 1) := by decide +kernel
theorem dX12_swaps_3 : decode cX12_swaps 3 = .ok (.getfield 238, 3) := by decide +kernel
theorem dX12_swaps_6 : decode cX12_swaps 6 = .ok (.iconst 1, 1) := by decide +kernel
theorem dX12_swaps_7 : decode cX12_swaps 7 = .ok (.isub, 1) := by decide +kernel
theorem dX12_swaps_8 : decode cX12_swaps 8 = .ok (.invokestatic 75, 3) := by decide +kernel
theorem dX12_swaps_11 : decode cX12_swaps 11 = .ok (.ifCond .ne 6, 3) := by decide +kernel
theorem dX12_swaps_14 : decode cX12_swaps 14 = .ok (.bipush (-2), 2) := by decide +kernel
theorem dX12_swaps_16 : decode cX12_swaps 16 = .ok (.ireturn, 1) := by decide +kernel
theorem dX12_swaps_17 : decode cX12_swaps 17 = .ok (.aload_n 0, 1) := by decide +kernel
theorem dX12_swaps_18 : decode cX12_swaps 18 = .ok (.invokevirtual 248, 3) := by decide +kernel
theorem dX12_swaps_21 : decode cX12_swaps 21 = .ok (.aload_n 0, 1) := by decide +kernel
theorem dX12_swaps_22 : decode cX12_swaps 22 = .ok (.getfield 65, 3) := by decide +kernel
theorem dX12_swaps_25 : decode cX12_swaps 25 = .ok (.iload_n 1, 1) := by decide +kernel
theorem dX12_swaps_26 : decode cX12_swaps 26 = .ok (.iaload, 1) := by decide +kernel
theorem dX12_swaps_27 : decode cX12_swaps 27 = .ok (.ireturn, 1) := by decide +kernel
theorem dX12_rings_0 : decode cX12_rings 0 = .ok (.aload_n 0, 1) := by decide +kernel
theorem dX12_rings_1 : decode cX12_rings 1 = .ok (.invokevirtual 248, 3) := by decide +kernel
theorem dX12_rings_4 : decode cX12_rings 4 = .ok (.aload_n 0, 1) := by decide +kernel
theorem dX12_rings_5 : decode cX12_rings 5 = .ok (.getfield 241, 3) := by decide +kernel
theorem dX12_rings_8 : decode cX12_rings 8 = .ok (.ireturn, 1) := by decide +kernel
theorem dX12_wouldGo_0 : decode cX12_wouldGo 0 = .ok (.aload_n 0, 1) := by decide +kernel
theorem dX12_wouldGo_1 : decode cX12_wouldGo 1 = .ok (.getfield 7, 3) := by decide +kernel
theorem dX12_wouldGo_4 : decode cX12_wouldGo 4 = .ok (.iconst 4, 1) := by decide +kernel
theorem dX12_wouldGo_5 : decode cX12_wouldGo 5 = .ok (.aload_n 0, 1) := by decide +kernel
theorem dX12_wouldGo_6 : decode cX12_wouldGo 6 = .ok (.getfield 56, 3) := by decide +kernel
theorem dX12_wouldGo_9 : decode cX12_wouldGo 9 = .ok (.iload_n 1, 1) := by decide +kernel
theorem dX12_wouldGo_10 : decode cX12_wouldGo 10 = .ok (.iaload, 1) := by decide +kernel
theorem dX12_wouldGo_11 : decode cX12_wouldGo 11 = .ok (.imul, 1) := by decide +kernel
theorem dX12_wouldGo_12 : decode cX12_wouldGo 12 = .ok (.iload_n 2, 1) := by decide +kernel
theorem dX12_wouldGo_13 : decode cX12_wouldGo 13 = .ok (.iadd, 1) := by decide +kernel
theorem dX12_wouldGo_14 : decode cX12_wouldGo 14 = .ok (.iaload, 1) := by decide +kernel
theorem dX12_wouldGo_15 : decode cX12_wouldGo 15 = .ok (.aload_n 0, 1) := by decide +kernel
theorem dX12_wouldGo_16 : decode cX12_wouldGo 16 = .ok (.getfield 7, 3) := by decide +kernel
theorem dX12_wouldGo_19 : decode cX12_wouldGo 19 = .ok (.iconst 4, 1) := by decide +kernel
theorem dX12_wouldGo_20 : decode cX12_wouldGo 20 = .ok (.aload_n 0, 1) := by decide +kernel
theorem dX12_wouldGo_21 : decode cX12_wouldGo 21 = .ok (.getfield 56, 3) := by decide +kernel
theorem dX12_wouldGo_24 : decode cX12_wouldGo 24 = .ok (.iload_n 1, 1) := by decide +kernel
theorem dX12_wouldGo_25 : decode cX12_wouldGo 25 = .ok (.iaload, 1) := by decide +kernel
theorem dX12_wouldGo_26 : decode cX12_wouldGo 26 = .ok (.imul, 1) := by decide +kernel
theorem dX12_wouldGo_27 : decode cX12_wouldGo 27 = .ok (.aload_n 0, 1) := by decide +kernel
theorem dX12_wouldGo_28 : decode cX12_wouldGo 28 = .ok (.getfield 59, 3) := by decide +kernel
theorem dX12_wouldGo_31 : decode cX12_wouldGo 31 = .ok (.iload_n 1, 1) := by decide +kernel
theorem dX12_wouldGo_32 : decode cX12_wouldGo 32 = .ok (.iaload, 1) := by decide +kernel
theorem dX12_wouldGo_33 : decode cX12_wouldGo 33 = .ok (.iadd, 1) := by decide +kernel
theorem dX12_wouldGo_34 : decode cX12_wouldGo 34 = .ok (.iaload, 1) := by decide +kernel
theorem dX12_wouldGo_35 : decode cX12_wouldGo 35 = .ok (.if_icmp .le 7, 3) := by decide +kernel
theorem dX12_wouldGo_38 : decode cX12_wouldGo 38 = .ok (.iconst 1, 1) := by decide +kernel
theorem dX12_wouldGo_39 : decode cX12_wouldGo 39 = .ok (.goto 4, 3) := by decide +kernel
theorem dX12_wouldGo_42 : decode cX12_wouldGo 42 = .ok (.iconst 0, 1) := by decide +kernel
theorem dX12_wouldGo_43 : decode cX12_wouldGo 43 = .ok (.ireturn, 1) := by decide +kernel
