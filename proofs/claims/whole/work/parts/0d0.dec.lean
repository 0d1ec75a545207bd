theorem dX0_init_0 : decode cX0_init 0 = .ok (.aload_n 0, 1) := by decide +kernel
theorem dX0_init_1 : decode cX0_init 1 = .ok (.invokespecial 3, 3) := by decide +kernel
theorem dX0_init_4 : decode cX0_init 4 = .ok (.aload_n 0, 1) := by decide +kernel
theorem dX0_init_5 : decode cX0_init 5 = .ok (.bipush 8, 2) := by decide +kernel
theorem dX0_init_7 : decode cX0_init 7 = .ok (.newarray .int, 2) := by decide +kernel
theorem dX0_init_9 : decode cX0_init 9 = .ok (.putfield 9, 3) := by decide +kernel
theorem dX0_init_12 : decode cX0_init 12 = .ok (.aload_n 0, 1) := by decide +kernel
theorem dX0_init_13 : decode cX0_init 13 = .ok (.bipush 8, 2) := by decide +kernel
theorem dX0_init_15 : decode cX0_init 15 = .ok (.newarray .int, 2) := by decide +kernel
theorem dX0_init_17 : decode cX0_init 17 = .ok (.putfield 15, 3) := by decide +kernel
theorem dX0_init_20 : decode cX0_init 20 = .ok (.aload_n 0, 1) := by decide +kernel
theorem dX0_init_21 : decode cX0_init 21 = .ok (.iconst 0, 1) := by decide +kernel
theorem dX0_init_22 : decode cX0_init 22 = .ok (.putfield 18, 3) := by decide +kernel
theorem dX0_init_25 : decode cX0_init 25 = .ok (.aload_n 0, 1) := by decide +kernel
theorem dX0_init_26 : decode cX0_init 26 = .ok (.aload_n 1, 1) := by decide +kernel
theorem dX0_init_27 : decode cX0_init 27 = .ok (.putfield 22, 3) := by decide +kernel
theorem dX0_init_30 : decode cX0_init 30 = .ok (.return_, 1) := by decide +kernel
theorem dX0_find_0 : decode cX0_find 0 = .ok (.aload_n 0, 1) := by decide +kernel
theorem dX0_find_1 : decode cX0_find 1 = .ok (.iconst 0, 1) := by decide +kernel
theorem dX0_find_2 : decode cX0_find 2 = .ok (.putfield 18, 3) := by decide +kernel
theorem dX0_find_5 : decode cX0_find 5 = .ok (.aload_n 0, 1) := by decide +kernel
theorem dX0_find_6 : decode cX0_find 6 = .ok (.iconst 0, 1) := by decide +kernel
theorem dX0_find_7 : decode cX0_find 7 = .ok (.iconst 0, 1) := by decide +kernel
theorem dX0_find_8 : decode cX0_find 8 = .ok (.iload_n 1, 1) := by decide +kernel
theorem dX0_find_9 : decode cX0_find 9 = .ok (.invokevirtual 26, 3) := by decide +kernel
theorem dX0_find_12 : decode cX0_find 12 = .ok (.return_, 1) := by decide +kernel
theorem dX0_goOn_0 : decode cX0_goOn 0 = .ok (.iload_n 1, 1) := by decide +kernel
theorem dX0_goOn_1 : decode cX0_goOn 1 = .ok (.aload_n 0, 1) := by decide +kernel
theorem dX0_goOn_2 : decode cX0_goOn 2 = .ok (.getfield 18, 3) := by decide +kernel
theorem dX0_goOn_5 : decode cX0_goOn 5 = .ok (.if_icmp .le 22, 3) := by decide +kernel
theorem dX0_goOn_8 : decode cX0_goOn 8 = .ok (.aload_n 0, 1) := by decide +kernel
theorem dX0_goOn_9 : decode cX0_goOn 9 = .ok (.iload_n 1, 1) := by decide +kernel
theorem dX0_goOn_10 : decode cX0_goOn 10 = .ok (.putfield 18, 3) := by decide +kernel
theorem dX0_goOn_13 : decode cX0_goOn 13 = .ok (.aload_n 0, 1) := by decide +kernel
theorem dX0_goOn_14 : decode cX0_goOn 14 = .ok (.getfield 9, 3) := by decide +kernel
theorem dX0_goOn_17 : decode cX0_goOn 17 = .ok (.iconst 0, 1) := by decide +kernel
theorem dX0_goOn_18 : decode cX0_goOn 18 = .ok (.aload_n 0, 1) := by decide +kernel
theorem dX0_goOn_19 : decode cX0_goOn 19 = .ok (.getfield 15, 3) := by decide +kernel
theorem dX0_goOn_22 : decode cX0_goOn 22 = .ok (.iconst 0, 1) := by decide +kernel
theorem dX0_goOn_23 : decode cX0_goOn 23 = .ok (.iload_n 1, 1) := by decide +kernel
theorem dX0_goOn_24 : decode cX0_goOn 24 = .ok (.invokestatic 30, 3) := by decide +kernel
theorem dX0_goOn_27 : decode cX0_goOn 27 = .ok (.iload_n 1, 1) := by decide +kernel
theorem dX0_goOn_28 : decode cX0_goOn 28 = .ok (.aload_n 0, 1) := by decide +kernel
theorem dX0_goOn_29 : decode cX0_goOn 29 = .ok (.getfield 22, 3) := by decide +kernel
theorem dX0_goOn_32 : decode cX0_goOn 32 = .ok (.getfield 36, 3) := by decide +kernel
theorem dX0_goOn_35 : decode cX0_goOn 35 = .ok (.if_icmp .lt 4, 3) := by decide +kernel
theorem dX0_goOn_38 : decode cX0_goOn 38 = .ok (.return_, 1) := by decide +kernel
theorem dX0_goOn_39 : decode cX0_goOn 39 = .ok (.iconst 0, 1) := by decide +kernel
theorem dX0_goOn_40 : decode cX0_goOn 40 = .ok (.istore 4, 2) := by decide +kernel
theorem dX0_goOn_42 : decode cX0_goOn 42 = .ok (.iload 4, 2) := by decide +kernel
theorem dX0_goOn_44 : decode cX0_goOn 44 = .ok (.aload_n 0, 1) := by decide +kernel
theorem dX0_goOn_45 : decode cX0_goOn 45 = .ok (.getfield 22, 3) := by decide +kernel
theorem dX0_goOn_48 : decode cX0_goOn 48 = .ok (.getfield 36, 3) := by decide +kernel
theorem dX0_goOn_51 : decode cX0_goOn 51 = .ok (.if_icmp .ge 92, 3) := by decide +kernel
theorem dX0_goOn_54 : decode cX0_goOn 54 = .ok (.aload_n 0, 1) := by decide +kernel
theorem dX0_goOn_55 : decode cX0_goOn 55 = .ok (.getfield 18, 3) := by decide +kernel
theorem dX0_goOn_58 : decode cX0_goOn 58 = .ok (.aload_n 0, 1) := by decide +kernel
theorem dX0_goOn_59 : decode cX0_goOn 59 = .ok (.getfield 22, 3) := by decide +kernel
theorem dX0_goOn_62 : decode cX0_goOn 62 = .ok (.getfield 36, 3) := by decide +kernel
theorem dX0_goOn_65 : decode cX0_goOn 65 = .ok (.if_icmp .ge 78, 3) := by decide +kernel
theorem dX0_goOn_68 : decode cX0_goOn 68 = .ok (.iload_n 2, 1) := by decide +kernel
theorem dX0_goOn_69 : decode cX0_goOn 69 = .ok (.iload 4, 2) := by decide +kernel
theorem dX0_goOn_71 : decode cX0_goOn 71 = .ok (.ishr, 1) := by decide +kernel
theorem dX0_goOn_72 : decode cX0_goOn 72 = .ok (.iconst 1, 1) := by decide +kernel
theorem dX0_goOn_73 : decode cX0_goOn 73 = .ok (.iand, 1) := by decide +kernel
theorem dX0_goOn_74 : decode cX0_goOn 74 = .ok (.ifCond .eq 6, 3) := by decide +kernel
theorem dX0_goOn_77 : decode cX0_goOn 77 = .ok (.goto 60, 3) := by decide +kernel
theorem dX0_goOn_80 : decode cX0_goOn 80 = .ok (.aload_n 0, 1) := by decide +kernel
theorem dX0_goOn_81 : decode cX0_goOn 81 = .ok (.getfield 22, 3) := by decide +kernel
theorem dX0_goOn_84 : decode cX0_goOn 84 = .ok (.iload 4, 2) := by decide +kernel
theorem dX0_goOn_86 : decode cX0_goOn 86 = .ok (.iload_n 3, 1) := by decide +kernel
theorem dX0_goOn_87 : decode cX0_goOn 87 = .ok (.aload_n 0, 1) := by decide +kernel
theorem dX0_goOn_88 : decode cX0_goOn 88 = .ok (.getfield 22, 3) := by decide +kernel
theorem dX0_goOn_91 : decode cX0_goOn 91 = .ok (.getfield 41, 3) := by decide +kernel
theorem dX0_goOn_94 : decode cX0_goOn 94 = .ok (.iload 4, 2) := by decide +kernel
theorem dX0_goOn_96 : decode cX0_goOn 96 = .ok (.iaload, 1) := by decide +kernel
theorem dX0_goOn_97 : decode cX0_goOn 97 = .ok (.invokevirtual 44, 3) := by decide +kernel
theorem dX0_goOn_100 : decode cX0_goOn 100 = .ok (.ifCond .ne 6, 3) := by decide +kernel
theorem dX0_goOn_103 : decode cX0_goOn 103 = .ok (.goto 34, 3) := by decide +kernel
theorem dX0_goOn_106 : decode cX0_goOn 106 = .ok (.aload_n 0, 1) := by decide +kernel
theorem dX0_goOn_107 : decode cX0_goOn 107 = .ok (.getfield 9, 3) := by decide +kernel
theorem dX0_goOn_110 : decode cX0_goOn 110 = .ok (.iload_n 1, 1) := by decide +kernel
theorem dX0_goOn_111 : decode cX0_goOn 111 = .ok (.iload 4, 2) := by decide +kernel
theorem dX0_goOn_113 : decode cX0_goOn 113 = .ok (.iastore, 1) := by decide +kernel
theorem dX0_goOn_114 : decode cX0_goOn 114 = .ok (.aload_n 0, 1) := by decide +kernel
theorem dX0_goOn_115 : decode cX0_goOn 115 = .ok (.iload_n 1, 1) := by decide +kernel
theorem dX0_goOn_116 : decode cX0_goOn 116 = .ok (.iconst 1, 1) := by decide +kernel
theorem dX0_goOn_117 : decode cX0_goOn 117 = .ok (.iadd, 1) := by decide +kernel
theorem dX0_goOn_118 : decode cX0_goOn 118 = .ok (.iload_n 2, 1) := by decide +kernel
theorem dX0_goOn_119 : decode cX0_goOn 119 = .ok (.iconst 1, 1) := by decide +kernel
theorem dX0_goOn_120 : decode cX0_goOn 120 = .ok (.iload 4, 2) := by decide +kernel
theorem dX0_goOn_122 : decode cX0_goOn 122 = .ok (.ishl, 1) := by decide +kernel
theorem dX0_goOn_123 : decode cX0_goOn 123 = .ok (.ior, 1) := by decide +kernel
theorem dX0_goOn_124 : decode cX0_goOn 124 = .ok (.aload_n 0, 1) := by decide +kernel
theorem dX0_goOn_125 : decode cX0_goOn 125 = .ok (.getfield 22, 3) := by decide +kernel
theorem dX0_goOn_128 : decode cX0_goOn 128 = .ok (.getfield 41, 3) := by decide +kernel
theorem dX0_goOn_131 : decode cX0_goOn 131 = .ok (.iload 4, 2) := by decide +kernel
theorem dX0_goOn_133 : decode cX0_goOn 133 = .ok (.iaload, 1) := by decide +kernel
theorem dX0_goOn_134 : decode cX0_goOn 134 = .ok (.invokevirtual 26, 3) := by decide +kernel
theorem dX0_goOn_137 : decode cX0_goOn 137 = .ok (.iinc 4 1, 3) := by decide +kernel
theorem dX0_goOn_140 : decode cX0_goOn 140 = .ok (.goto (-98), 3) := by decide +kernel
theorem dX0_goOn_143 : decode cX0_goOn 143 = .ok (.return_, 1) := by decide +kernel
theorem dX1_init_0 : decode cX1_init 0 = .ok (.aload_n 0, 1) := by decide +kernel
theorem dX1_init_1 : decode cX1_init 1 = .ok (.invokespecial 3, 3) := by decide +kernel
theorem dX1_init_4 : decode cX1_init 4 = .ok (.aload_n 0, 1) := by decide +kernel
theorem dX1_init_5 : decode cX1_init 5 = .ok (.bipush 12, 2) := by decide +kernel
theorem dX1_init_7 : decode cX1_init 7 = .ok (.anewarray 9, 3) := by decide +kernel
theorem dX1_init_10 : decode cX1_init 10 = .ok (.putfield 11, 3) := by decide +kernel
theorem dX1_init_13 : decode cX1_init 13 = .ok (.aload_n 0, 1) := by decide +kernel
theorem dX1_init_14 : decode cX1_init 14 = .ok (.iconst 0, 1) := by decide +kernel
theorem dX1_init_15 : decode cX1_init 15 = .ok (.putfield 17, 3) := by decide +kernel
theorem dX1_init_18 : decode cX1_init 18 = .ok (.aload_n 0, 1) := by decide +kernel
theorem dX1_init_19 : decode cX1_init 19 = .ok (.iconst 0, 1) := by decide +kernel
theorem dX1_init_20 : decode cX1_init 20 = .ok (.putfield 21, 3) := by decide +kernel
theorem dX1_init_23 : decode cX1_init 23 = .ok (.aload_n 0, 1) := by decide +kernel
theorem dX1_init_24 : decode cX1_init 24 = .ok (.iconst 0, 1) := by decide +kernel
theorem dX1_init_25 : decode cX1_init 25 = .ok (.putfield 24, 3) := by decide +kernel
theorem dX1_init_28 : decode cX1_init 28 = .ok (.aload_n 0, 1) := by decide +kernel
theorem dX1_init_29 : decode cX1_init 29 = .ok (.iconst 0, 1) := by decide +kernel
theorem dX1_init_30 : decode cX1_init 30 = .ok (.putfield 27, 3) := by decide +kernel
theorem dX1_init_33 : decode cX1_init 33 = .ok (.aload_n 0, 1) := by decide +kernel
theorem dX1_init_34 : decode cX1_init 34 = .ok (.bipush 6, 2) := by decide +kernel
theorem dX1_init_36 : decode cX1_init 36 = .ok (.iconst 4, 1) := by decide +kernel
theorem dX1_init_37 : decode cX1_init 37 = .ok (.multianewarray 30 2, 4) := by decide +kernel
theorem dX1_init_41 : decode cX1_init 41 = .ok (.putfield 32, 3) := by decide +kernel
theorem dX1_init_44 : decode cX1_init 44 = .ok (.aload_n 0, 1) := by decide +kernel
theorem dX1_init_45 : decode cX1_init 45 = .ok (.aload_n 1, 1) := by decide +kernel
theorem dX1_init_46 : decode cX1_init 46 = .ok (.putfield 35, 3) := by decide +kernel
theorem dX1_init_49 : decode cX1_init 49 = .ok (.iconst 0, 1) := by decide +kernel
theorem dX1_init_50 : decode cX1_init 50 = .ok (.istore_n 2, 1) := by decide +kernel
theorem dX1_init_51 : decode cX1_init 51 = .ok (.iload_n 2, 1) := by decide +kernel
theorem dX1_init_52 : decode cX1_init 52 = .ok (.bipush 12, 2) := by decide +kernel
theorem dX1_init_54 : decode cX1_init 54 = .ok (.if_icmp .ge 22, 3) := by decide +kernel
theorem dX1_init_57 : decode cX1_init 57 = .ok (.aload_n 0, 1) := by decide +kernel
theorem dX1_init_58 : decode cX1_init 58 = .ok (.getfield 11, 3) := by decide +kernel
theorem dX1_init_61 : decode cX1_init 61 = .ok (.iload_n 2, 1) := by decide +kernel
theorem dX1_init_62 : decode cX1_init 62 = .ok (.new 9, 3) := by decide +kernel
theorem dX1_init_65 : decode cX1_init 65 = .ok (.dup, 1) := by decide +kernel
theorem dX1_init_66 : decode cX1_init 66 = .ok (.invokespecial 39, 3) := by decide +kernel
theorem dX1_init_69 : decode cX1_init 69 = .ok (.aastore, 1) := by decide +kernel
theorem dX1_init_70 : decode cX1_init 70 = .ok (.iinc 2 1, 3) := by decide +kernel
theorem dX1_init_73 : decode cX1_init 73 = .ok (.goto (-22), 3) := by decide +kernel
theorem dX1_init_76 : decode cX1_init 76 = .ok (.return_, 1) := by decide +kernel
theorem dX1_beginLike_0 : decode cX1_beginLike 0 = .ok (.aload_n 0, 1) := by decide +kernel
theorem dX1_beginLike_1 : decode cX1_beginLike 1 = .ok (.aload_n 1, 1) := by decide +kernel
theorem dX1_beginLike_2 : decode cX1_beginLike 2 = .ok (.getfield 17, 3) := by decide +kernel
theorem dX1_beginLike_5 : decode cX1_beginLike 5 = .ok (.putfield 17, 3) := by decide +kernel
theorem dX1_beginLike_8 : decode cX1_beginLike 8 = .ok (.aload_n 0, 1) := by decide +kernel
theorem dX1_beginLike_9 : decode cX1_beginLike 9 = .ok (.aload_n 1, 1) := by decide +kernel
theorem dX1_beginLike_10 : decode cX1_beginLike 10 = .ok (.getfield 21, 3) := by decide +kernel
theorem dX1_beginLike_13 : decode cX1_beginLike 13 = .ok (.putfield 21, 3) := by decide +kernel
theorem dX1_beginLike_16 : decode cX1_beginLike 16 = .ok (.aload_n 0, 1) := by decide +kernel
theorem dX1_beginLike_17 : decode cX1_beginLike 17 = .ok (.aload_n 1, 1) := by decide +kernel
theorem dX1_beginLike_18 : decode cX1_beginLike 18 = .ok (.getfield 24, 3) := by decide +kernel
theorem dX1_beginLike_21 : decode cX1_beginLike 21 = .ok (.putfield 24, 3) := by decide +kernel
theorem dX1_beginLike_24 : decode cX1_beginLike 24 = .ok (.aload_n 0, 1) := by decide +kernel
theorem dX1_beginLike_25 : decode cX1_beginLike 25 = .ok (.iconst 0, 1) := by decide +kernel
theorem dX1_beginLike_26 : decode cX1_beginLike 26 = .ok (.putfield 27, 3) := by decide +kernel
theorem dX1_beginLike_29 : decode cX1_beginLike 29 = .ok (.iconst 0, 1) := by decide +kernel
theorem dX1_beginLike_30 : decode cX1_beginLike 30 = .ok (.istore_n 2, 1) := by decide +kernel
theorem dX1_beginLike_31 : decode cX1_beginLike 31 = .ok (.iload_n 2, 1) := by decide +kernel
theorem dX1_beginLike_32 : decode cX1_beginLike 32 = .ok (.aload_n 0, 1) := by decide +kernel
theorem dX1_beginLike_33 : decode cX1_beginLike 33 = .ok (.getfield 17, 3) := by decide +kernel
theorem dX1_beginLike_36 : decode cX1_beginLike 36 = .ok (.if_icmp .ge 24, 3) := by decide +kernel
theorem dX1_beginLike_39 : decode cX1_beginLike 39 = .ok (.aload_n 0, 1) := by decide +kernel
theorem dX1_beginLike_40 : decode cX1_beginLike 40 = .ok (.getfield 11, 3) := by decide +kernel
theorem dX1_beginLike_43 : decode cX1_beginLike 43 = .ok (.iload_n 2, 1) := by decide +kernel
theorem dX1_beginLike_44 : decode cX1_beginLike 44 = .ok (.aaload, 1) := by decide +kernel
theorem dX1_beginLike_45 : decode cX1_beginLike 45 = .ok (.aload_n 1, 1) := by decide +kernel
theorem dX1_beginLike_46 : decode cX1_beginLike 46 = .ok (.getfield 11, 3) := by decide +kernel
theorem dX1_beginLike_49 : decode cX1_beginLike 49 = .ok (.iload_n 2, 1) := by decide +kernel
theorem dX1_beginLike_50 : decode cX1_beginLike 50 = .ok (.aaload, 1) := by decide +kernel
theorem dX1_beginLike_51 : decode cX1_beginLike 51 = .ok (.invokevirtual 40, 3) := by decide +kernel
theorem dX1_beginLike_54 : decode cX1_beginLike 54 = .ok (.iinc 2 1, 3) := by decide +kernel
theorem dX1_beginLike_57 : decode cX1_beginLike 57 = .ok (.goto (-26), 3) := by decide +kernel
theorem dX1_beginLike_60 : decode cX1_beginLike 60 = .ok (.iconst 0, 1) := by decide +kernel
theorem dX1_beginLike_61 : decode cX1_beginLike 61 = .ok (.istore_n 2, 1) := by decide +kernel
theorem dX1_beginLike_62 : decode cX1_beginLike 62 = .ok (.iload_n 2, 1) := by decide +kernel
theorem dX1_beginLike_63 : decode cX1_beginLike 63 = .ok (.bipush 6, 2) := by decide +kernel
theorem dX1_beginLike_65 : decode cX1_beginLike 65 = .ok (.if_icmp .ge 19, 3) := by decide +kernel
theorem dX1_beginLike_68 : decode cX1_beginLike 68 = .ok (.aload_n 0, 1) := by decide +kernel
theorem dX1_beginLike_69 : decode cX1_beginLike 69 = .ok (.getfield 32, 3) := by decide +kernel
theorem dX1_beginLike_72 : decode cX1_beginLike 72 = .ok (.iload_n 2, 1) := by decide +kernel
theorem dX1_beginLike_73 : decode cX1_beginLike 73 = .ok (.aaload, 1) := by decide +kernel
theorem dX1_beginLike_74 : decode cX1_beginLike 74 = .ok (.iconst 0, 1) := by decide +kernel
theorem dX1_beginLike_75 : decode cX1_beginLike 75 = .ok (.invokestatic 44, 3) := by decide +kernel
theorem dX1_beginLike_78 : decode cX1_beginLike 78 = .ok (.iinc 2 1, 3) := by decide +kernel
theorem dX1_beginLike_81 : decode cX1_beginLike 81 = .ok (.goto (-19), 3) := by decide +kernel
theorem dX1_beginLike_84 : decode cX1_beginLike 84 = .ok (.return_, 1) := by decide +kernel
theorem dX1_isFull_0 : decode cX1_isFull 0 = .ok (.aload_n 0, 1) := by decide +kernel
theorem dX1_isFull_1 : decode cX1_isFull 1 = .ok (.getfield 17, 3) := by decide +kernel
theorem dX1_isFull_4 : decode cX1_isFull 4 = .ok (.bipush 12, 2) := by decide +kernel
theorem dX1_isFull_6 : decode cX1_isFull 6 = .ok (.if_icmp .lt 7, 3) := by decide +kernel
theorem dX1_isFull_9 : decode cX1_isFull 9 = .ok (.iconst 1, 1) := by decide +kernel
theorem dX1_isFull_10 : decode cX1_isFull 10 = .ok (.goto 4, 3) := by decide +kernel
theorem dX1_isFull_13 : decode cX1_isFull 13 = .ok (.iconst 0, 1) := by decide +kernel
theorem dX1_isFull_14 : decode cX1_isFull 14 = .ok (.ireturn, 1) := by decide +kernel
theorem dX1_add_0 : decode cX1_add 0 = .ok (.aload_n 0, 1) := by decide +kernel
theorem dX1_add_1 : decode cX1_add 1 = .ok (.invokevirtual 50, 3) := by decide +kernel
theorem dX1_add_4 : decode cX1_add 4 = .ok (.ifCond .eq 4, 3) := by decide +kernel
theorem dX1_add_7 : decode cX1_add 7 = .ok (.return_, 1) := by decide +kernel
theorem dX1_add_8 : decode cX1_add 8 = .ok (.aload_n 0, 1) := by decide +kernel
theorem dX1_add_9 : decode cX1_add 9 = .ok (.getfield 11, 3) := by decide +kernel
theorem dX1_add_12 : decode cX1_add 12 = .ok (.aload_n 0, 1) := by decide +kernel
theorem dX1_add_13 : decode cX1_add 13 = .ok (.getfield 17, 3) := by decide +kernel
theorem dX1_add_16 : decode cX1_add 16 = .ok (.aaload, 1) := by decide +kernel
theorem dX1_add_17 : decode cX1_add 17 = .ok (.iload_n 1, 1) := by decide +kernel
theorem dX1_add_18 : decode cX1_add 18 = .ok (.aload_n 0, 1) := by decide +kernel
theorem dX1_add_19 : decode cX1_add 19 = .ok (.getfield 24, 3) := by decide +kernel
theorem dX1_add_22 : decode cX1_add 22 = .ok (.invokevirtual 54, 3) := by decide +kernel
theorem dX1_add_25 : decode cX1_add 25 = .ok (.aload_n 0, 1) := by decide +kernel
theorem dX1_add_26 : decode cX1_add 26 = .ok (.dup, 1) := by decide +kernel
theorem dX1_add_27 : decode cX1_add 27 = .ok (.getfield 24, 3) := by decide +kernel
theorem dX1_add_30 : decode cX1_add 30 = .ok (.iconst 1, 1) := by decide +kernel
theorem dX1_add_31 : decode cX1_add 31 = .ok (.iadd, 1) := by decide +kernel
theorem dX1_add_32 : decode cX1_add 32 = .ok (.putfield 24, 3) := by decide +kernel
theorem dX1_add_35 : decode cX1_add 35 = .ok (.aload_n 0, 1) := by decide +kernel
theorem dX1_add_36 : decode cX1_add 36 = .ok (.dup, 1) := by decide +kernel
theorem dX1_add_37 : decode cX1_add 37 = .ok (.getfield 17, 3) := by decide +kernel
theorem dX1_add_40 : decode cX1_add 40 = .ok (.iconst 1, 1) := by decide +kernel
theorem dX1_add_41 : decode cX1_add 41 = .ok (.iadd, 1) := by decide +kernel
theorem dX1_add_42 : decode cX1_add 42 = .ok (.putfield 17, 3) := by decide +kernel
theorem dX1_add_45 : decode cX1_add 45 = .ok (.return_, 1) := by decide +kernel
theorem dX1_total_0 : decode cX1_total 0 = .ok (.iconst 0, 1) := by decide +kernel
theorem dX1_total_1 : decode cX1_total 1 = .ok (.istore_n 2, 1) := by decide +kernel
theorem dX1_total_2 : decode cX1_total 2 = .ok (.iconst 0, 1) := by decide +kernel
theorem dX1_total_3 : decode cX1_total 3 = .ok (.istore_n 3, 1) := by decide +kernel
theorem dX1_total_4 : decode cX1_total 4 = .ok (.iload_n 3, 1) := by decide +kernel
theorem dX1_total_5 : decode cX1_total 5 = .ok (.iconst 4, 1) := by decide +kernel
theorem dX1_total_6 : decode cX1_total 6 = .ok (.if_icmp .ge 20, 3) := by decide +kernel
theorem dX1_total_9 : decode cX1_total 9 = .ok (.iload_n 2, 1) := by decide +kernel
theorem dX1_total_10 : decode cX1_total 10 = .ok (.aload_n 0, 1) := by decide +kernel
theorem dX1_total_11 : decode cX1_total 11 = .ok (.getfield 32, 3) := by decide +kernel
theorem dX1_total_14 : decode cX1_total 14 = .ok (.iload_n 1, 1) := by decide +kernel
theorem dX1_total_15 : decode cX1_total 15 = .ok (.aaload, 1) := by decide +kernel
theorem dX1_total_16 : decode cX1_total 16 = .ok (.iload_n 3, 1) := by decide +kernel
theorem dX1_total_17 : decode cX1_total 17 = .ok (.iaload, 1) := by decide +kernel
theorem dX1_total_18 : decode cX1_total 18 = .ok (.iadd, 1) := by decide +kernel
theorem dX1_total_19 : decode cX1_total 19 = .ok (.istore_n 2, 1) := by decide +kernel
theorem dX1_total_20 : decode cX1_total 20 = .ok (.iinc 3 1, 3) := by decide +kernel
theorem dX1_total_23 : decode cX1_total 23 = .ok (.goto (-19), 3) := by decide +kernel
theorem dX1_total_26 : decode cX1_total 26 = .ok (.iload_n 2, 1) := by decide +kernel
theorem dX1_total_27 : decode cX1_total 27 = .ok (.ireturn, 1) := by decide +kernel
theorem dX1_gained_0 : decode cX1_gained 0 = .ok (.aload_n 0, 1) := by decide +kernel
theorem dX1_gained_1 : decode cX1_gained 1 = .ok (.getfield 32, 3) := by decide +kernel
theorem dX1_gained_4 : decode cX1_gained 4 = .ok (.iconst 2, 1) := by decide +kernel
theorem dX1_gained_5 : decode cX1_gained 5 = .ok (.aaload, 1) := by decide +kernel
theorem dX1_gained_6 : decode cX1_gained 6 = .ok (.iload_n 1, 1) := by decide +kernel
theorem dX1_gained_7 : decode cX1_gained 7 = .ok (.iaload, 1) := by decide +kernel
theorem dX1_gained_8 : decode cX1_gained 8 = .ok (.aload_n 0, 1) := by decide +kernel
theorem dX1_gained_9 : decode cX1_gained 9 = .ok (.getfield 32, 3) := by decide +kernel
theorem dX1_gained_12 : decode cX1_gained 12 = .ok (.iconst 5, 1) := by decide +kernel
theorem dX1_gained_13 : decode cX1_gained 13 = .ok (.aaload, 1) := by decide +kernel
theorem dX1_gained_14 : decode cX1_gained 14 = .ok (.iload_n 1, 1) := by decide +kernel
theorem dX1_gained_15 : decode cX1_gained 15 = .ok (.iaload, 1) := by decide +kernel
theorem dX1_gained_16 : decode cX1_gained 16 = .ok (.isub, 1) := by decide +kernel
theorem dX1_gained_17 : decode cX1_gained 17 = .ok (.ireturn, 1) := by decide +kernel
theorem dX1_pass_0 : decode cX1_pass 0 = .ok (.iconst 0, 1) := by decide +kernel
theorem dX1_pass_1 : decode cX1_pass 1 = .ok (.istore_n 3, 1) := by decide +kernel
theorem dX1_pass_2 : decode cX1_pass 2 = .ok (.iload_n 3, 1) := by decide +kernel
theorem dX1_pass_3 : decode cX1_pass 3 = .ok (.iload_n 1, 1) := by decide +kernel
theorem dX1_pass_4 : decode cX1_pass 4 = .ok (.if_icmp .ge 84, 3) := by decide +kernel
theorem dX1_pass_7 : decode cX1_pass 7 = .ok (.aload_n 0, 1) := by decide +kernel
theorem dX1_pass_8 : decode cX1_pass 8 = .ok (.getfield 35, 3) := by decide +kernel
theorem dX1_pass_11 : decode cX1_pass 11 = .ok (.getfield 58, 3) := by decide +kernel
theorem dX1_pass_14 : decode cX1_pass 14 = .ok (.aload_n 0, 1) := by decide +kernel
theorem dX1_pass_15 : decode cX1_pass 15 = .ok (.getfield 21, 3) := by decide +kernel
theorem dX1_pass_18 : decode cX1_pass 18 = .ok (.invokevirtual 64, 3) := by decide +kernel
theorem dX1_pass_21 : decode cX1_pass 21 = .ok (.istore 4, 2) := by decide +kernel
theorem dX1_pass_23 : decode cX1_pass 23 = .ok (.iload 4, 2) := by decide +kernel
theorem dX1_pass_25 : decode cX1_pass 25 = .ok (.iconst (-1), 1) := by decide +kernel
theorem dX1_pass_26 : decode cX1_pass 26 = .ok (.if_icmp .eq 10, 3) := by decide +kernel
theorem dX1_pass_29 : decode cX1_pass 29 = .ok (.aload_n 0, 1) := by decide +kernel
theorem dX1_pass_30 : decode cX1_pass 30 = .ok (.iload 4, 2) := by decide +kernel
theorem dX1_pass_32 : decode cX1_pass 32 = .ok (.aload_n 2, 1) := by decide +kernel
theorem dX1_pass_33 : decode cX1_pass 33 = .ok (.invokevirtual 70, 3) := by decide +kernel
theorem dX1_pass_36 : decode cX1_pass 36 = .ok (.aload_n 0, 1) := by decide +kernel
theorem dX1_pass_37 : decode cX1_pass 37 = .ok (.getfield 35, 3) := by decide +kernel
theorem dX1_pass_40 : decode cX1_pass 40 = .ok (.getfield 74, 3) := by decide +kernel
theorem dX1_pass_43 : decode cX1_pass 43 = .ok (.aload_n 0, 1) := by decide +kernel
theorem dX1_pass_44 : decode cX1_pass 44 = .ok (.getfield 21, 3) := by decide +kernel
theorem dX1_pass_47 : decode cX1_pass 47 = .ok (.invokevirtual 64, 3) := by decide +kernel
theorem dX1_pass_50 : decode cX1_pass 50 = .ok (.istore 5, 2) := by decide +kernel
theorem dX1_pass_52 : decode cX1_pass 52 = .ok (.iload 5, 2) := by decide +kernel
theorem dX1_pass_54 : decode cX1_pass 54 = .ok (.iconst (-1), 1) := by decide +kernel
theorem dX1_pass_55 : decode cX1_pass 55 = .ok (.if_icmp .eq 9, 3) := by decide +kernel
theorem dX1_pass_58 : decode cX1_pass 58 = .ok (.aload_n 0, 1) := by decide +kernel
theorem dX1_pass_59 : decode cX1_pass 59 = .ok (.iload 5, 2) := by decide +kernel
theorem dX1_pass_61 : decode cX1_pass 61 = .ok (.invokevirtual 77, 3) := by decide +kernel
theorem dX1_pass_64 : decode cX1_pass 64 = .ok (.aload_n 0, 1) := by decide +kernel
theorem dX1_pass_65 : decode cX1_pass 65 = .ok (.aload_n 2, 1) := by decide +kernel
theorem dX1_pass_66 : decode cX1_pass 66 = .ok (.getfield 81, 3) := by decide +kernel
theorem dX1_pass_69 : decode cX1_pass 69 = .ok (.invokevirtual 86, 3) := by decide +kernel
theorem dX1_pass_72 : decode cX1_pass 72 = .ok (.aload_n 0, 1) := by decide +kernel
theorem dX1_pass_73 : decode cX1_pass 73 = .ok (.dup, 1) := by decide +kernel
theorem dX1_pass_74 : decode cX1_pass 74 = .ok (.getfield 21, 3) := by decide +kernel
theorem dX1_pass_77 : decode cX1_pass 77 = .ok (.iconst 1, 1) := by decide +kernel
theorem dX1_pass_78 : decode cX1_pass 78 = .ok (.iadd, 1) := by decide +kernel
theorem dX1_pass_79 : decode cX1_pass 79 = .ok (.putfield 21, 3) := by decide +kernel
theorem dX1_pass_82 : decode cX1_pass 82 = .ok (.iinc 3 1, 3) := by decide +kernel
theorem dX1_pass_85 : decode cX1_pass 85 = .ok (.goto (-83), 3) := by decide +kernel
theorem dX1_pass_88 : decode cX1_pass 88 = .ok (.return_, 1) := by decide +kernel
theorem dX1_stand_0 : decode cX1_stand 0 = .ok (.iconst 1, 1) := by decide +kernel
theorem dX1_stand_1 : decode cX1_stand 1 = .ok (.istore_n 2, 1) := by decide +kernel
theorem dX1_stand_2 : decode cX1_stand 2 = .ok (.iload_n 2, 1) := by decide +kernel
theorem dX1_stand_3 : decode cX1_stand 3 = .ok (.aload_n 0, 1) := by decide +kernel
theorem dX1_stand_4 : decode cX1_stand 4 = .ok (.getfield 17, 3) := by decide +kernel
theorem dX1_stand_7 : decode cX1_stand 7 = .ok (.if_icmp .ge 72, 3) := by decide +kernel
theorem dX1_stand_10 : decode cX1_stand 10 = .ok (.aload_n 0, 1) := by decide +kernel
theorem dX1_stand_11 : decode cX1_stand 11 = .ok (.getfield 11, 3) := by decide +kernel
theorem dX1_stand_14 : decode cX1_stand 14 = .ok (.iload_n 2, 1) := by decide +kernel
theorem dX1_stand_15 : decode cX1_stand 15 = .ok (.aaload, 1) := by decide +kernel
theorem dX1_stand_16 : decode cX1_stand 16 = .ok (.astore_n 3, 1) := by decide +kernel
theorem dX1_stand_17 : decode cX1_stand 17 = .ok (.iload_n 2, 1) := by decide +kernel
theorem dX1_stand_18 : decode cX1_stand 18 = .ok (.istore 4, 2) := by decide +kernel
theorem dX1_stand_20 : decode cX1_stand 20 = .ok (.iload 4, 2) := by decide +kernel
theorem dX1_stand_22 : decode cX1_stand 22 = .ok (.ifCond .le 43, 3) := by decide +kernel
theorem dX1_stand_25 : decode cX1_stand 25 = .ok (.aload_n 0, 1) := by decide +kernel
theorem dX1_stand_26 : decode cX1_stand 26 = .ok (.aload_n 3, 1) := by decide +kernel
theorem dX1_stand_27 : decode cX1_stand 27 = .ok (.aload_n 0, 1) := by decide +kernel
theorem dX1_stand_28 : decode cX1_stand 28 = .ok (.getfield 11, 3) := by decide +kernel
theorem dX1_stand_31 : decode cX1_stand 31 = .ok (.iload 4, 2) := by decide +kernel
theorem dX1_stand_33 : decode cX1_stand 33 = .ok (.iconst 1, 1) := by decide +kernel
theorem dX1_stand_34 : decode cX1_stand 34 = .ok (.isub, 1) := by decide +kernel
theorem dX1_stand_35 : decode cX1_stand 35 = .ok (.aaload, 1) := by decide +kernel
theorem dX1_stand_36 : decode cX1_stand 36 = .ok (.iload_n 1, 1) := by decide +kernel
theorem dX1_stand_37 : decode cX1_stand 37 = .ok (.invokevirtual 89, 3) := by decide +kernel
theorem dX1_stand_40 : decode cX1_stand 40 = .ok (.ifCond .eq 25, 3) := by decide +kernel
theorem dX1_stand_43 : decode cX1_stand 43 = .ok (.aload_n 0, 1) := by decide +kernel
theorem dX1_stand_44 : decode cX1_stand 44 = .ok (.getfield 11, 3) := by decide +kernel
theorem dX1_stand_47 : decode cX1_stand 47 = .ok (.iload 4, 2) := by decide +kernel
theorem dX1_stand_49 : decode cX1_stand 49 = .ok (.aload_n 0, 1) := by decide +kernel
theorem dX1_stand_50 : decode cX1_stand 50 = .ok (.getfield 11, 3) := by decide +kernel
theorem dX1_stand_53 : decode cX1_stand 53 = .ok (.iload 4, 2) := by decide +kernel
theorem dX1_stand_55 : decode cX1_stand 55 = .ok (.iconst 1, 1) := by decide +kernel
theorem dX1_stand_56 : decode cX1_stand 56 = .ok (.isub, 1) := by decide +kernel
theorem dX1_stand_57 : decode cX1_stand 57 = .ok (.aaload, 1) := by decide +kernel
theorem dX1_stand_58 : decode cX1_stand 58 = .ok (.aastore, 1) := by decide +kernel
theorem dX1_stand_59 : decode cX1_stand 59 = .ok (.iinc 4 (-1), 3) := by decide +kernel
theorem dX1_stand_62 : decode cX1_stand 62 = .ok (.goto (-42), 3) := by decide +kernel
theorem dX1_stand_65 : decode cX1_stand 65 = .ok (.aload_n 0, 1) := by decide +kernel
theorem dX1_stand_66 : decode cX1_stand 66 = .ok (.getfield 11, 3) := by decide +kernel
theorem dX1_stand_69 : decode cX1_stand 69 = .ok (.iload 4, 2) := by decide +kernel
theorem dX1_stand_71 : decode cX1_stand 71 = .ok (.aload_n 3, 1) := by decide +kernel
theorem dX1_stand_72 : decode cX1_stand 72 = .ok (.aastore, 1) := by decide +kernel
theorem dX1_stand_73 : decode cX1_stand 73 = .ok (.iinc 2 1, 3) := by decide +kernel
theorem dX1_stand_76 : decode cX1_stand 76 = .ok (.goto (-74), 3) := by decide +kernel
theorem dX1_stand_79 : decode cX1_stand 79 = .ok (.return_, 1) := by decide +kernel
theorem dX1_isAhead_0 : decode cX1_isAhead 0 = .ok (.iconst 0, 1) := by decide +kernel
theorem dX1_isAhead_1 : decode cX1_isAhead 1 = .ok (.istore 4, 2) := by decide +kernel
theorem dX1_isAhead_3 : decode cX1_isAhead 3 = .ok (.iload_n 3, 1) := by decide +kernel
theorem dX1_isAhead_4 : decode cX1_isAhead 4 = .ok (.iconst 1, 1) := by decide +kernel
theorem dX1_isAhead_5 : decode cX1_isAhead 5 = .ok (.if_icmp .ne 30, 3) := by decide +kernel
theorem dX1_isAhead_8 : decode cX1_isAhead 8 = .ok (.aload_n 0, 1) := by decide +kernel
theorem dX1_isAhead_9 : decode cX1_isAhead 9 = .ok (.getfield 35, 3) := by decide +kernel
theorem dX1_isAhead_12 : decode cX1_isAhead 12 = .ok (.getfield 93, 3) := by decide +kernel
theorem dX1_isAhead_15 : decode cX1_isAhead 15 = .ok (.aload_n 1, 1) := by decide +kernel
theorem dX1_isAhead_16 : decode cX1_isAhead 16 = .ok (.getfield 97, 3) := by decide +kernel
theorem dX1_isAhead_19 : decode cX1_isAhead 19 = .ok (.iaload, 1) := by decide +kernel
theorem dX1_isAhead_20 : decode cX1_isAhead 20 = .ok (.aload_n 0, 1) := by decide +kernel
theorem dX1_isAhead_21 : decode cX1_isAhead 21 = .ok (.getfield 35, 3) := by decide +kernel
theorem dX1_isAhead_24 : decode cX1_isAhead 24 = .ok (.getfield 93, 3) := by decide +kernel
theorem dX1_isAhead_27 : decode cX1_isAhead 27 = .ok (.aload_n 2, 1) := by decide +kernel
theorem dX1_isAhead_28 : decode cX1_isAhead 28 = .ok (.getfield 97, 3) := by decide +kernel
theorem dX1_isAhead_31 : decode cX1_isAhead 31 = .ok (.iaload, 1) := by decide +kernel
theorem dX1_isAhead_32 : decode cX1_isAhead 32 = .ok (.isub, 1) := by decide +kernel
theorem dX1_isAhead_33 : decode cX1_isAhead 33 = .ok (.istore 4, 2) := by decide +kernel
theorem dX1_isAhead_35 : decode cX1_isAhead 35 = .ok (.iload_n 3, 1) := by decide +kernel
theorem dX1_isAhead_36 : decode cX1_isAhead 36 = .ok (.iconst 2, 1) := by decide +kernel
theorem dX1_isAhead_37 : decode cX1_isAhead 37 = .ok (.if_icmp .ne 14, 3) := by decide +kernel
theorem dX1_isAhead_40 : decode cX1_isAhead 40 = .ok (.aload_n 1, 1) := by decide +kernel
theorem dX1_isAhead_41 : decode cX1_isAhead 41 = .ok (.getfield 100, 3) := by decide +kernel
theorem dX1_isAhead_44 : decode cX1_isAhead 44 = .ok (.aload_n 2, 1) := by decide +kernel
theorem dX1_isAhead_45 : decode cX1_isAhead 45 = .ok (.getfield 100, 3) := by decide +kernel
theorem dX1_isAhead_48 : decode cX1_isAhead 48 = .ok (.isub, 1) := by decide +kernel
theorem dX1_isAhead_49 : decode cX1_isAhead 49 = .ok (.istore 4, 2) := by decide +kernel
theorem dX1_isAhead_51 : decode cX1_isAhead 51 = .ok (.iload 4, 2) := by decide +kernel
theorem dX1_isAhead_53 : decode cX1_isAhead 53 = .ok (.ifCond .gt 19, 3) := by decide +kernel
theorem dX1_isAhead_56 : decode cX1_isAhead 56 = .ok (.iload 4, 2) := by decide +kernel
theorem dX1_isAhead_58 : decode cX1_isAhead 58 = .ok (.ifCond .ne 18, 3) := by decide +kernel
theorem dX1_isAhead_61 : decode cX1_isAhead 61 = .ok (.aload_n 1, 1) := by decide +kernel
theorem dX1_isAhead_62 : decode cX1_isAhead 62 = .ok (.getfield 103, 3) := by decide +kernel
theorem dX1_isAhead_65 : decode cX1_isAhead 65 = .ok (.aload_n 2, 1) := by decide +kernel
theorem dX1_isAhead_66 : decode cX1_isAhead 66 = .ok (.getfield 103, 3) := by decide +kernel
theorem dX1_isAhead_69 : decode cX1_isAhead 69 = .ok (.if_icmp .ge 7, 3) := by decide +kernel
theorem dX1_isAhead_72 : decode cX1_isAhead 72 = .ok (.iconst 1, 1) := by decide +kernel
theorem dX1_isAhead_73 : decode cX1_isAhead 73 = .ok (.goto 4, 3) := by decide +kernel
theorem dX1_isAhead_76 : decode cX1_isAhead 76 = .ok (.iconst 0, 1) := by decide +kernel
theorem dX1_isAhead_77 : decode cX1_isAhead 77 = .ok (.ireturn, 1) := by decide +kernel
theorem dX1_offer_0 : decode cX1_offer 0 = .ok (.aload_n 0, 1) := by decide +kernel
theorem dX1_offer_1 : decode cX1_offer 1 = .ok (.aload_n 2, 1) := by decide +kernel
theorem dX1_offer_2 : decode cX1_offer 2 = .ok (.getfield 106, 3) := by decide +kernel
theorem dX1_offer_5 : decode cX1_offer 5 = .ok (.invokevirtual 109, 3) := by decide +kernel
theorem dX1_offer_8 : decode cX1_offer 8 = .ok (.iconst 0, 1) := by decide +kernel
theorem dX1_offer_9 : decode cX1_offer 9 = .ok (.istore_n 3, 1) := by decide +kernel
theorem dX1_offer_10 : decode cX1_offer 10 = .ok (.iconst 0, 1) := by decide +kernel
theorem dX1_offer_11 : decode cX1_offer 11 = .ok (.istore 4, 2) := by decide +kernel
theorem dX1_offer_13 : decode cX1_offer 13 = .ok (.iconst 0, 1) := by decide +kernel
theorem dX1_offer_14 : decode cX1_offer 14 = .ok (.istore 5, 2) := by decide +kernel
theorem dX1_offer_16 : decode cX1_offer 16 = .ok (.iload 5, 2) := by decide +kernel
theorem dX1_offer_18 : decode cX1_offer 18 = .ok (.aload_n 0, 1) := by decide +kernel
theorem dX1_offer_19 : decode cX1_offer 19 = .ok (.getfield 17, 3) := by decide +kernel
theorem dX1_offer_22 : decode cX1_offer 22 = .ok (.if_icmp .ge 118, 3) := by decide +kernel
theorem dX1_offer_25 : decode cX1_offer 25 = .ok (.aload_n 0, 1) := by decide +kernel
theorem dX1_offer_26 : decode cX1_offer 26 = .ok (.getfield 11, 3) := by decide +kernel
theorem dX1_offer_29 : decode cX1_offer 29 = .ok (.iload 5, 2) := by decide +kernel
theorem dX1_offer_31 : decode cX1_offer 31 = .ok (.aaload, 1) := by decide +kernel
theorem dX1_offer_32 : decode cX1_offer 32 = .ok (.astore 6, 2) := by decide +kernel
theorem dX1_offer_34 : decode cX1_offer 34 = .ok (.iconst 0, 1) := by decide +kernel
theorem dX1_offer_35 : decode cX1_offer 35 = .ok (.istore 7, 2) := by decide +kernel
theorem dX1_offer_37 : decode cX1_offer 37 = .ok (.iload_n 3, 1) := by decide +kernel
theorem dX1_offer_38 : decode cX1_offer 38 = .ok (.ifCond .ne 65, 3) := by decide +kernel
theorem dX1_offer_41 : decode cX1_offer 41 = .ok (.aload_n 2, 1) := by decide +kernel
theorem dX1_offer_42 : decode cX1_offer 42 = .ok (.aload 6, 2) := by decide +kernel
theorem dX1_offer_44 : decode cX1_offer 44 = .ok (.getfield 97, 3) := by decide +kernel
theorem dX1_offer_47 : decode cX1_offer 47 = .ok (.aload_n 0, 1) := by decide +kernel
theorem dX1_offer_48 : decode cX1_offer 48 = .ok (.getfield 35, 3) := by decide +kernel
theorem dX1_offer_51 : decode cX1_offer 51 = .ok (.getfield 112, 3) := by decide +kernel
theorem dX1_offer_54 : decode cX1_offer 54 = .ok (.aload 6, 2) := by decide +kernel
theorem dX1_offer_56 : decode cX1_offer 56 = .ok (.getfield 97, 3) := by decide +kernel
theorem dX1_offer_59 : decode cX1_offer 59 = .ok (.aaload, 1) := by decide +kernel
theorem dX1_offer_60 : decode cX1_offer 60 = .ok (.iload_n 1, 1) := by decide +kernel
theorem dX1_offer_61 : decode cX1_offer 61 = .ok (.iaload, 1) := by decide +kernel
theorem dX1_offer_62 : decode cX1_offer 62 = .ok (.aload 6, 2) := by decide +kernel
theorem dX1_offer_64 : decode cX1_offer 64 = .ok (.getfield 115, 3) := by decide +kernel
theorem dX1_offer_67 : decode cX1_offer 67 = .ok (.invokevirtual 118, 3) := by decide +kernel
theorem dX1_offer_70 : decode cX1_offer 70 = .ok (.istore_n 3, 1) := by decide +kernel
theorem dX1_offer_71 : decode cX1_offer 71 = .ok (.iload_n 3, 1) := by decide +kernel
theorem dX1_offer_72 : decode cX1_offer 72 = .ok (.ifCond .ne 13, 3) := by decide +kernel
theorem dX1_offer_75 : decode cX1_offer 75 = .ok (.aload_n 0, 1) := by decide +kernel
theorem dX1_offer_76 : decode cX1_offer 76 = .ok (.aload 6, 2) := by decide +kernel
theorem dX1_offer_78 : decode cX1_offer 78 = .ok (.aload_n 2, 1) := by decide +kernel
theorem dX1_offer_79 : decode cX1_offer 79 = .ok (.invokevirtual 122, 3) := by decide +kernel
theorem dX1_offer_82 : decode cX1_offer 82 = .ok (.ifCond .eq 7, 3) := by decide +kernel
theorem dX1_offer_85 : decode cX1_offer 85 = .ok (.iconst 1, 1) := by decide +kernel
theorem dX1_offer_86 : decode cX1_offer 86 = .ok (.goto 4, 3) := by decide +kernel
theorem dX1_offer_89 : decode cX1_offer 89 = .ok (.iconst 0, 1) := by decide +kernel
theorem dX1_offer_90 : decode cX1_offer 90 = .ok (.istore 7, 2) := by decide +kernel
theorem dX1_offer_92 : decode cX1_offer 92 = .ok (.iload_n 3, 1) := by decide +kernel
theorem dX1_offer_93 : decode cX1_offer 93 = .ok (.ifCond .eq 10, 3) := by decide +kernel
theorem dX1_offer_96 : decode cX1_offer 96 = .ok (.aload_n 0, 1) := by decide +kernel
theorem dX1_offer_97 : decode cX1_offer 97 = .ok (.aload 6, 2) := by decide +kernel
theorem dX1_offer_99 : decode cX1_offer 99 = .ok (.iload_n 1, 1) := by decide +kernel
theorem dX1_offer_100 : decode cX1_offer 100 = .ok (.invokevirtual 126, 3) := by decide +kernel
theorem dX1_offer_103 : decode cX1_offer 103 = .ok (.iload 7, 2) := by decide +kernel
theorem dX1_offer_105 : decode cX1_offer 105 = .ok (.ifCond .ne 29, 3) := by decide +kernel
theorem dX1_offer_108 : decode cX1_offer 108 = .ok (.aload_n 0, 1) := by decide +kernel
theorem dX1_offer_109 : decode cX1_offer 109 = .ok (.getfield 11, 3) := by decide +kernel
theorem dX1_offer_112 : decode cX1_offer 112 = .ok (.iload 5, 2) := by decide +kernel
theorem dX1_offer_114 : decode cX1_offer 114 = .ok (.aload_n 0, 1) := by decide +kernel
theorem dX1_offer_115 : decode cX1_offer 115 = .ok (.getfield 11, 3) := by decide +kernel
theorem dX1_offer_118 : decode cX1_offer 118 = .ok (.iload 4, 2) := by decide +kernel
theorem dX1_offer_120 : decode cX1_offer 120 = .ok (.aaload, 1) := by decide +kernel
theorem dX1_offer_121 : decode cX1_offer 121 = .ok (.aastore, 1) := by decide +kernel
theorem dX1_offer_122 : decode cX1_offer 122 = .ok (.aload_n 0, 1) := by decide +kernel
theorem dX1_offer_123 : decode cX1_offer 123 = .ok (.getfield 11, 3) := by decide +kernel
theorem dX1_offer_126 : decode cX1_offer 126 = .ok (.iload 4, 2) := by decide +kernel
theorem dX1_offer_128 : decode cX1_offer 128 = .ok (.aload 6, 2) := by decide +kernel
theorem dX1_offer_130 : decode cX1_offer 130 = .ok (.aastore, 1) := by decide +kernel
theorem dX1_offer_131 : decode cX1_offer 131 = .ok (.iinc 4 1, 3) := by decide +kernel
theorem dX1_offer_134 : decode cX1_offer 134 = .ok (.iinc 5 1, 3) := by decide +kernel
theorem dX1_offer_137 : decode cX1_offer 137 = .ok (.goto (-121), 3) := by decide +kernel
theorem dX1_offer_140 : decode cX1_offer 140 = .ok (.aload_n 0, 1) := by decide +kernel
theorem dX1_offer_141 : decode cX1_offer 141 = .ok (.iload 4, 2) := by decide +kernel
theorem dX1_offer_143 : decode cX1_offer 143 = .ok (.putfield 17, 3) := by decide +kernel
theorem dX1_offer_146 : decode cX1_offer 146 = .ok (.iload_n 3, 1) := by decide +kernel
theorem dX1_offer_147 : decode cX1_offer 147 = .ok (.ifCond .ne 13, 3) := by decide +kernel
theorem dX1_offer_150 : decode cX1_offer 150 = .ok (.aload_n 0, 1) := by decide +kernel
theorem dX1_offer_151 : decode cX1_offer 151 = .ok (.dup, 1) := by decide +kernel
theorem dX1_offer_152 : decode cX1_offer 152 = .ok (.getfield 27, 3) := by decide +kernel
theorem dX1_offer_155 : decode cX1_offer 155 = .ok (.iconst 1, 1) := by decide +kernel
theorem dX1_offer_156 : decode cX1_offer 156 = .ok (.iadd, 1) := by decide +kernel
theorem dX1_offer_157 : decode cX1_offer 157 = .ok (.putfield 27, 3) := by decide +kernel
theorem dX1_offer_160 : decode cX1_offer 160 = .ok (.return_, 1) := by decide +kernel
theorem dX1_house_0 : decode cX1_house 0 = .ok (.aload_n 0, 1) := by decide +kernel
theorem dX1_house_1 : decode cX1_house 1 = .ok (.getfield 32, 3) := by decide +kernel
theorem dX1_house_4 : decode cX1_house 4 = .ok (.iconst 0, 1) := by decide +kernel
theorem dX1_house_5 : decode cX1_house 5 = .ok (.aaload, 1) := by decide +kernel
theorem dX1_house_6 : decode cX1_house 6 = .ok (.aload_n 1, 1) := by decide +kernel
theorem dX1_house_7 : decode cX1_house 7 = .ok (.getfield 97, 3) := by decide +kernel
theorem dX1_house_10 : decode cX1_house 10 = .ok (.dup2, 1) := by decide +kernel
theorem dX1_house_11 : decode cX1_house 11 = .ok (.iaload, 1) := by decide +kernel
theorem dX1_house_12 : decode cX1_house 12 = .ok (.iconst 1, 1) := by decide +kernel
theorem dX1_house_13 : decode cX1_house 13 = .ok (.iadd, 1) := by decide +kernel
theorem dX1_house_14 : decode cX1_house 14 = .ok (.iastore, 1) := by decide +kernel
theorem dX1_house_15 : decode cX1_house 15 = .ok (.aload_n 0, 1) := by decide +kernel
theorem dX1_house_16 : decode cX1_house 16 = .ok (.getfield 32, 3) := by decide +kernel
theorem dX1_house_19 : decode cX1_house 19 = .ok (.iconst 1, 1) := by decide +kernel
theorem dX1_house_20 : decode cX1_house 20 = .ok (.aaload, 1) := by decide +kernel
theorem dX1_house_21 : decode cX1_house 21 = .ok (.aload_n 1, 1) := by decide +kernel
theorem dX1_house_22 : decode cX1_house 22 = .ok (.getfield 97, 3) := by decide +kernel
theorem dX1_house_25 : decode cX1_house 25 = .ok (.dup2, 1) := by decide +kernel
theorem dX1_house_26 : decode cX1_house 26 = .ok (.iaload, 1) := by decide +kernel
theorem dX1_house_27 : decode cX1_house 27 = .ok (.aload_n 1, 1) := by decide +kernel
theorem dX1_house_28 : decode cX1_house 28 = .ok (.getfield 115, 3) := by decide +kernel
theorem dX1_house_31 : decode cX1_house 31 = .ok (.iadd, 1) := by decide +kernel
theorem dX1_house_32 : decode cX1_house 32 = .ok (.iastore, 1) := by decide +kernel
theorem dX1_house_33 : decode cX1_house 33 = .ok (.aload_n 0, 1) := by decide +kernel
theorem dX1_house_34 : decode cX1_house 34 = .ok (.getfield 32, 3) := by decide +kernel
theorem dX1_house_37 : decode cX1_house 37 = .ok (.iconst 2, 1) := by decide +kernel
theorem dX1_house_38 : decode cX1_house 38 = .ok (.aaload, 1) := by decide +kernel
theorem dX1_house_39 : decode cX1_house 39 = .ok (.aload_n 1, 1) := by decide +kernel
theorem dX1_house_40 : decode cX1_house 40 = .ok (.getfield 97, 3) := by decide +kernel
theorem dX1_house_43 : decode cX1_house 43 = .ok (.dup2, 1) := by decide +kernel
theorem dX1_house_44 : decode cX1_house 44 = .ok (.iaload, 1) := by decide +kernel
theorem dX1_house_45 : decode cX1_house 45 = .ok (.aload_n 0, 1) := by decide +kernel
theorem dX1_house_46 : decode cX1_house 46 = .ok (.getfield 35, 3) := by decide +kernel
theorem dX1_house_49 : decode cX1_house 49 = .ok (.getfield 112, 3) := by decide +kernel
theorem dX1_house_52 : decode cX1_house 52 = .ok (.aload_n 1, 1) := by decide +kernel
theorem dX1_house_53 : decode cX1_house 53 = .ok (.getfield 97, 3) := by decide +kernel
theorem dX1_house_56 : decode cX1_house 56 = .ok (.aaload, 1) := by decide +kernel
theorem dX1_house_57 : decode cX1_house 57 = .ok (.iload_n 2, 1) := by decide +kernel
theorem dX1_house_58 : decode cX1_house 58 = .ok (.iaload, 1) := by decide +kernel
theorem dX1_house_59 : decode cX1_house 59 = .ok (.iadd, 1) := by decide +kernel
theorem dX1_house_60 : decode cX1_house 60 = .ok (.iastore, 1) := by decide +kernel
theorem dX1_house_61 : decode cX1_house 61 = .ok (.return_, 1) := by decide +kernel
theorem dX1_sayNo_0 : decode cX1_sayNo 0 = .ok (.aload_n 1, 1) := by decide +kernel
theorem dX1_sayNo_1 : decode cX1_sayNo 1 = .ok (.dup, 1) := by decide +kernel
theorem dX1_sayNo_2 : decode cX1_sayNo 2 = .ok (.getfield 130, 3) := by decide +kernel
theorem dX1_sayNo_5 : decode cX1_sayNo 5 = .ok (.iconst 1, 1) := by decide +kernel
theorem dX1_sayNo_6 : decode cX1_sayNo 6 = .ok (.iadd, 1) := by decide +kernel
theorem dX1_sayNo_7 : decode cX1_sayNo 7 = .ok (.putfield 130, 3) := by decide +kernel
theorem dX1_sayNo_10 : decode cX1_sayNo 10 = .ok (.aload_n 1, 1) := by decide +kernel
theorem dX1_sayNo_11 : decode cX1_sayNo 11 = .ok (.getfield 130, 3) := by decide +kernel
theorem dX1_sayNo_14 : decode cX1_sayNo 14 = .ok (.aload_n 2, 1) := by decide +kernel
theorem dX1_sayNo_15 : decode cX1_sayNo 15 = .ok (.getfield 133, 3) := by decide +kernel
theorem dX1_sayNo_18 : decode cX1_sayNo 18 = .ok (.if_icmp .gt 5, 3) := by decide +kernel
theorem dX1_sayNo_21 : decode cX1_sayNo 21 = .ok (.iconst 0, 1) := by decide +kernel
theorem dX1_sayNo_22 : decode cX1_sayNo 22 = .ok (.ireturn, 1) := by decide +kernel
theorem dX1_sayNo_23 : decode cX1_sayNo 23 = .ok (.aload_n 2, 1) := by decide +kernel
theorem dX1_sayNo_24 : decode cX1_sayNo 24 = .ok (.getfield 134, 3) := by decide +kernel
theorem dX1_sayNo_27 : decode cX1_sayNo 27 = .ok (.ifCond .ne 20, 3) := by decide +kernel
theorem dX1_sayNo_30 : decode cX1_sayNo 30 = .ok (.aload_n 0, 1) := by decide +kernel
theorem dX1_sayNo_31 : decode cX1_sayNo 31 = .ok (.getfield 32, 3) := by decide +kernel
theorem dX1_sayNo_34 : decode cX1_sayNo 34 = .ok (.iconst 3, 1) := by decide +kernel
theorem dX1_sayNo_35 : decode cX1_sayNo 35 = .ok (.aaload, 1) := by decide +kernel
theorem dX1_sayNo_36 : decode cX1_sayNo 36 = .ok (.aload_n 1, 1) := by decide +kernel
theorem dX1_sayNo_37 : decode cX1_sayNo 37 = .ok (.getfield 97, 3) := by decide +kernel
theorem dX1_sayNo_40 : decode cX1_sayNo 40 = .ok (.dup2, 1) := by decide +kernel
theorem dX1_sayNo_41 : decode cX1_sayNo 41 = .ok (.iaload, 1) := by decide +kernel
theorem dX1_sayNo_42 : decode cX1_sayNo 42 = .ok (.iconst 1, 1) := by decide +kernel
theorem dX1_sayNo_43 : decode cX1_sayNo 43 = .ok (.iadd, 1) := by decide +kernel
theorem dX1_sayNo_44 : decode cX1_sayNo 44 = .ok (.iastore, 1) := by decide +kernel
theorem dX1_sayNo_45 : decode cX1_sayNo 45 = .ok (.iconst 1, 1) := by decide +kernel
theorem dX1_sayNo_46 : decode cX1_sayNo 46 = .ok (.ireturn, 1) := by decide +kernel
theorem dX1_sayNo_47 : decode cX1_sayNo 47 = .ok (.aload_n 2, 1) := by decide +kernel
theorem dX1_sayNo_48 : decode cX1_sayNo 48 = .ok (.getfield 134, 3) := by decide +kernel
theorem dX1_sayNo_51 : decode cX1_sayNo 51 = .ok (.iconst 1, 1) := by decide +kernel
theorem dX1_sayNo_52 : decode cX1_sayNo 52 = .ok (.if_icmp .ne 31, 3) := by decide +kernel
theorem dX1_sayNo_55 : decode cX1_sayNo 55 = .ok (.aload_n 1, 1) := by decide +kernel
theorem dX1_sayNo_56 : decode cX1_sayNo 56 = .ok (.aload_n 0, 1) := by decide +kernel
theorem dX1_sayNo_57 : decode cX1_sayNo 57 = .ok (.getfield 24, 3) := by decide +kernel
theorem dX1_sayNo_60 : decode cX1_sayNo 60 = .ok (.putfield 103, 3) := by decide +kernel
theorem dX1_sayNo_63 : decode cX1_sayNo 63 = .ok (.aload_n 0, 1) := by decide +kernel
theorem dX1_sayNo_64 : decode cX1_sayNo 64 = .ok (.dup, 1) := by decide +kernel
theorem dX1_sayNo_65 : decode cX1_sayNo 65 = .ok (.getfield 24, 3) := by decide +kernel
theorem dX1_sayNo_68 : decode cX1_sayNo 68 = .ok (.iconst 1, 1) := by decide +kernel
theorem dX1_sayNo_69 : decode cX1_sayNo 69 = .ok (.iadd, 1) := by decide +kernel
theorem dX1_sayNo_70 : decode cX1_sayNo 70 = .ok (.putfield 24, 3) := by decide +kernel
theorem dX1_sayNo_73 : decode cX1_sayNo 73 = .ok (.aload_n 1, 1) := by decide +kernel
theorem dX1_sayNo_74 : decode cX1_sayNo 74 = .ok (.iconst 0, 1) := by decide +kernel
theorem dX1_sayNo_75 : decode cX1_sayNo 75 = .ok (.putfield 100, 3) := by decide +kernel
theorem dX1_sayNo_78 : decode cX1_sayNo 78 = .ok (.aload_n 1, 1) := by decide +kernel
theorem dX1_sayNo_79 : decode cX1_sayNo 79 = .ok (.iconst 0, 1) := by decide +kernel
theorem dX1_sayNo_80 : decode cX1_sayNo 80 = .ok (.putfield 130, 3) := by decide +kernel
theorem dX1_sayNo_83 : decode cX1_sayNo 83 = .ok (.iconst 0, 1) := by decide +kernel
theorem dX1_sayNo_84 : decode cX1_sayNo 84 = .ok (.ireturn, 1) := by decide +kernel
theorem dX1_arrive_0 : decode cX1_arrive 0 = .ok (.aload_n 0, 1) := by decide +kernel
theorem dX1_arrive_1 : decode cX1_arrive 1 = .ok (.invokevirtual 50, 3) := by decide +kernel
theorem dX1_arrive_4 : decode cX1_arrive 4 = .ok (.ifCond .eq 18, 3) := by decide +kernel
theorem dX1_arrive_7 : decode cX1_arrive 7 = .ok (.aload_n 0, 1) := by decide +kernel
theorem dX1_arrive_8 : decode cX1_arrive 8 = .ok (.getfield 32, 3) := by decide +kernel
theorem dX1_arrive_11 : decode cX1_arrive 11 = .ok (.iconst 4, 1) := by decide +kernel
theorem dX1_arrive_12 : decode cX1_arrive 12 = .ok (.aaload, 1) := by decide +kernel
theorem dX1_arrive_13 : decode cX1_arrive 13 = .ok (.iload_n 1, 1) := by decide +kernel
theorem dX1_arrive_14 : decode cX1_arrive 14 = .ok (.dup2, 1) := by decide +kernel
theorem dX1_arrive_15 : decode cX1_arrive 15 = .ok (.iaload, 1) := by decide +kernel
theorem dX1_arrive_16 : decode cX1_arrive 16 = .ok (.iconst 1, 1) := by decide +kernel
theorem dX1_arrive_17 : decode cX1_arrive 17 = .ok (.iadd, 1) := by decide +kernel
theorem dX1_arrive_18 : decode cX1_arrive 18 = .ok (.iastore, 1) := by decide +kernel
theorem dX1_arrive_19 : decode cX1_arrive 19 = .ok (.goto 8, 3) := by decide +kernel
theorem dX1_arrive_22 : decode cX1_arrive 22 = .ok (.aload_n 0, 1) := by decide +kernel
theorem dX1_arrive_23 : decode cX1_arrive 23 = .ok (.iload_n 1, 1) := by decide +kernel
theorem dX1_arrive_24 : decode cX1_arrive 24 = .ok (.invokevirtual 137, 3) := by decide +kernel
theorem dX1_arrive_27 : decode cX1_arrive 27 = .ok (.return_, 1) := by decide +kernel
theorem dX1_growOlder_0 : decode cX1_growOlder 0 = .ok (.iconst 0, 1) := by decide +kernel
theorem dX1_growOlder_1 : decode cX1_growOlder 1 = .ok (.istore_n 2, 1) := by decide +kernel
theorem dX1_growOlder_2 : decode cX1_growOlder 2 = .ok (.iload_n 2, 1) := by decide +kernel
theorem dX1_growOlder_3 : decode cX1_growOlder 3 = .ok (.aload_n 0, 1) := by decide +kernel
theorem dX1_growOlder_4 : decode cX1_growOlder 4 = .ok (.getfield 17, 3) := by decide +kernel
theorem dX1_growOlder_7 : decode cX1_growOlder 7 = .ok (.if_icmp .ge 67, 3) := by decide +kernel
theorem dX1_growOlder_10 : decode cX1_growOlder 10 = .ok (.aload_n 0, 1) := by decide +kernel
theorem dX1_growOlder_11 : decode cX1_growOlder 11 = .ok (.getfield 11, 3) := by decide +kernel
theorem dX1_growOlder_14 : decode cX1_growOlder 14 = .ok (.iload_n 2, 1) := by decide +kernel
theorem dX1_growOlder_15 : decode cX1_growOlder 15 = .ok (.aaload, 1) := by decide +kernel
theorem dX1_growOlder_16 : decode cX1_growOlder 16 = .ok (.astore_n 3, 1) := by decide +kernel
theorem dX1_growOlder_17 : decode cX1_growOlder 17 = .ok (.aload_n 3, 1) := by decide +kernel
theorem dX1_growOlder_18 : decode cX1_growOlder 18 = .ok (.dup, 1) := by decide +kernel
theorem dX1_growOlder_19 : decode cX1_growOlder 19 = .ok (.getfield 115, 3) := by decide +kernel
theorem dX1_growOlder_22 : decode cX1_growOlder 22 = .ok (.iconst 1, 1) := by decide +kernel
theorem dX1_growOlder_23 : decode cX1_growOlder 23 = .ok (.iadd, 1) := by decide +kernel
theorem dX1_growOlder_24 : decode cX1_growOlder 24 = .ok (.putfield 115, 3) := by decide +kernel
theorem dX1_growOlder_27 : decode cX1_growOlder 27 = .ok (.aload_n 3, 1) := by decide +kernel
theorem dX1_growOlder_28 : decode cX1_growOlder 28 = .ok (.aload_n 3, 1) := by decide +kernel
theorem dX1_growOlder_29 : decode cX1_growOlder 29 = .ok (.getfield 100, 3) := by decide +kernel
theorem dX1_growOlder_32 : decode cX1_growOlder 32 = .ok (.iload_n 1, 1) := by decide +kernel
theorem dX1_growOlder_33 : decode cX1_growOlder 33 = .ok (.iadd, 1) := by decide +kernel
theorem dX1_growOlder_34 : decode cX1_growOlder 34 = .ok (.bipush 99, 2) := by decide +kernel
theorem dX1_growOlder_36 : decode cX1_growOlder 36 = .ok (.invokestatic 140, 3) := by decide +kernel
theorem dX1_growOlder_39 : decode cX1_growOlder 39 = .ok (.putfield 100, 3) := by decide +kernel
theorem dX1_growOlder_42 : decode cX1_growOlder 42 = .ok (.aload_n 0, 1) := by decide +kernel
theorem dX1_growOlder_43 : decode cX1_growOlder 43 = .ok (.getfield 32, 3) := by decide +kernel
theorem dX1_growOlder_46 : decode cX1_growOlder 46 = .ok (.iconst 5, 1) := by decide +kernel
theorem dX1_growOlder_47 : decode cX1_growOlder 47 = .ok (.aaload, 1) := by decide +kernel
theorem dX1_growOlder_48 : decode cX1_growOlder 48 = .ok (.aload_n 3, 1) := by decide +kernel
theorem dX1_growOlder_49 : decode cX1_growOlder 49 = .ok (.getfield 97, 3) := by decide +kernel
theorem dX1_growOlder_52 : decode cX1_growOlder 52 = .ok (.dup2, 1) := by decide +kernel
theorem dX1_growOlder_53 : decode cX1_growOlder 53 = .ok (.iaload, 1) := by decide +kernel
theorem dX1_growOlder_54 : decode cX1_growOlder 54 = .ok (.aload_n 0, 1) := by decide +kernel
theorem dX1_growOlder_55 : decode cX1_growOlder 55 = .ok (.getfield 35, 3) := by decide +kernel
theorem dX1_growOlder_58 : decode cX1_growOlder 58 = .ok (.getfield 93, 3) := by decide +kernel
theorem dX1_growOlder_61 : decode cX1_growOlder 61 = .ok (.aload_n 3, 1) := by decide +kernel
theorem dX1_growOlder_62 : decode cX1_growOlder 62 = .ok (.getfield 97, 3) := by decide +kernel
theorem dX1_growOlder_65 : decode cX1_growOlder 65 = .ok (.iaload, 1) := by decide +kernel
theorem dX1_growOlder_66 : decode cX1_growOlder 66 = .ok (.iadd, 1) := by decide +kernel
theorem dX1_growOlder_67 : decode cX1_growOlder 67 = .ok (.iastore, 1) := by decide +kernel
theorem dX1_growOlder_68 : decode cX1_growOlder 68 = .ok (.iinc 2 1, 3) := by decide +kernel
theorem dX1_growOlder_71 : decode cX1_growOlder 71 = .ok (.goto (-69), 3) := by decide +kernel
theorem dX1_growOlder_74 : decode cX1_growOlder 74 = .ok (.return_, 1) := by decide +kernel
theorem dX2_init_0 : decode cX2_init 0 = .ok (.aload_n 0, 1) := by decide +kernel
theorem dX2_init_1 : decode cX2_init 1 = .ok (.invokespecial 3, 3) := by decide +kernel
theorem dX2_init_4 : decode cX2_init 4 = .ok (.aload_n 0, 1) := by decide +kernel
theorem dX2_init_5 : decode cX2_init 5 = .ok (.bipush 8, 2) := by decide +kernel
theorem dX2_init_7 : decode cX2_init 7 = .ok (.newarray .int, 2) := by decide +kernel
theorem dX2_init_9 : decode cX2_init 9 = .ok (.putfield 9, 3) := by decide +kernel
theorem dX2_init_12 : decode cX2_init 12 = .ok (.aload_n 0, 1) := by decide +kernel
theorem dX2_init_13 : decode cX2_init 13 = .ok (.bipush 8, 2) := by decide +kernel
theorem dX2_init_15 : decode cX2_init 15 = .ok (.newarray .int, 2) := by decide +kernel
theorem dX2_init_17 : decode cX2_init 17 = .ok (.putfield 15, 3) := by decide +kernel
theorem dX2_init_20 : decode cX2_init 20 = .ok (.aload_n 0, 1) := by decide +kernel
theorem dX2_init_21 : decode cX2_init 21 = .ok (.iconst 0, 1) := by decide +kernel
theorem dX2_init_22 : decode cX2_init 22 = .ok (.putfield 18, 3) := by decide +kernel
theorem dX2_init_25 : decode cX2_init 25 = .ok (.aload_n 0, 1) := by decide +kernel
theorem dX2_init_26 : decode cX2_init 26 = .ok (.aload_n 1, 1) := by decide +kernel
theorem dX2_init_27 : decode cX2_init 27 = .ok (.putfield 22, 3) := by decide +kernel
theorem dX2_init_30 : decode cX2_init 30 = .ok (.return_, 1) := by decide +kernel
theorem dX2_add_0 : decode cX2_add 0 = .ok (.aload_n 0, 1) := by decide +kernel
theorem dX2_add_1 : decode cX2_add 1 = .ok (.getfield 18, 3) := by decide +kernel
theorem dX2_add_4 : decode cX2_add 4 = .ok (.bipush 8, 2) := by decide +kernel
theorem dX2_add_6 : decode cX2_add 6 = .ok (.if_icmp .lt 6, 3) := by decide +kernel
theorem dX2_add_9 : decode cX2_add 9 = .ok (.bipush (-5), 2) := by decide +kernel
theorem dX2_add_11 : decode cX2_add 11 = .ok (.ireturn, 1) := by decide +kernel
theorem dX2_add_12 : decode cX2_add 12 = .ok (.aload_n 0, 1) := by decide +kernel
theorem dX2_add_13 : decode cX2_add 13 = .ok (.getfield 9, 3) := by decide +kernel
theorem dX2_add_16 : decode cX2_add 16 = .ok (.aload_n 0, 1) := by decide +kernel
theorem dX2_add_17 : decode cX2_add 17 = .ok (.getfield 18, 3) := by decide +kernel
theorem dX2_add_20 : decode cX2_add 20 = .ok (.iload_n 1, 1) := by decide +kernel
theorem dX2_add_21 : decode cX2_add 21 = .ok (.iastore, 1) := by decide +kernel
theorem dX2_add_22 : decode cX2_add 22 = .ok (.aload_n 0, 1) := by decide +kernel
theorem dX2_add_23 : decode cX2_add 23 = .ok (.getfield 15, 3) := by decide +kernel
theorem dX2_add_26 : decode cX2_add 26 = .ok (.aload_n 0, 1) := by decide +kernel
theorem dX2_add_27 : decode cX2_add 27 = .ok (.getfield 18, 3) := by decide +kernel
theorem dX2_add_30 : decode cX2_add 30 = .ok (.iload_n 2, 1) := by decide +kernel
theorem dX2_add_31 : decode cX2_add 31 = .ok (.iastore, 1) := by decide +kernel
theorem dX2_add_32 : decode cX2_add 32 = .ok (.aload_n 0, 1) := by decide +kernel
theorem dX2_add_33 : decode cX2_add 33 = .ok (.dup, 1) := by decide +kernel
theorem dX2_add_34 : decode cX2_add 34 = .ok (.getfield 18, 3) := by decide +kernel
theorem dX2_add_37 : decode cX2_add 37 = .ok (.iconst 1, 1) := by decide +kernel
theorem dX2_add_38 : decode cX2_add 38 = .ok (.iadd, 1) := by decide +kernel
theorem dX2_add_39 : decode cX2_add 39 = .ok (.putfield 18, 3) := by decide +kernel
theorem dX2_add_42 : decode cX2_add 42 = .ok (.aload_n 0, 1) := by decide +kernel
theorem dX2_add_43 : decode cX2_add 43 = .ok (.getfield 18, 3) := by decide +kernel
theorem dX2_add_46 : decode cX2_add 46 = .ok (.iconst 1, 1) := by decide +kernel
theorem dX2_add_47 : decode cX2_add 47 = .ok (.isub, 1) := by decide +kernel
theorem dX2_add_48 : decode cX2_add 48 = .ok (.ireturn, 1) := by decide +kernel
theorem dX2_likesMore_0 : decode cX2_likesMore 0 = .ok (.aload_n 0, 1) := by decide +kernel
theorem dX2_likesMore_1 : decode cX2_likesMore 1 = .ok (.getfield 22, 3) := by decide +kernel
theorem dX2_likesMore_4 : decode cX2_likesMore 4 = .ok (.getfield 26, 3) := by decide +kernel
theorem dX2_likesMore_7 : decode cX2_likesMore 7 = .ok (.aload_n 0, 1) := by decide +kernel
theorem dX2_likesMore_8 : decode cX2_likesMore 8 = .ok (.getfield 9, 3) := by decide +kernel
theorem dX2_likesMore_11 : decode cX2_likesMore 11 = .ok (.iload_n 1, 1) := by decide +kernel
theorem dX2_likesMore_12 : decode cX2_likesMore 12 = .ok (.iaload, 1) := by decide +kernel
theorem dX2_likesMore_13 : decode cX2_likesMore 13 = .ok (.aaload, 1) := by decide +kernel
theorem dX2_likesMore_14 : decode cX2_likesMore 14 = .ok (.astore 4, 2) := by decide +kernel
theorem dX2_likesMore_16 : decode cX2_likesMore 16 = .ok (.aload 4, 2) := by decide +kernel
theorem dX2_likesMore_18 : decode cX2_likesMore 18 = .ok (.iload_n 2, 1) := by decide +kernel
theorem dX2_likesMore_19 : decode cX2_likesMore 19 = .ok (.iaload, 1) := by decide +kernel
theorem dX2_likesMore_20 : decode cX2_likesMore 20 = .ok (.aload 4, 2) := by decide +kernel
theorem dX2_likesMore_22 : decode cX2_likesMore 22 = .ok (.iload_n 3, 1) := by decide +kernel
theorem dX2_likesMore_23 : decode cX2_likesMore 23 = .ok (.iaload, 1) := by decide +kernel
theorem dX2_likesMore_24 : decode cX2_likesMore 24 = .ok (.if_icmp .le 7, 3) := by decide +kernel
theorem dX2_likesMore_27 : decode cX2_likesMore 27 = .ok (.iconst 1, 1) := by decide +kernel
theorem dX2_likesMore_28 : decode cX2_likesMore 28 = .ok (.goto 4, 3) := by decide +kernel
theorem dX2_likesMore_31 : decode cX2_likesMore 31 = .ok (.iconst 0, 1) := by decide +kernel
theorem dX2_likesMore_32 : decode cX2_likesMore 32 = .ok (.ireturn, 1) := by decide +kernel
theorem dX3_init_0 : decode cX3_init 0 = .ok (.aload_n 0, 1) := by decide +kernel
theorem dX3_init_1 : decode cX3_init 1 = .ok (.invokespecial 3, 3) := by decide +kernel
theorem dX3_init_4 : decode cX3_init 4 = .ok (.aload_n 0, 1) := by decide +kernel
theorem dX3_init_5 : decode cX3_init 5 = .ok (.bipush 6, 2) := by decide +kernel
theorem dX3_init_7 : decode cX3_init 7 = .ok (.newarray .int, 2) := by decide +kernel
theorem dX3_init_9 : decode cX3_init 9 = .ok (.putfield 9, 3) := by decide +kernel
theorem dX3_init_12 : decode cX3_init 12 = .ok (.aload_n 0, 1) := by decide +kernel
theorem dX3_init_13 : decode cX3_init 13 = .ok (.iconst 0, 1) := by decide +kernel
theorem dX3_init_14 : decode cX3_init 14 = .ok (.putfield 15, 3) := by decide +kernel
theorem dX3_init_17 : decode cX3_init 17 = .ok (.aload_n 0, 1) := by decide +kernel
theorem dX3_init_18 : decode cX3_init 18 = .ok (.iconst 4, 1) := by decide +kernel
theorem dX3_init_19 : decode cX3_init 19 = .ok (.newarray .int, 2) := by decide +kernel
theorem dX3_init_21 : decode cX3_init 21 = .ok (.putfield 19, 3) := by decide +kernel
theorem dX3_init_24 : decode cX3_init 24 = .ok (.aload_n 0, 1) := by decide +kernel
theorem dX3_init_25 : decode cX3_init 25 = .ok (.aload_n 1, 1) := by decide +kernel
theorem dX3_init_26 : decode cX3_init 26 = .ok (.putfield 22, 3) := by decide +kernel
theorem dX3_init_29 : decode cX3_init 29 = .ok (.return_, 1) := by decide +kernel
theorem dX3_gather_0 : decode cX3_gather 0 = .ok (.aload_n 0, 1) := by decide +kernel
theorem dX3_gather_1 : decode cX3_gather 1 = .ok (.iload_n 2, 1) := by decide +kernel
theorem dX3_gather_2 : decode cX3_gather 2 = .ok (.aload_n 1, 1) := by decide +kernel
theorem dX3_gather_3 : decode cX3_gather 3 = .ok (.getfield 26, 3) := by decide +kernel
theorem dX3_gather_6 : decode cX3_gather 6 = .ok (.bipush 6, 2) := by decide +kernel
theorem dX3_gather_8 : decode cX3_gather 8 = .ok (.invokestatic 31, 3) := by decide +kernel
theorem dX3_gather_11 : decode cX3_gather 11 = .ok (.invokestatic 31, 3) := by decide +kernel
theorem dX3_gather_14 : decode cX3_gather 14 = .ok (.putfield 15, 3) := by decide +kernel
theorem dX3_gather_17 : decode cX3_gather 17 = .ok (.iconst 0, 1) := by decide +kernel
theorem dX3_gather_18 : decode cX3_gather 18 = .ok (.istore_n 3, 1) := by decide +kernel
theorem dX3_gather_19 : decode cX3_gather 19 = .ok (.iload_n 3, 1) := by decide +kernel
theorem dX3_gather_20 : decode cX3_gather 20 = .ok (.aload_n 0, 1) := by decide +kernel
theorem dX3_gather_21 : decode cX3_gather 21 = .ok (.getfield 15, 3) := by decide +kernel
theorem dX3_gather_24 : decode cX3_gather 24 = .ok (.if_icmp .ge 24, 3) := by decide +kernel
theorem dX3_gather_27 : decode cX3_gather 27 = .ok (.aload_n 0, 1) := by decide +kernel
theorem dX3_gather_28 : decode cX3_gather 28 = .ok (.getfield 9, 3) := by decide +kernel
theorem dX3_gather_31 : decode cX3_gather 31 = .ok (.iload_n 3, 1) := by decide +kernel
theorem dX3_gather_32 : decode cX3_gather 32 = .ok (.aload_n 1, 1) := by decide +kernel
theorem dX3_gather_33 : decode cX3_gather 33 = .ok (.getfield 37, 3) := by decide +kernel
theorem dX3_gather_36 : decode cX3_gather 36 = .ok (.iload_n 3, 1) := by decide +kernel
theorem dX3_gather_37 : decode cX3_gather 37 = .ok (.aaload, 1) := by decide +kernel
theorem dX3_gather_38 : decode cX3_gather 38 = .ok (.getfield 41, 3) := by decide +kernel
theorem dX3_gather_41 : decode cX3_gather 41 = .ok (.iastore, 1) := by decide +kernel
theorem dX3_gather_42 : decode cX3_gather 42 = .ok (.iinc 3 1, 3) := by decide +kernel
theorem dX3_gather_45 : decode cX3_gather 45 = .ok (.goto (-26), 3) := by decide +kernel
theorem dX3_gather_48 : decode cX3_gather 48 = .ok (.return_, 1) := by decide +kernel
theorem dX3_lay_0 : decode cX3_lay 0 = .ok (.aload_n 0, 1) := by decide +kernel
theorem dX3_lay_1 : decode cX3_lay 1 = .ok (.getfield 19, 3) := by decide +kernel
theorem dX3_lay_4 : decode cX3_lay 4 = .ok (.iconst 0, 1) := by decide +kernel
theorem dX3_lay_5 : decode cX3_lay 5 = .ok (.invokestatic 46, 3) := by decide +kernel
theorem dX3_lay_8 : decode cX3_lay 8 = .ok (.iconst 0, 1) := by decide +kernel
theorem dX3_lay_9 : decode cX3_lay 9 = .ok (.istore_n 3, 1) := by decide +kernel
theorem dX3_lay_10 : decode cX3_lay 10 = .ok (.iload_n 3, 1) := by decide +kernel
theorem dX3_lay_11 : decode cX3_lay 11 = .ok (.iload_n 2, 1) := by decide +kernel
theorem dX3_lay_12 : decode cX3_lay 12 = .ok (.if_icmp .ge 25, 3) := by decide +kernel
theorem dX3_lay_15 : decode cX3_lay 15 = .ok (.aload_n 0, 1) := by decide +kernel
theorem dX3_lay_16 : decode cX3_lay 16 = .ok (.getfield 19, 3) := by decide +kernel
theorem dX3_lay_19 : decode cX3_lay 19 = .ok (.iload_n 1, 1) := by decide +kernel
theorem dX3_lay_20 : decode cX3_lay 20 = .ok (.iconst 2, 1) := by decide +kernel
theorem dX3_lay_21 : decode cX3_lay 21 = .ok (.iload_n 3, 1) := by decide +kernel
theorem dX3_lay_22 : decode cX3_lay 22 = .ok (.imul, 1) := by decide +kernel
theorem dX3_lay_23 : decode cX3_lay 23 = .ok (.ishr, 1) := by decide +kernel
theorem dX3_lay_24 : decode cX3_lay 24 = .ok (.iconst 3, 1) := by decide +kernel
theorem dX3_lay_25 : decode cX3_lay 25 = .ok (.iand, 1) := by decide +kernel
theorem dX3_lay_26 : decode cX3_lay 26 = .ok (.dup2, 1) := by decide +kernel
theorem dX3_lay_27 : decode cX3_lay 27 = .ok (.iaload, 1) := by decide +kernel
theorem dX3_lay_28 : decode cX3_lay 28 = .ok (.iconst 1, 1) := by decide +kernel
theorem dX3_lay_29 : decode cX3_lay 29 = .ok (.iadd, 1) := by decide +kernel
theorem dX3_lay_30 : decode cX3_lay 30 = .ok (.iastore, 1) := by decide +kernel
theorem dX3_lay_31 : decode cX3_lay 31 = .ok (.iinc 3 1, 3) := by decide +kernel
theorem dX3_lay_34 : decode cX3_lay 34 = .ok (.goto (-24), 3) := by decide +kernel
theorem dX3_lay_37 : decode cX3_lay 37 = .ok (.return_, 1) := by decide +kernel
theorem dX3_rowsFor_0 : decode cX3_rowsFor 0 = .ok (.aload_n 0, 1) := by decide +kernel
theorem dX3_rowsFor_1 : decode cX3_rowsFor 1 = .ok (.iconst 0, 1) := by decide +kernel
theorem dX3_rowsFor_2 : decode cX3_rowsFor 2 = .ok (.iconst 0, 1) := by decide +kernel
theorem dX3_rowsFor_3 : decode cX3_rowsFor 3 = .ok (.iload_n 1, 1) := by decide +kernel
theorem dX3_rowsFor_4 : decode cX3_rowsFor 4 = .ok (.iload_n 2, 1) := by decide +kernel
theorem dX3_rowsFor_5 : decode cX3_rowsFor 5 = .ok (.invokevirtual 52, 3) := by decide +kernel
theorem dX3_rowsFor_8 : decode cX3_rowsFor 8 = .ok (.ireturn, 1) := by decide +kernel
theorem dX3_rowsFrom_0 : decode cX3_rowsFrom 0 = .ok (.iconst 0, 1) := by decide +kernel
theorem dX3_rowsFrom_1 : decode cX3_rowsFrom 1 = .ok (.istore 5, 2) := by decide +kernel
theorem dX3_rowsFrom_3 : decode cX3_rowsFrom 3 = .ok (.iload_n 1, 1) := by decide +kernel
theorem dX3_rowsFrom_4 : decode cX3_rowsFrom 4 = .ok (.aload_n 0, 1) := by decide +kernel
theorem dX3_rowsFrom_5 : decode cX3_rowsFrom 5 = .ok (.getfield 15, 3) := by decide +kernel
theorem dX3_rowsFrom_8 : decode cX3_rowsFrom 8 = .ok (.if_icmp .lt 6, 3) := by decide +kernel
theorem dX3_rowsFrom_11 : decode cX3_rowsFrom 11 = .ok (.iload 5, 2) := by decide +kernel
theorem dX3_rowsFrom_13 : decode cX3_rowsFrom 13 = .ok (.ireturn, 1) := by decide +kernel
theorem dX3_rowsFrom_14 : decode cX3_rowsFrom 14 = .ok (.iconst 0, 1) := by decide +kernel
theorem dX3_rowsFrom_15 : decode cX3_rowsFrom 15 = .ok (.istore 6, 2) := by decide +kernel
theorem dX3_rowsFrom_17 : decode cX3_rowsFrom 17 = .ok (.iload 6, 2) := by decide +kernel
theorem dX3_rowsFrom_19 : decode cX3_rowsFrom 19 = .ok (.aload_n 0, 1) := by decide +kernel
theorem dX3_rowsFrom_20 : decode cX3_rowsFrom 20 = .ok (.getfield 15, 3) := by decide +kernel
theorem dX3_rowsFrom_23 : decode cX3_rowsFrom 23 = .ok (.if_icmp .ge 124, 3) := by decide +kernel
theorem dX3_rowsFrom_26 : decode cX3_rowsFrom 26 = .ok (.iload_n 2, 1) := by decide +kernel
theorem dX3_rowsFrom_27 : decode cX3_rowsFrom 27 = .ok (.iload 6, 2) := by decide +kernel
theorem dX3_rowsFrom_29 : decode cX3_rowsFrom 29 = .ok (.ishr, 1) := by decide +kernel
theorem dX3_rowsFrom_30 : decode cX3_rowsFrom 30 = .ok (.iconst 1, 1) := by decide +kernel
theorem dX3_rowsFrom_31 : decode cX3_rowsFrom 31 = .ok (.iand, 1) := by decide +kernel
theorem dX3_rowsFrom_32 : decode cX3_rowsFrom 32 = .ok (.ifCond .eq 6, 3) := by decide +kernel
theorem dX3_rowsFrom_35 : decode cX3_rowsFrom 35 = .ok (.goto 106, 3) := by decide +kernel
theorem dX3_rowsFrom_38 : decode cX3_rowsFrom 38 = .ok (.aload_n 0, 1) := by decide +kernel
theorem dX3_rowsFrom_39 : decode cX3_rowsFrom 39 = .ok (.aload_n 0, 1) := by decide +kernel
theorem dX3_rowsFrom_40 : decode cX3_rowsFrom 40 = .ok (.getfield 9, 3) := by decide +kernel
theorem dX3_rowsFrom_43 : decode cX3_rowsFrom 43 = .ok (.iload 6, 2) := by decide +kernel
theorem dX3_rowsFrom_45 : decode cX3_rowsFrom 45 = .ok (.iaload, 1) := by decide +kernel
theorem dX3_rowsFrom_46 : decode cX3_rowsFrom 46 = .ok (.invokevirtual 56, 3) := by decide +kernel
theorem dX3_rowsFrom_49 : decode cX3_rowsFrom 49 = .ok (.istore 7, 2) := by decide +kernel
theorem dX3_rowsFrom_51 : decode cX3_rowsFrom 51 = .ok (.iload 7, 2) := by decide +kernel
theorem dX3_rowsFrom_53 : decode cX3_rowsFrom 53 = .ok (.iconst (-1), 1) := by decide +kernel
theorem dX3_rowsFrom_54 : decode cX3_rowsFrom 54 = .ok (.if_icmp .ne 5, 3) := by decide +kernel
theorem dX3_rowsFrom_57 : decode cX3_rowsFrom 57 = .ok (.iconst 0, 1) := by decide +kernel
theorem dX3_rowsFrom_58 : decode cX3_rowsFrom 58 = .ok (.ireturn, 1) := by decide +kernel
theorem dX3_rowsFrom_59 : decode cX3_rowsFrom 59 = .ok (.iload 6, 2) := by decide +kernel
theorem dX3_rowsFrom_61 : decode cX3_rowsFrom 61 = .ok (.iload_n 3, 1) := by decide +kernel
theorem dX3_rowsFrom_62 : decode cX3_rowsFrom 62 = .ok (.if_icmp .eq 49, 3) := by decide +kernel
theorem dX3_rowsFrom_65 : decode cX3_rowsFrom 65 = .ok (.aload_n 0, 1) := by decide +kernel
theorem dX3_rowsFrom_66 : decode cX3_rowsFrom 66 = .ok (.getfield 19, 3) := by decide +kernel
theorem dX3_rowsFrom_69 : decode cX3_rowsFrom 69 = .ok (.iload 7, 2) := by decide +kernel
theorem dX3_rowsFrom_71 : decode cX3_rowsFrom 71 = .ok (.dup2, 1) := by decide +kernel
theorem dX3_rowsFrom_72 : decode cX3_rowsFrom 72 = .ok (.iaload, 1) := by decide +kernel
theorem dX3_rowsFrom_73 : decode cX3_rowsFrom 73 = .ok (.iconst 1, 1) := by decide +kernel
theorem dX3_rowsFrom_74 : decode cX3_rowsFrom 74 = .ok (.isub, 1) := by decide +kernel
theorem dX3_rowsFrom_75 : decode cX3_rowsFrom 75 = .ok (.iastore, 1) := by decide +kernel
theorem dX3_rowsFrom_76 : decode cX3_rowsFrom 76 = .ok (.iload 5, 2) := by decide +kernel
theorem dX3_rowsFrom_78 : decode cX3_rowsFrom 78 = .ok (.aload_n 0, 1) := by decide +kernel
theorem dX3_rowsFrom_79 : decode cX3_rowsFrom 79 = .ok (.iload_n 1, 1) := by decide +kernel
theorem dX3_rowsFrom_80 : decode cX3_rowsFrom 80 = .ok (.iconst 1, 1) := by decide +kernel
theorem dX3_rowsFrom_81 : decode cX3_rowsFrom 81 = .ok (.iadd, 1) := by decide +kernel
theorem dX3_rowsFrom_82 : decode cX3_rowsFrom 82 = .ok (.iload_n 2, 1) := by decide +kernel
theorem dX3_rowsFrom_83 : decode cX3_rowsFrom 83 = .ok (.iconst 1, 1) := by decide +kernel
theorem dX3_rowsFrom_84 : decode cX3_rowsFrom 84 = .ok (.iload 6, 2) := by decide +kernel
theorem dX3_rowsFrom_86 : decode cX3_rowsFrom 86 = .ok (.ishl, 1) := by decide +kernel
theorem dX3_rowsFrom_87 : decode cX3_rowsFrom 87 = .ok (.ior, 1) := by decide +kernel
theorem dX3_rowsFrom_88 : decode cX3_rowsFrom 88 = .ok (.iload_n 3, 1) := by decide +kernel
theorem dX3_rowsFrom_89 : decode cX3_rowsFrom 89 = .ok (.iload 4, 2) := by decide +kernel
theorem dX3_rowsFrom_91 : decode cX3_rowsFrom 91 = .ok (.invokevirtual 52, 3) := by decide +kernel
theorem dX3_rowsFrom_94 : decode cX3_rowsFrom 94 = .ok (.iadd, 1) := by decide +kernel
theorem dX3_rowsFrom_95 : decode cX3_rowsFrom 95 = .ok (.istore 5, 2) := by decide +kernel
theorem dX3_rowsFrom_97 : decode cX3_rowsFrom 97 = .ok (.aload_n 0, 1) := by decide +kernel
theorem dX3_rowsFrom_98 : decode cX3_rowsFrom 98 = .ok (.getfield 19, 3) := by decide +kernel
theorem dX3_rowsFrom_101 : decode cX3_rowsFrom 101 = .ok (.iload 7, 2) := by decide +kernel
theorem dX3_rowsFrom_103 : decode cX3_rowsFrom 103 = .ok (.dup2, 1) := by decide +kernel
theorem dX3_rowsFrom_104 : decode cX3_rowsFrom 104 = .ok (.iaload, 1) := by decide +kernel
theorem dX3_rowsFrom_105 : decode cX3_rowsFrom 105 = .ok (.iconst 1, 1) := by decide +kernel
theorem dX3_rowsFrom_106 : decode cX3_rowsFrom 106 = .ok (.iadd, 1) := by decide +kernel
theorem dX3_rowsFrom_107 : decode cX3_rowsFrom 107 = .ok (.iastore, 1) := by decide +kernel
theorem dX3_rowsFrom_108 : decode cX3_rowsFrom 108 = .ok (.goto 33, 3) := by decide +kernel
theorem dX3_rowsFrom_111 : decode cX3_rowsFrom 111 = .ok (.iload 4, 2) := by decide +kernel
theorem dX3_rowsFrom_113 : decode cX3_rowsFrom 113 = .ok (.iconst (-1), 1) := by decide +kernel
theorem dX3_rowsFrom_114 : decode cX3_rowsFrom 114 = .ok (.if_icmp .eq 10, 3) := by decide +kernel
theorem dX3_rowsFrom_117 : decode cX3_rowsFrom 117 = .ok (.iload 4, 2) := by decide +kernel
theorem dX3_rowsFrom_119 : decode cX3_rowsFrom 119 = .ok (.iload 7, 2) := by decide +kernel
theorem dX3_rowsFrom_121 : decode cX3_rowsFrom 121 = .ok (.if_icmp .ne 20, 3) := by decide +kernel
theorem dX3_rowsFrom_124 : decode cX3_rowsFrom 124 = .ok (.iload 5, 2) := by decide +kernel
theorem dX3_rowsFrom_126 : decode cX3_rowsFrom 126 = .ok (.getstatic 60, 3) := by decide +kernel
theorem dX3_rowsFrom_129 : decode cX3_rowsFrom 129 = .ok (.aload_n 0, 1) := by decide +kernel
theorem dX3_rowsFrom_130 : decode cX3_rowsFrom 130 = .ok (.getfield 15, 3) := by decide +kernel
theorem dX3_rowsFrom_133 : decode cX3_rowsFrom 133 = .ok (.iload_n 1, 1) := by decide +kernel
theorem dX3_rowsFrom_134 : decode cX3_rowsFrom 134 = .ok (.isub, 1) := by decide +kernel
theorem dX3_rowsFrom_135 : decode cX3_rowsFrom 135 = .ok (.iconst 1, 1) := by decide +kernel
theorem dX3_rowsFrom_136 : decode cX3_rowsFrom 136 = .ok (.isub, 1) := by decide +kernel
theorem dX3_rowsFrom_137 : decode cX3_rowsFrom 137 = .ok (.iaload, 1) := by decide +kernel
theorem dX3_rowsFrom_138 : decode cX3_rowsFrom 138 = .ok (.iadd, 1) := by decide +kernel
theorem dX3_rowsFrom_139 : decode cX3_rowsFrom 139 = .ok (.istore 5, 2) := by decide +kernel
theorem dX3_rowsFrom_141 : decode cX3_rowsFrom 141 = .ok (.iinc 6 1, 3) := by decide +kernel
theorem dX3_rowsFrom_144 : decode cX3_rowsFrom 144 = .ok (.goto (-127), 3) := by decide +kernel
theorem dX3_rowsFrom_147 : decode cX3_rowsFrom 147 = .ok (.iload 5, 2) := by decide +kernel
theorem dX3_rowsFrom_149 : decode cX3_rowsFrom 149 = .ok (.ireturn, 1) := by decide +kernel
theorem dX3_kindTaken_0 : decode cX3_kindTaken 0 = .ok (.iconst (-1), 1) := by decide +kernel
theorem dX3_kindTaken_1 : decode cX3_kindTaken 1 = .ok (.istore_n 2, 1) := by decide +kernel
theorem dX3_kindTaken_2 : decode cX3_kindTaken 2 = .ok (.iconst 0, 1) := by decide +kernel
theorem dX3_kindTaken_3 : decode cX3_kindTaken 3 = .ok (.istore_n 3, 1) := by decide +kernel
theorem dX3_kindTaken_4 : decode cX3_kindTaken 4 = .ok (.iload_n 3, 1) := by decide +kernel
theorem dX3_kindTaken_5 : decode cX3_kindTaken 5 = .ok (.iconst 4, 1) := by decide +kernel
theorem dX3_kindTaken_6 : decode cX3_kindTaken 6 = .ok (.if_icmp .ge 53, 3) := by decide +kernel
theorem dX3_kindTaken_9 : decode cX3_kindTaken 9 = .ok (.aload_n 0, 1) := by decide +kernel
theorem dX3_kindTaken_10 : decode cX3_kindTaken 10 = .ok (.getfield 19, 3) := by decide +kernel
theorem dX3_kindTaken_13 : decode cX3_kindTaken 13 = .ok (.iload_n 3, 1) := by decide +kernel
theorem dX3_kindTaken_14 : decode cX3_kindTaken 14 = .ok (.iaload, 1) := by decide +kernel
theorem dX3_kindTaken_15 : decode cX3_kindTaken 15 = .ok (.ifCond .ne 6, 3) := by decide +kernel
theorem dX3_kindTaken_18 : decode cX3_kindTaken 18 = .ok (.goto 35, 3) := by decide +kernel
theorem dX3_kindTaken_21 : decode cX3_kindTaken 21 = .ok (.iload_n 2, 1) := by decide +kernel
theorem dX3_kindTaken_22 : decode cX3_kindTaken 22 = .ok (.iconst (-1), 1) := by decide +kernel
theorem dX3_kindTaken_23 : decode cX3_kindTaken 23 = .ok (.if_icmp .eq 28, 3) := by decide +kernel
theorem dX3_kindTaken_26 : decode cX3_kindTaken 26 = .ok (.aload_n 0, 1) := by decide +kernel
theorem dX3_kindTaken_27 : decode cX3_kindTaken 27 = .ok (.getfield 22, 3) := by decide +kernel
theorem dX3_kindTaken_30 : decode cX3_kindTaken 30 = .ok (.getfield 63, 3) := by decide +kernel
theorem dX3_kindTaken_33 : decode cX3_kindTaken 33 = .ok (.iload_n 1, 1) := by decide +kernel
theorem dX3_kindTaken_34 : decode cX3_kindTaken 34 = .ok (.aaload, 1) := by decide +kernel
theorem dX3_kindTaken_35 : decode cX3_kindTaken 35 = .ok (.iload_n 3, 1) := by decide +kernel
theorem dX3_kindTaken_36 : decode cX3_kindTaken 36 = .ok (.iaload, 1) := by decide +kernel
theorem dX3_kindTaken_37 : decode cX3_kindTaken 37 = .ok (.aload_n 0, 1) := by decide +kernel
theorem dX3_kindTaken_38 : decode cX3_kindTaken 38 = .ok (.getfield 22, 3) := by decide +kernel
theorem dX3_kindTaken_41 : decode cX3_kindTaken 41 = .ok (.getfield 63, 3) := by decide +kernel
theorem dX3_kindTaken_44 : decode cX3_kindTaken 44 = .ok (.iload_n 1, 1) := by decide +kernel
theorem dX3_kindTaken_45 : decode cX3_kindTaken 45 = .ok (.aaload, 1) := by decide +kernel
theorem dX3_kindTaken_46 : decode cX3_kindTaken 46 = .ok (.iload_n 2, 1) := by decide +kernel
theorem dX3_kindTaken_47 : decode cX3_kindTaken 47 = .ok (.iaload, 1) := by decide +kernel
theorem dX3_kindTaken_48 : decode cX3_kindTaken 48 = .ok (.if_icmp .le 5, 3) := by decide +kernel
theorem dX3_kindTaken_51 : decode cX3_kindTaken 51 = .ok (.iload_n 3, 1) := by decide +kernel
theorem dX3_kindTaken_52 : decode cX3_kindTaken 52 = .ok (.istore_n 2, 1) := by decide +kernel
theorem dX3_kindTaken_53 : decode cX3_kindTaken 53 = .ok (.iinc 3 1, 3) := by decide +kernel
theorem dX3_kindTaken_56 : decode cX3_kindTaken 56 = .ok (.goto (-52), 3) := by decide +kernel
theorem dX3_kindTaken_59 : decode cX3_kindTaken 59 = .ok (.iload_n 2, 1) := by decide +kernel
theorem dX3_kindTaken_60 : decode cX3_kindTaken 60 = .ok (.ireturn, 1) := by decide +kernel
theorem dX4_init_0 : decode cX4_init 0 = .ok (.aload_n 0, 1) := by decide +kernel
theorem dX4_init_1 : decode cX4_init 1 = .ok (.invokespecial 1, 3) := by decide +kernel
theorem dX4_init_4 : decode cX4_init 4 = .ok (.return_, 1) := by decide +kernel
theorem dX4_begin_0 : decode cX4_begin 0 = .ok (.aload_n 0, 1) := by decide +kernel
theorem dX4_begin_1 : decode cX4_begin 1 = .ok (.iload_n 1, 1) := by decide +kernel
theorem dX4_begin_2 : decode cX4_begin 2 = .ok (.putfield 7, 3) := by decide +kernel
theorem dX4_begin_5 : decode cX4_begin 5 = .ok (.aload_n 0, 1) := by decide +kernel
theorem dX4_begin_6 : decode cX4_begin 6 = .ok (.iload_n 2, 1) := by decide +kernel
theorem dX4_begin_7 : decode cX4_begin 7 = .ok (.putfield 13, 3) := by decide +kernel
theorem dX4_begin_10 : decode cX4_begin 10 = .ok (.aload_n 0, 1) := by decide +kernel
theorem dX4_begin_11 : decode cX4_begin 11 = .ok (.iconst 0, 1) := by decide +kernel
theorem dX4_begin_12 : decode cX4_begin 12 = .ok (.putfield 16, 3) := by decide +kernel
theorem dX4_begin_15 : decode cX4_begin 15 = .ok (.aload_n 0, 1) := by decide +kernel
theorem dX4_begin_16 : decode cX4_begin 16 = .ok (.iconst 0, 1) := by decide +kernel
theorem dX4_begin_17 : decode cX4_begin 17 = .ok (.putfield 19, 3) := by decide +kernel
theorem dX4_begin_20 : decode cX4_begin 20 = .ok (.aload_n 0, 1) := by decide +kernel
theorem dX4_begin_21 : decode cX4_begin 21 = .ok (.iconst 0, 1) := by decide +kernel
theorem dX4_begin_22 : decode cX4_begin 22 = .ok (.putfield 22, 3) := by decide +kernel
theorem dX4_begin_25 : decode cX4_begin 25 = .ok (.return_, 1) := by decide +kernel
theorem dX4_copy_0 : decode cX4_copy 0 = .ok (.aload_n 0, 1) := by decide +kernel
theorem dX4_copy_1 : decode cX4_copy 1 = .ok (.aload_n 1, 1) := by decide +kernel
theorem dX4_copy_2 : decode cX4_copy 2 = .ok (.getfield 7, 3) := by decide +kernel
theorem dX4_copy_5 : decode cX4_copy 5 = .ok (.putfield 7, 3) := by decide +kernel
theorem dX4_copy_8 : decode cX4_copy 8 = .ok (.aload_n 0, 1) := by decide +kernel
theorem dX4_copy_9 : decode cX4_copy 9 = .ok (.aload_n 1, 1) := by decide +kernel
theorem dX4_copy_10 : decode cX4_copy 10 = .ok (.getfield 13, 3) := by decide +kernel
theorem dX4_copy_13 : decode cX4_copy 13 = .ok (.putfield 13, 3) := by decide +kernel
theorem dX4_copy_16 : decode cX4_copy 16 = .ok (.aload_n 0, 1) := by decide +kernel
theorem dX4_copy_17 : decode cX4_copy 17 = .ok (.aload_n 1, 1) := by decide +kernel
theorem dX4_copy_18 : decode cX4_copy 18 = .ok (.getfield 16, 3) := by decide +kernel
theorem dX4_copy_21 : decode cX4_copy 21 = .ok (.putfield 16, 3) := by decide +kernel
theorem dX4_copy_24 : decode cX4_copy 24 = .ok (.aload_n 0, 1) := by decide +kernel
theorem dX4_copy_25 : decode cX4_copy 25 = .ok (.aload_n 1, 1) := by decide +kernel
theorem dX4_copy_26 : decode cX4_copy 26 = .ok (.getfield 19, 3) := by decide +kernel
theorem dX4_copy_29 : decode cX4_copy 29 = .ok (.putfield 19, 3) := by decide +kernel
theorem dX4_copy_32 : decode cX4_copy 32 = .ok (.aload_n 0, 1) := by decide +kernel
theorem dX4_copy_33 : decode cX4_copy 33 = .ok (.aload_n 1, 1) := by decide +kernel
theorem dX4_copy_34 : decode cX4_copy 34 = .ok (.getfield 22, 3) := by decide +kernel
theorem dX4_copy_37 : decode cX4_copy 37 = .ok (.putfield 22, 3) := by decide +kernel
theorem dX4_copy_40 : decode cX4_copy 40 = .ok (.return_, 1) := by decide +kernel
theorem dX5_init_0 : decode cX5_init 0 = .ok (.aload_n 0, 1) := by decide +kernel
theorem dX5_init_1 : decode cX5_init 1 = .ok (.invokespecial 3, 3) := by decide +kernel
theorem dX5_init_4 : decode cX5_init 4 = .ok (.aload_n 0, 1) := by decide +kernel
theorem dX5_init_5 : decode cX5_init 5 = .ok (.sipush 2500, 3) := by decide +kernel
theorem dX5_init_8 : decode cX5_init 8 = .ok (.newarray .int, 2) := by decide +kernel
theorem dX5_init_10 : decode cX5_init 10 = .ok (.putfield 9, 3) := by decide +kernel
theorem dX5_init_13 : decode cX5_init 13 = .ok (.aload_n 0, 1) := by decide +kernel
theorem dX5_init_14 : decode cX5_init 14 = .ok (.iconst 4, 1) := by decide +kernel
theorem dX5_init_15 : decode cX5_init 15 = .ok (.iconst 5, 1) := by decide +kernel
theorem dX5_init_16 : decode cX5_init 16 = .ok (.multianewarray 15 2, 4) := by decide +kernel
theorem dX5_init_20 : decode cX5_init 20 = .ok (.putfield 17, 3) := by decide +kernel
theorem dX5_init_23 : decode cX5_init 23 = .ok (.aload_n 0, 1) := by decide +kernel
theorem dX5_init_24 : decode cX5_init 24 = .ok (.sipush 625, 3) := by decide +kernel
theorem dX5_init_27 : decode cX5_init 27 = .ok (.newarray .int, 2) := by decide +kernel
theorem dX5_init_29 : decode cX5_init 29 = .ok (.putfield 20, 3) := by decide +kernel
theorem dX5_init_32 : decode cX5_init 32 = .ok (.aload_n 0, 1) := by decide +kernel
theorem dX5_init_33 : decode cX5_init 33 = .ok (.iconst 0, 1) := by decide +kernel
theorem dX5_init_34 : decode cX5_init 34 = .ok (.putfield 23, 3) := by decide +kernel
theorem dX5_init_37 : decode cX5_init 37 = .ok (.aload_n 0, 1) := by decide +kernel
theorem dX5_init_38 : decode cX5_init 38 = .ok (.iconst 0, 1) := by decide +kernel
theorem dX5_init_39 : decode cX5_init 39 = .ok (.putfield 27, 3) := by decide +kernel
theorem dX5_init_42 : decode cX5_init 42 = .ok (.aload_n 0, 1) := by decide +kernel
theorem dX5_init_43 : decode cX5_init 43 = .ok (.aload_n 1, 1) := by decide +kernel
theorem dX5_init_44 : decode cX5_init 44 = .ok (.putfield 30, 3) := by decide +kernel
theorem dX5_init_47 : decode cX5_init 47 = .ok (.return_, 1) := by decide +kernel
theorem dX5_forget_0 : decode cX5_forget 0 = .ok (.aload_n 0, 1) := by decide +kernel
theorem dX5_forget_1 : decode cX5_forget 1 = .ok (.iconst 0, 1) := by decide +kernel
theorem dX5_forget_2 : decode cX5_forget 2 = .ok (.putfield 27, 3) := by decide +kernel
theorem dX5_forget_5 : decode cX5_forget 5 = .ok (.return_, 1) := by decide +kernel
theorem dX5_areKnownFor_0 : decode cX5_areKnownFor 0 = .ok (.aload_n 0, 1) := by decide +kernel
theorem dX5_areKnownFor_1 : decode cX5_areKnownFor 1 = .ok (.getfield 27, 3) := by decide +kernel
theorem dX5_areKnownFor_4 : decode cX5_areKnownFor 4 = .ok (.iload_n 1, 1) := by decide +kernel
theorem dX5_areKnownFor_5 : decode cX5_areKnownFor 5 = .ok (.if_icmp .ne 7, 3) := by decide +kernel
theorem dX5_areKnownFor_8 : decode cX5_areKnownFor 8 = .ok (.iconst 1, 1) := by decide +kernel
theorem dX5_areKnownFor_9 : decode cX5_areKnownFor 9 = .ok (.goto 4, 3) := by decide +kernel
theorem dX5_areKnownFor_12 : decode cX5_areKnownFor 12 = .ok (.iconst 0, 1) := by decide +kernel
theorem dX5_areKnownFor_13 : decode cX5_areKnownFor 13 = .ok (.ireturn, 1) := by decide +kernel
theorem dX5_find_0 : decode cX5_find 0 = .ok (.aload_n 0, 1) := by decide +kernel
theorem dX5_find_1 : decode cX5_find 1 = .ok (.invokevirtual 34, 3) := by decide +kernel
theorem dX5_find_4 : decode cX5_find 4 = .ok (.iconst 0, 1) := by decide +kernel
theorem dX5_find_5 : decode cX5_find 5 = .ok (.istore 5, 2) := by decide +kernel
theorem dX5_find_7 : decode cX5_find 7 = .ok (.iload 5, 2) := by decide +kernel
theorem dX5_find_9 : decode cX5_find 9 = .ok (.sipush 625, 3) := by decide +kernel
theorem dX5_find_12 : decode cX5_find 12 = .ok (.if_icmp .ge 99, 3) := by decide +kernel
theorem dX5_find_15 : decode cX5_find 15 = .ok (.aload_n 0, 1) := by decide +kernel
theorem dX5_find_16 : decode cX5_find 16 = .ok (.iload 5, 2) := by decide +kernel
theorem dX5_find_18 : decode cX5_find 18 = .ok (.invokevirtual 37, 3) := by decide +kernel
theorem dX5_find_21 : decode cX5_find 21 = .ok (.istore 6, 2) := by decide +kernel
theorem dX5_find_23 : decode cX5_find 23 = .ok (.iload 6, 2) := by decide +kernel
theorem dX5_find_25 : decode cX5_find 25 = .ok (.iload 5, 2) := by decide +kernel
theorem dX5_find_27 : decode cX5_find 27 = .ok (.if_icmp .ne 23, 3) := by decide +kernel
theorem dX5_find_30 : decode cX5_find 30 = .ok (.aload_n 0, 1) := by decide +kernel
theorem dX5_find_31 : decode cX5_find 31 = .ok (.aload 4, 2) := by decide +kernel
theorem dX5_find_33 : decode cX5_find 33 = .ok (.iload 5, 2) := by decide +kernel
theorem dX5_find_35 : decode cX5_find 35 = .ok (.invokevirtual 41, 3) := by decide +kernel
theorem dX5_find_38 : decode cX5_find 38 = .ok (.aload_n 3, 1) := by decide +kernel
theorem dX5_find_39 : decode cX5_find 39 = .ok (.aload_n 2, 1) := by decide +kernel
theorem dX5_find_40 : decode cX5_find 40 = .ok (.invokevirtual 45, 3) := by decide +kernel
theorem dX5_find_43 : decode cX5_find 43 = .ok (.aload_n 3, 1) := by decide +kernel
theorem dX5_find_44 : decode cX5_find 44 = .ok (.iload_n 1, 1) := by decide +kernel
theorem dX5_find_45 : decode cX5_find 45 = .ok (.aload 4, 2) := by decide +kernel
theorem dX5_find_47 : decode cX5_find 47 = .ok (.invokevirtual 51, 3) := by decide +kernel
theorem dX5_find_50 : decode cX5_find 50 = .ok (.iconst 0, 1) := by decide +kernel
theorem dX5_find_51 : decode cX5_find 51 = .ok (.istore 7, 2) := by decide +kernel
theorem dX5_find_53 : decode cX5_find 53 = .ok (.iload 7, 2) := by decide +kernel
theorem dX5_find_55 : decode cX5_find 55 = .ok (.iconst 4, 1) := by decide +kernel
theorem dX5_find_56 : decode cX5_find 56 = .ok (.if_icmp .ge 49, 3) := by decide +kernel
theorem dX5_find_59 : decode cX5_find 59 = .ok (.aload_n 0, 1) := by decide +kernel
theorem dX5_find_60 : decode cX5_find 60 = .ok (.getfield 9, 3) := by decide +kernel
theorem dX5_find_63 : decode cX5_find 63 = .ok (.iload 5, 2) := by decide +kernel
theorem dX5_find_65 : decode cX5_find 65 = .ok (.iconst 4, 1) := by decide +kernel
theorem dX5_find_66 : decode cX5_find 66 = .ok (.imul, 1) := by decide +kernel
theorem dX5_find_67 : decode cX5_find 67 = .ok (.iload 7, 2) := by decide +kernel
theorem dX5_find_69 : decode cX5_find 69 = .ok (.iadd, 1) := by decide +kernel
theorem dX5_find_70 : decode cX5_find 70 = .ok (.iload 6, 2) := by decide +kernel
theorem dX5_find_72 : decode cX5_find 72 = .ok (.iload 5, 2) := by decide +kernel
theorem dX5_find_74 : decode cX5_find 74 = .ok (.if_icmp .ne 12, 3) := by decide +kernel
theorem dX5_find_77 : decode cX5_find 77 = .ok (.aload_n 3, 1) := by decide +kernel
theorem dX5_find_78 : decode cX5_find 78 = .ok (.iload 7, 2) := by decide +kernel
theorem dX5_find_80 : decode cX5_find 80 = .ok (.invokevirtual 55, 3) := by decide +kernel
theorem dX5_find_83 : decode cX5_find 83 = .ok (.goto 15, 3) := by decide +kernel
theorem dX5_find_86 : decode cX5_find 86 = .ok (.aload_n 0, 1) := by decide +kernel
theorem dX5_find_87 : decode cX5_find 87 = .ok (.getfield 9, 3) := by decide +kernel
theorem dX5_find_90 : decode cX5_find 90 = .ok (.iload 6, 2) := by decide +kernel
theorem dX5_find_92 : decode cX5_find 92 = .ok (.iconst 4, 1) := by decide +kernel
theorem dX5_find_93 : decode cX5_find 93 = .ok (.imul, 1) := by decide +kernel
theorem dX5_find_94 : decode cX5_find 94 = .ok (.iload 7, 2) := by decide +kernel
theorem dX5_find_96 : decode cX5_find 96 = .ok (.iadd, 1) := by decide +kernel
theorem dX5_find_97 : decode cX5_find 97 = .ok (.iaload, 1) := by decide +kernel
theorem dX5_find_98 : decode cX5_find 98 = .ok (.iastore, 1) := by decide +kernel
theorem dX5_find_99 : decode cX5_find 99 = .ok (.iinc 7 1, 3) := by decide +kernel
theorem dX5_find_102 : decode cX5_find 102 = .ok (.goto (-49), 3) := by decide +kernel
theorem dX5_find_105 : decode cX5_find 105 = .ok (.iinc 5 1, 3) := by decide +kernel
theorem dX5_find_108 : decode cX5_find 108 = .ok (.goto (-101), 3) := by decide +kernel
theorem dX5_find_111 : decode cX5_find 111 = .ok (.aload_n 0, 1) := by decide +kernel
theorem dX5_find_112 : decode cX5_find 112 = .ok (.iconst 0, 1) := by decide +kernel
theorem dX5_find_113 : decode cX5_find 113 = .ok (.putfield 23, 3) := by decide +kernel
theorem dX5_find_116 : decode cX5_find 116 = .ok (.iconst 0, 1) := by decide +kernel
theorem dX5_find_117 : decode cX5_find 117 = .ok (.istore 5, 2) := by decide +kernel
theorem dX5_find_119 : decode cX5_find 119 = .ok (.iload 5, 2) := by decide +kernel
theorem dX5_find_121 : decode cX5_find 121 = .ok (.sipush 625, 3) := by decide +kernel
theorem dX5_find_124 : decode cX5_find 124 = .ok (.if_icmp .ge 39, 3) := by decide +kernel
theorem dX5_find_127 : decode cX5_find 127 = .ok (.aload_n 0, 1) := by decide +kernel
theorem dX5_find_128 : decode cX5_find 128 = .ok (.iload 5, 2) := by decide +kernel
theorem dX5_find_130 : decode cX5_find 130 = .ok (.invokevirtual 58, 3) := by decide +kernel
theorem dX5_find_133 : decode cX5_find 133 = .ok (.ifCond .eq 24, 3) := by decide +kernel
theorem dX5_find_136 : decode cX5_find 136 = .ok (.aload_n 0, 1) := by decide +kernel
theorem dX5_find_137 : decode cX5_find 137 = .ok (.getfield 20, 3) := by decide +kernel
theorem dX5_find_140 : decode cX5_find 140 = .ok (.aload_n 0, 1) := by decide +kernel
theorem dX5_find_141 : decode cX5_find 141 = .ok (.getfield 23, 3) := by decide +kernel
theorem dX5_find_144 : decode cX5_find 144 = .ok (.iload 5, 2) := by decide +kernel
theorem dX5_find_146 : decode cX5_find 146 = .ok (.iastore, 1) := by decide +kernel
theorem dX5_find_147 : decode cX5_find 147 = .ok (.aload_n 0, 1) := by decide +kernel
theorem dX5_find_148 : decode cX5_find 148 = .ok (.dup, 1) := by decide +kernel
theorem dX5_find_149 : decode cX5_find 149 = .ok (.getfield 23, 3) := by decide +kernel
theorem dX5_find_152 : decode cX5_find 152 = .ok (.iconst 1, 1) := by decide +kernel
theorem dX5_find_153 : decode cX5_find 153 = .ok (.iadd, 1) := by decide +kernel
theorem dX5_find_154 : decode cX5_find 154 = .ok (.putfield 23, 3) := by decide +kernel
theorem dX5_find_157 : decode cX5_find 157 = .ok (.iinc 5 1, 3) := by decide +kernel
theorem dX5_find_160 : decode cX5_find 160 = .ok (.goto (-41), 3) := by decide +kernel
theorem dX5_find_163 : decode cX5_find 163 = .ok (.aload_n 0, 1) := by decide +kernel
theorem dX5_find_164 : decode cX5_find 164 = .ok (.iload_n 1, 1) := by decide +kernel
theorem dX5_find_165 : decode cX5_find 165 = .ok (.putfield 27, 3) := by decide +kernel
theorem dX5_find_168 : decode cX5_find 168 = .ok (.return_, 1) := by decide +kernel
theorem dX5_findLikeBars_0 : decode cX5_findLikeBars 0 = .ok (.iconst 0, 1) := by decide +kernel
theorem dX5_findLikeBars_1 : decode cX5_findLikeBars 1 = .ok (.istore_n 1, 1) := by decide +kernel
theorem dX5_findLikeBars_2 : decode cX5_findLikeBars 2 = .ok (.iload_n 1, 1) := by decide +kernel
theorem dX5_findLikeBars_3 : decode cX5_findLikeBars 3 = .ok (.iconst 4, 1) := by decide +kernel
theorem dX5_findLikeBars_4 : decode cX5_findLikeBars 4 = .ok (.if_icmp .ge 59, 3) := by decide +kernel
theorem dX5_findLikeBars_7 : decode cX5_findLikeBars 7 = .ok (.iconst 0, 1) := by decide +kernel
theorem dX5_findLikeBars_8 : decode cX5_findLikeBars 8 = .ok (.istore_n 2, 1) := by decide +kernel
theorem dX5_findLikeBars_9 : decode cX5_findLikeBars 9 = .ok (.iload_n 2, 1) := by decide +kernel
theorem dX5_findLikeBars_10 : decode cX5_findLikeBars 10 = .ok (.iconst 5, 1) := by decide +kernel
theorem dX5_findLikeBars_11 : decode cX5_findLikeBars 11 = .ok (.if_icmp .ge 46, 3) := by decide +kernel
theorem dX5_findLikeBars_14 : decode cX5_findLikeBars 14 = .ok (.iconst 0, 1) := by decide +kernel
theorem dX5_findLikeBars_15 : decode cX5_findLikeBars 15 = .ok (.istore_n 3, 1) := by decide +kernel
theorem dX5_findLikeBars_16 : decode cX5_findLikeBars 16 = .ok (.iload_n 3, 1) := by decide +kernel
theorem dX5_findLikeBars_17 : decode cX5_findLikeBars 17 = .ok (.iload_n 2, 1) := by decide +kernel
theorem dX5_findLikeBars_18 : decode cX5_findLikeBars 18 = .ok (.if_icmp .ge 24, 3) := by decide +kernel
theorem dX5_findLikeBars_21 : decode cX5_findLikeBars 21 = .ok (.aload_n 0, 1) := by decide +kernel
theorem dX5_findLikeBars_22 : decode cX5_findLikeBars 22 = .ok (.iload_n 1, 1) := by decide +kernel
theorem dX5_findLikeBars_23 : decode cX5_findLikeBars 23 = .ok (.iload_n 3, 1) := by decide +kernel
theorem dX5_findLikeBars_24 : decode cX5_findLikeBars 24 = .ok (.invokevirtual 62, 3) := by decide +kernel
theorem dX5_findLikeBars_27 : decode cX5_findLikeBars 27 = .ok (.aload_n 0, 1) := by decide +kernel
theorem dX5_findLikeBars_28 : decode cX5_findLikeBars 28 = .ok (.iload_n 1, 1) := by decide +kernel
theorem dX5_findLikeBars_29 : decode cX5_findLikeBars 29 = .ok (.iload_n 2, 1) := by decide +kernel
theorem dX5_findLikeBars_30 : decode cX5_findLikeBars 30 = .ok (.invokevirtual 62, 3) := by decide +kernel
theorem dX5_findLikeBars_33 : decode cX5_findLikeBars 33 = .ok (.if_icmp .eq 9, 3) := by decide +kernel
theorem dX5_findLikeBars_36 : decode cX5_findLikeBars 36 = .ok (.iinc 3 1, 3) := by decide +kernel
theorem dX5_findLikeBars_39 : decode cX5_findLikeBars 39 = .ok (.goto (-23), 3) := by decide +kernel
theorem dX5_findLikeBars_42 : decode cX5_findLikeBars 42 = .ok (.aload_n 0, 1) := by decide +kernel
theorem dX5_findLikeBars_43 : decode cX5_findLikeBars 43 = .ok (.getfield 17, 3) := by decide +kernel
theorem dX5_findLikeBars_46 : decode cX5_findLikeBars 46 = .ok (.iload_n 1, 1) := by decide +kernel
theorem dX5_findLikeBars_47 : decode cX5_findLikeBars 47 = .ok (.aaload, 1) := by decide +kernel
theorem dX5_findLikeBars_48 : decode cX5_findLikeBars 48 = .ok (.iload_n 2, 1) := by decide +kernel
theorem dX5_findLikeBars_49 : decode cX5_findLikeBars 49 = .ok (.iload_n 3, 1) := by decide +kernel
theorem dX5_findLikeBars_50 : decode cX5_findLikeBars 50 = .ok (.iastore, 1) := by decide +kernel
theorem dX5_findLikeBars_51 : decode cX5_findLikeBars 51 = .ok (.iinc 2 1, 3) := by decide +kernel
theorem dX5_findLikeBars_54 : decode cX5_findLikeBars 54 = .ok (.goto (-45), 3) := by decide +kernel
theorem dX5_findLikeBars_57 : decode cX5_findLikeBars 57 = .ok (.iinc 1 1, 3) := by decide +kernel
theorem dX5_findLikeBars_60 : decode cX5_findLikeBars 60 = .ok (.goto (-58), 3) := by decide +kernel
theorem dX5_findLikeBars_63 : decode cX5_findLikeBars 63 = .ok (.return_, 1) := by decide +kernel
theorem dX5_kindsTaken_0 : decode cX5_kindsTaken 0 = .ok (.iconst 0, 1) := by decide +kernel
theorem dX5_kindsTaken_1 : decode cX5_kindsTaken 1 = .ok (.istore_n 3, 1) := by decide +kernel
theorem dX5_kindsTaken_2 : decode cX5_kindsTaken 2 = .ok (.iconst 0, 1) := by decide +kernel
theorem dX5_kindsTaken_3 : decode cX5_kindsTaken 3 = .ok (.istore 4, 2) := by decide +kernel
theorem dX5_kindsTaken_5 : decode cX5_kindsTaken 5 = .ok (.iload 4, 2) := by decide +kernel
theorem dX5_kindsTaken_7 : decode cX5_kindsTaken 7 = .ok (.iconst 4, 1) := by decide +kernel
theorem dX5_kindsTaken_8 : decode cX5_kindsTaken 8 = .ok (.if_icmp .ge 48, 3) := by decide +kernel
theorem dX5_kindsTaken_11 : decode cX5_kindsTaken 11 = .ok (.iload_n 2, 1) := by decide +kernel
theorem dX5_kindsTaken_12 : decode cX5_kindsTaken 12 = .ok (.ifCond .eq 31, 3) := by decide +kernel
theorem dX5_kindsTaken_15 : decode cX5_kindsTaken 15 = .ok (.aload_n 0, 1) := by decide +kernel
theorem dX5_kindsTaken_16 : decode cX5_kindsTaken 16 = .ok (.getfield 30, 3) := by decide +kernel
theorem dX5_kindsTaken_19 : decode cX5_kindsTaken 19 = .ok (.getfield 66, 3) := by decide +kernel
theorem dX5_kindsTaken_22 : decode cX5_kindsTaken 22 = .ok (.iload_n 1, 1) := by decide +kernel
theorem dX5_kindsTaken_23 : decode cX5_kindsTaken 23 = .ok (.aaload, 1) := by decide +kernel
theorem dX5_kindsTaken_24 : decode cX5_kindsTaken 24 = .ok (.iload 4, 2) := by decide +kernel
theorem dX5_kindsTaken_26 : decode cX5_kindsTaken 26 = .ok (.iaload, 1) := by decide +kernel
theorem dX5_kindsTaken_27 : decode cX5_kindsTaken 27 = .ok (.aload_n 0, 1) := by decide +kernel
theorem dX5_kindsTaken_28 : decode cX5_kindsTaken 28 = .ok (.getfield 30, 3) := by decide +kernel
theorem dX5_kindsTaken_31 : decode cX5_kindsTaken 31 = .ok (.getfield 66, 3) := by decide +kernel
theorem dX5_kindsTaken_34 : decode cX5_kindsTaken 34 = .ok (.iload_n 1, 1) := by decide +kernel
theorem dX5_kindsTaken_35 : decode cX5_kindsTaken 35 = .ok (.aaload, 1) := by decide +kernel
theorem dX5_kindsTaken_36 : decode cX5_kindsTaken 36 = .ok (.iload_n 2, 1) := by decide +kernel
theorem dX5_kindsTaken_37 : decode cX5_kindsTaken 37 = .ok (.iconst 1, 1) := by decide +kernel
theorem dX5_kindsTaken_38 : decode cX5_kindsTaken 38 = .ok (.isub, 1) := by decide +kernel
theorem dX5_kindsTaken_39 : decode cX5_kindsTaken 39 = .ok (.iaload, 1) := by decide +kernel
theorem dX5_kindsTaken_40 : decode cX5_kindsTaken 40 = .ok (.if_icmp .lt 10, 3) := by decide +kernel
theorem dX5_kindsTaken_43 : decode cX5_kindsTaken 43 = .ok (.iload_n 3, 1) := by decide +kernel
theorem dX5_kindsTaken_44 : decode cX5_kindsTaken 44 = .ok (.iconst 1, 1) := by decide +kernel
theorem dX5_kindsTaken_45 : decode cX5_kindsTaken 45 = .ok (.iload 4, 2) := by decide +kernel
theorem dX5_kindsTaken_47 : decode cX5_kindsTaken 47 = .ok (.ishl, 1) := by decide +kernel
theorem dX5_kindsTaken_48 : decode cX5_kindsTaken 48 = .ok (.ior, 1) := by decide +kernel
theorem dX5_kindsTaken_49 : decode cX5_kindsTaken 49 = .ok (.istore_n 3, 1) := by decide +kernel
theorem dX5_kindsTaken_50 : decode cX5_kindsTaken 50 = .ok (.iinc 4 1, 3) := by decide +kernel
theorem dX5_kindsTaken_53 : decode cX5_kindsTaken 53 = .ok (.goto (-48), 3) := by decide +kernel
theorem dX5_kindsTaken_56 : decode cX5_kindsTaken 56 = .ok (.iload_n 3, 1) := by decide +kernel
theorem dX5_kindsTaken_57 : decode cX5_kindsTaken 57 = .ok (.ireturn, 1) := by decide +kernel
