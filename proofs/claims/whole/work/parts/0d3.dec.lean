theorem dX12_findOrder_0 : decode cX12_findOrder 0 = .ok (.iconst 0, 1) := by decide +kernel
theorem dX12_findOrder_1 : decode cX12_findOrder 1 = .ok (.istore_n 1, 1) := by decide +kernel
theorem dX12_findOrder_2 : decode cX12_findOrder 2 = .ok (.iload_n 1, 1) := by decide +kernel
theorem dX12_findOrder_3 : decode cX12_findOrder 3 = .ok (.aload_n 0, 1) := by decide +kernel
theorem dX12_findOrder_4 : decode cX12_findOrder 4 = .ok (.getfield 22, 3) := by decide +kernel
theorem dX12_findOrder_7 : decode cX12_findOrder 7 = .ok (.bipush 84, 2) := by decide +kernel
theorem dX12_findOrder_9 : decode cX12_findOrder 9 = .ok (.iaload, 1) := by decide +kernel
theorem dX12_findOrder_10 : decode cX12_findOrder 10 = .ok (.if_icmp .ge 59, 3) := by decide +kernel
theorem dX12_findOrder_13 : decode cX12_findOrder 13 = .ok (.iconst 0, 1) := by decide +kernel
theorem dX12_findOrder_14 : decode cX12_findOrder 14 = .ok (.istore_n 2, 1) := by decide +kernel
theorem dX12_findOrder_15 : decode cX12_findOrder 15 = .ok (.iconst 0, 1) := by decide +kernel
theorem dX12_findOrder_16 : decode cX12_findOrder 16 = .ok (.istore_n 3, 1) := by decide +kernel
theorem dX12_findOrder_17 : decode cX12_findOrder 17 = .ok (.iload_n 3, 1) := by decide +kernel
theorem dX12_findOrder_18 : decode cX12_findOrder 18 = .ok (.aload_n 0, 1) := by decide +kernel
theorem dX12_findOrder_19 : decode cX12_findOrder 19 = .ok (.getfield 22, 3) := by decide +kernel
theorem dX12_findOrder_22 : decode cX12_findOrder 22 = .ok (.bipush 84, 2) := by decide +kernel
theorem dX12_findOrder_24 : decode cX12_findOrder 24 = .ok (.iaload, 1) := by decide +kernel
theorem dX12_findOrder_25 : decode cX12_findOrder 25 = .ok (.if_icmp .ge 31, 3) := by decide +kernel
theorem dX12_findOrder_28 : decode cX12_findOrder 28 = .ok (.iload_n 2, 1) := by decide +kernel
theorem dX12_findOrder_29 : decode cX12_findOrder 29 = .ok (.iload_n 3, 1) := by decide +kernel
theorem dX12_findOrder_30 : decode cX12_findOrder 30 = .ok (.iload_n 1, 1) := by decide +kernel
theorem dX12_findOrder_31 : decode cX12_findOrder 31 = .ok (.if_icmp .eq 16, 3) := by decide +kernel
theorem dX12_findOrder_34 : decode cX12_findOrder 34 = .ok (.aload_n 0, 1) := by decide +kernel
theorem dX12_findOrder_35 : decode cX12_findOrder 35 = .ok (.iload_n 3, 1) := by decide +kernel
theorem dX12_findOrder_36 : decode cX12_findOrder 36 = .ok (.iload_n 1, 1) := by decide +kernel
theorem dX12_findOrder_37 : decode cX12_findOrder 37 = .ok (.invokevirtual 94, 3) := by decide +kernel
theorem dX12_findOrder_40 : decode cX12_findOrder 40 = .ok (.ifCond .eq 7, 3) := by decide +kernel
theorem dX12_findOrder_43 : decode cX12_findOrder 43 = .ok (.iconst 1, 1) := by decide +kernel
theorem dX12_findOrder_44 : decode cX12_findOrder 44 = .ok (.goto 4, 3) := by decide +kernel
theorem dX12_findOrder_47 : decode cX12_findOrder 47 = .ok (.iconst 0, 1) := by decide +kernel
theorem dX12_findOrder_48 : decode cX12_findOrder 48 = .ok (.iadd, 1) := by decide +kernel
theorem dX12_findOrder_49 : decode cX12_findOrder 49 = .ok (.istore_n 2, 1) := by decide +kernel
theorem dX12_findOrder_50 : decode cX12_findOrder 50 = .ok (.iinc 3 1, 3) := by decide +kernel
theorem dX12_findOrder_53 : decode cX12_findOrder 53 = .ok (.goto (-36), 3) := by decide +kernel
theorem dX12_findOrder_56 : decode cX12_findOrder 56 = .ok (.aload_n 0, 1) := by decide +kernel
theorem dX12_findOrder_57 : decode cX12_findOrder 57 = .ok (.getfield 28, 3) := by decide +kernel
theorem dX12_findOrder_60 : decode cX12_findOrder 60 = .ok (.iload_n 2, 1) := by decide +kernel
theorem dX12_findOrder_61 : decode cX12_findOrder 61 = .ok (.iload_n 1, 1) := by decide +kernel
theorem dX12_findOrder_62 : decode cX12_findOrder 62 = .ok (.iastore, 1) := by decide +kernel
theorem dX12_findOrder_63 : decode cX12_findOrder 63 = .ok (.iinc 1 1, 3) := by decide +kernel
theorem dX12_findOrder_66 : decode cX12_findOrder 66 = .ok (.goto (-64), 3) := by decide +kernel
theorem dX12_findOrder_69 : decode cX12_findOrder 69 = .ok (.return_, 1) := by decide +kernel
theorem dX12_doesTake_0 : decode cX12_doesTake 0 = .ok (.aload_n 0, 1) := by decide +kernel
theorem dX12_doesTake_1 : decode cX12_doesTake 1 = .ok (.getfield 22, 3) := by decide +kernel
theorem dX12_doesTake_4 : decode cX12_doesTake 4 = .ok (.iconst 0, 1) := by decide +kernel
theorem dX12_doesTake_5 : decode cX12_doesTake 5 = .ok (.iload_n 1, 1) := by decide +kernel
theorem dX12_doesTake_6 : decode cX12_doesTake 6 = .ok (.iadd, 1) := by decide +kernel
theorem dX12_doesTake_7 : decode cX12_doesTake 7 = .ok (.iaload, 1) := by decide +kernel
theorem dX12_doesTake_8 : decode cX12_doesTake 8 = .ok (.istore_n 3, 1) := by decide +kernel
theorem dX12_doesTake_9 : decode cX12_doesTake 9 = .ok (.aload_n 0, 1) := by decide +kernel
theorem dX12_doesTake_10 : decode cX12_doesTake 10 = .ok (.getfield 7, 3) := by decide +kernel
theorem dX12_doesTake_13 : decode cX12_doesTake 13 = .ok (.iconst 4, 1) := by decide +kernel
theorem dX12_doesTake_14 : decode cX12_doesTake 14 = .ok (.iload_n 3, 1) := by decide +kernel
theorem dX12_doesTake_15 : decode cX12_doesTake 15 = .ok (.imul, 1) := by decide +kernel
theorem dX12_doesTake_16 : decode cX12_doesTake 16 = .ok (.iload_n 2, 1) := by decide +kernel
theorem dX12_doesTake_17 : decode cX12_doesTake 17 = .ok (.iadd, 1) := by decide +kernel
theorem dX12_doesTake_18 : decode cX12_doesTake 18 = .ok (.iaload, 1) := by decide +kernel
theorem dX12_doesTake_19 : decode cX12_doesTake 19 = .ok (.istore 4, 2) := by decide +kernel
theorem dX12_doesTake_21 : decode cX12_doesTake 21 = .ok (.aload_n 0, 1) := by decide +kernel
theorem dX12_doesTake_22 : decode cX12_doesTake 22 = .ok (.getfield 41, 3) := by decide +kernel
theorem dX12_doesTake_25 : decode cX12_doesTake 25 = .ok (.iconst 4, 1) := by decide +kernel
theorem dX12_doesTake_26 : decode cX12_doesTake 26 = .ok (.iconst 3, 1) := by decide +kernel
theorem dX12_doesTake_27 : decode cX12_doesTake 27 = .ok (.iload_n 3, 1) := by decide +kernel
theorem dX12_doesTake_28 : decode cX12_doesTake 28 = .ok (.imul, 1) := by decide +kernel
theorem dX12_doesTake_29 : decode cX12_doesTake 29 = .ok (.iadd, 1) := by decide +kernel
theorem dX12_doesTake_30 : decode cX12_doesTake 30 = .ok (.iaload, 1) := by decide +kernel
theorem dX12_doesTake_31 : decode cX12_doesTake 31 = .ok (.istore 5, 2) := by decide +kernel
theorem dX12_doesTake_33 : decode cX12_doesTake 33 = .ok (.iload 5, 2) := by decide +kernel
theorem dX12_doesTake_35 : decode cX12_doesTake 35 = .ok (.ifCond .eq 50, 3) := by decide +kernel
theorem dX12_doesTake_38 : decode cX12_doesTake 38 = .ok (.iload 4, 2) := by decide +kernel
theorem dX12_doesTake_40 : decode cX12_doesTake 40 = .ok (.aload_n 0, 1) := by decide +kernel
theorem dX12_doesTake_41 : decode cX12_doesTake 41 = .ok (.getfield 41, 3) := by decide +kernel
theorem dX12_doesTake_44 : decode cX12_doesTake 44 = .ok (.iconst 5, 1) := by decide +kernel
theorem dX12_doesTake_45 : decode cX12_doesTake 45 = .ok (.iconst 3, 1) := by decide +kernel
theorem dX12_doesTake_46 : decode cX12_doesTake 46 = .ok (.iload_n 3, 1) := by decide +kernel
theorem dX12_doesTake_47 : decode cX12_doesTake 47 = .ok (.imul, 1) := by decide +kernel
theorem dX12_doesTake_48 : decode cX12_doesTake 48 = .ok (.iadd, 1) := by decide +kernel
theorem dX12_doesTake_49 : decode cX12_doesTake 49 = .ok (.iaload, 1) := by decide +kernel
theorem dX12_doesTake_50 : decode cX12_doesTake 50 = .ok (.iload 5, 2) := by decide +kernel
theorem dX12_doesTake_52 : decode cX12_doesTake 52 = .ok (.iconst 2, 1) := by decide +kernel
theorem dX12_doesTake_53 : decode cX12_doesTake 53 = .ok (.if_icmp .ne 27, 3) := by decide +kernel
theorem dX12_doesTake_56 : decode cX12_doesTake 56 = .ok (.aload_n 0, 1) := by decide +kernel
theorem dX12_doesTake_57 : decode cX12_doesTake 57 = .ok (.getfield 41, 3) := by decide +kernel
theorem dX12_doesTake_60 : decode cX12_doesTake 60 = .ok (.bipush 6, 2) := by decide +kernel
theorem dX12_doesTake_62 : decode cX12_doesTake 62 = .ok (.iconst 3, 1) := by decide +kernel
theorem dX12_doesTake_63 : decode cX12_doesTake 63 = .ok (.iload_n 3, 1) := by decide +kernel
theorem dX12_doesTake_64 : decode cX12_doesTake 64 = .ok (.imul, 1) := by decide +kernel
theorem dX12_doesTake_65 : decode cX12_doesTake 65 = .ok (.iadd, 1) := by decide +kernel
theorem dX12_doesTake_66 : decode cX12_doesTake 66 = .ok (.iaload, 1) := by decide +kernel
theorem dX12_doesTake_67 : decode cX12_doesTake 67 = .ok (.aload_n 0, 1) := by decide +kernel
theorem dX12_doesTake_68 : decode cX12_doesTake 68 = .ok (.getfield 22, 3) := by decide +kernel
theorem dX12_doesTake_71 : decode cX12_doesTake 71 = .ok (.bipush 48, 2) := by decide +kernel
theorem dX12_doesTake_73 : decode cX12_doesTake 73 = .ok (.iload_n 1, 1) := by decide +kernel
theorem dX12_doesTake_74 : decode cX12_doesTake 74 = .ok (.iadd, 1) := by decide +kernel
theorem dX12_doesTake_75 : decode cX12_doesTake 75 = .ok (.iaload, 1) := by decide +kernel
theorem dX12_doesTake_76 : decode cX12_doesTake 76 = .ok (.imul, 1) := by decide +kernel
theorem dX12_doesTake_77 : decode cX12_doesTake 77 = .ok (.goto 4, 3) := by decide +kernel
theorem dX12_doesTake_80 : decode cX12_doesTake 80 = .ok (.iconst 0, 1) := by decide +kernel
theorem dX12_doesTake_81 : decode cX12_doesTake 81 = .ok (.isub, 1) := by decide +kernel
theorem dX12_doesTake_82 : decode cX12_doesTake 82 = .ok (.if_icmp .lt 7, 3) := by decide +kernel
theorem dX12_doesTake_85 : decode cX12_doesTake 85 = .ok (.iconst 1, 1) := by decide +kernel
theorem dX12_doesTake_86 : decode cX12_doesTake 86 = .ok (.goto 4, 3) := by decide +kernel
theorem dX12_doesTake_89 : decode cX12_doesTake 89 = .ok (.iconst 0, 1) := by decide +kernel
theorem dX12_doesTake_90 : decode cX12_doesTake 90 = .ok (.ireturn, 1) := by decide +kernel
theorem dX12_offer_0 : decode cX12_offer 0 = .ok (.aload_n 0, 1) := by decide +kernel
theorem dX12_offer_1 : decode cX12_offer 1 = .ok (.invokevirtual 98, 3) := by decide +kernel
theorem dX12_offer_4 : decode cX12_offer 4 = .ok (.iconst 0, 1) := by decide +kernel
theorem dX12_offer_5 : decode cX12_offer 5 = .ok (.istore_n 2, 1) := by decide +kernel
theorem dX12_offer_6 : decode cX12_offer 6 = .ok (.iconst 0, 1) := by decide +kernel
theorem dX12_offer_7 : decode cX12_offer 7 = .ok (.istore_n 3, 1) := by decide +kernel
theorem dX12_offer_8 : decode cX12_offer 8 = .ok (.iload_n 3, 1) := by decide +kernel
theorem dX12_offer_9 : decode cX12_offer 9 = .ok (.aload_n 0, 1) := by decide +kernel
theorem dX12_offer_10 : decode cX12_offer 10 = .ok (.getfield 22, 3) := by decide +kernel
theorem dX12_offer_13 : decode cX12_offer 13 = .ok (.bipush 84, 2) := by decide +kernel
theorem dX12_offer_15 : decode cX12_offer 15 = .ok (.iaload, 1) := by decide +kernel
theorem dX12_offer_16 : decode cX12_offer 16 = .ok (.if_icmp .ge 262, 3) := by decide +kernel
theorem dX12_offer_19 : decode cX12_offer 19 = .ok (.iload_n 2, 1) := by decide +kernel
theorem dX12_offer_20 : decode cX12_offer 20 = .ok (.ifCond .ne 258, 3) := by decide +kernel
theorem dX12_offer_23 : decode cX12_offer 23 = .ok (.aload_n 0, 1) := by decide +kernel
theorem dX12_offer_24 : decode cX12_offer 24 = .ok (.getfield 28, 3) := by decide +kernel
theorem dX12_offer_27 : decode cX12_offer 27 = .ok (.iload_n 3, 1) := by decide +kernel
theorem dX12_offer_28 : decode cX12_offer 28 = .ok (.iaload, 1) := by decide +kernel
theorem dX12_offer_29 : decode cX12_offer 29 = .ok (.istore 4, 2) := by decide +kernel
theorem dX12_offer_31 : decode cX12_offer 31 = .ok (.aload_n 0, 1) := by decide +kernel
theorem dX12_offer_32 : decode cX12_offer 32 = .ok (.getfield 22, 3) := by decide +kernel
theorem dX12_offer_35 : decode cX12_offer 35 = .ok (.iconst 0, 1) := by decide +kernel
theorem dX12_offer_36 : decode cX12_offer 36 = .ok (.iload 4, 2) := by decide +kernel
theorem dX12_offer_38 : decode cX12_offer 38 = .ok (.iadd, 1) := by decide +kernel
theorem dX12_offer_39 : decode cX12_offer 39 = .ok (.iaload, 1) := by decide +kernel
theorem dX12_offer_40 : decode cX12_offer 40 = .ok (.istore 5, 2) := by decide +kernel
theorem dX12_offer_42 : decode cX12_offer 42 = .ok (.aload_n 0, 1) := by decide +kernel
theorem dX12_offer_43 : decode cX12_offer 43 = .ok (.iload 4, 2) := by decide +kernel
theorem dX12_offer_45 : decode cX12_offer 45 = .ok (.iload_n 1, 1) := by decide +kernel
theorem dX12_offer_46 : decode cX12_offer 46 = .ok (.invokevirtual 101, 3) := by decide +kernel
theorem dX12_offer_49 : decode cX12_offer 49 = .ok (.ifCond .eq 77, 3) := by decide +kernel
theorem dX12_offer_52 : decode cX12_offer 52 = .ok (.iconst 1, 1) := by decide +kernel
theorem dX12_offer_53 : decode cX12_offer 53 = .ok (.istore_n 2, 1) := by decide +kernel
theorem dX12_offer_54 : decode cX12_offer 54 = .ok (.aload_n 0, 1) := by decide +kernel
theorem dX12_offer_55 : decode cX12_offer 55 = .ok (.getfield 31, 3) := by decide +kernel
theorem dX12_offer_58 : decode cX12_offer 58 = .ok (.iload 4, 2) := by decide +kernel
theorem dX12_offer_60 : decode cX12_offer 60 = .ok (.iconst 1, 1) := by decide +kernel
theorem dX12_offer_61 : decode cX12_offer 61 = .ok (.bastore, 1) := by decide +kernel
theorem dX12_offer_62 : decode cX12_offer 62 = .ok (.aload_n 0, 1) := by decide +kernel
theorem dX12_offer_63 : decode cX12_offer 63 = .ok (.getfield 22, 3) := by decide +kernel
theorem dX12_offer_66 : decode cX12_offer 66 = .ok (.bipush 60, 2) := by decide +kernel
theorem dX12_offer_68 : decode cX12_offer 68 = .ok (.iload 5, 2) := by decide +kernel
theorem dX12_offer_70 : decode cX12_offer 70 = .ok (.iadd, 1) := by decide +kernel
theorem dX12_offer_71 : decode cX12_offer 71 = .ok (.dup2, 1) := by decide +kernel
theorem dX12_offer_72 : decode cX12_offer 72 = .ok (.iaload, 1) := by decide +kernel
theorem dX12_offer_73 : decode cX12_offer 73 = .ok (.iconst 1, 1) := by decide +kernel
theorem dX12_offer_74 : decode cX12_offer 74 = .ok (.iadd, 1) := by decide +kernel
theorem dX12_offer_75 : decode cX12_offer 75 = .ok (.iastore, 1) := by decide +kernel
theorem dX12_offer_76 : decode cX12_offer 76 = .ok (.aload_n 0, 1) := by decide +kernel
theorem dX12_offer_77 : decode cX12_offer 77 = .ok (.getfield 22, 3) := by decide +kernel
theorem dX12_offer_80 : decode cX12_offer 80 = .ok (.bipush 64, 2) := by decide +kernel
theorem dX12_offer_82 : decode cX12_offer 82 = .ok (.iload 5, 2) := by decide +kernel
theorem dX12_offer_84 : decode cX12_offer 84 = .ok (.iadd, 1) := by decide +kernel
theorem dX12_offer_85 : decode cX12_offer 85 = .ok (.dup2, 1) := by decide +kernel
theorem dX12_offer_86 : decode cX12_offer 86 = .ok (.iaload, 1) := by decide +kernel
theorem dX12_offer_87 : decode cX12_offer 87 = .ok (.aload_n 0, 1) := by decide +kernel
theorem dX12_offer_88 : decode cX12_offer 88 = .ok (.getfield 22, 3) := by decide +kernel
theorem dX12_offer_91 : decode cX12_offer 91 = .ok (.bipush 48, 2) := by decide +kernel
theorem dX12_offer_93 : decode cX12_offer 93 = .ok (.iload 4, 2) := by decide +kernel
theorem dX12_offer_95 : decode cX12_offer 95 = .ok (.iadd, 1) := by decide +kernel
theorem dX12_offer_96 : decode cX12_offer 96 = .ok (.iaload, 1) := by decide +kernel
theorem dX12_offer_97 : decode cX12_offer 97 = .ok (.iadd, 1) := by decide +kernel
theorem dX12_offer_98 : decode cX12_offer 98 = .ok (.iastore, 1) := by decide +kernel
theorem dX12_offer_99 : decode cX12_offer 99 = .ok (.aload_n 0, 1) := by decide +kernel
theorem dX12_offer_100 : decode cX12_offer 100 = .ok (.getfield 22, 3) := by decide +kernel
theorem dX12_offer_103 : decode cX12_offer 103 = .ok (.bipush 68, 2) := by decide +kernel
theorem dX12_offer_105 : decode cX12_offer 105 = .ok (.iload 5, 2) := by decide +kernel
theorem dX12_offer_107 : decode cX12_offer 107 = .ok (.iadd, 1) := by decide +kernel
theorem dX12_offer_108 : decode cX12_offer 108 = .ok (.dup2, 1) := by decide +kernel
theorem dX12_offer_109 : decode cX12_offer 109 = .ok (.iaload, 1) := by decide +kernel
theorem dX12_offer_110 : decode cX12_offer 110 = .ok (.aload_n 0, 1) := by decide +kernel
theorem dX12_offer_111 : decode cX12_offer 111 = .ok (.getfield 7, 3) := by decide +kernel
theorem dX12_offer_114 : decode cX12_offer 114 = .ok (.iconst 4, 1) := by decide +kernel
theorem dX12_offer_115 : decode cX12_offer 115 = .ok (.iload 5, 2) := by decide +kernel
theorem dX12_offer_117 : decode cX12_offer 117 = .ok (.imul, 1) := by decide +kernel
theorem dX12_offer_118 : decode cX12_offer 118 = .ok (.iload_n 1, 1) := by decide +kernel
theorem dX12_offer_119 : decode cX12_offer 119 = .ok (.iadd, 1) := by decide +kernel
theorem dX12_offer_120 : decode cX12_offer 120 = .ok (.iaload, 1) := by decide +kernel
theorem dX12_offer_121 : decode cX12_offer 121 = .ok (.iadd, 1) := by decide +kernel
theorem dX12_offer_122 : decode cX12_offer 122 = .ok (.iastore, 1) := by decide +kernel
theorem dX12_offer_123 : decode cX12_offer 123 = .ok (.goto 149, 3) := by decide +kernel
theorem dX12_offer_126 : decode cX12_offer 126 = .ok (.aload_n 0, 1) := by decide +kernel
theorem dX12_offer_127 : decode cX12_offer 127 = .ok (.getfield 22, 3) := by decide +kernel
theorem dX12_offer_130 : decode cX12_offer 130 = .ok (.bipush 36, 2) := by decide +kernel
theorem dX12_offer_132 : decode cX12_offer 132 = .ok (.iload 4, 2) := by decide +kernel
theorem dX12_offer_134 : decode cX12_offer 134 = .ok (.iadd, 1) := by decide +kernel
theorem dX12_offer_135 : decode cX12_offer 135 = .ok (.dup2, 1) := by decide +kernel
theorem dX12_offer_136 : decode cX12_offer 136 = .ok (.iaload, 1) := by decide +kernel
theorem dX12_offer_137 : decode cX12_offer 137 = .ok (.iconst 1, 1) := by decide +kernel
theorem dX12_offer_138 : decode cX12_offer 138 = .ok (.iadd, 1) := by decide +kernel
theorem dX12_offer_139 : decode cX12_offer 139 = .ok (.iastore, 1) := by decide +kernel
theorem dX12_offer_140 : decode cX12_offer 140 = .ok (.aload_n 0, 1) := by decide +kernel
theorem dX12_offer_141 : decode cX12_offer 141 = .ok (.getfield 22, 3) := by decide +kernel
theorem dX12_offer_144 : decode cX12_offer 144 = .ok (.bipush 36, 2) := by decide +kernel
theorem dX12_offer_146 : decode cX12_offer 146 = .ok (.iload 4, 2) := by decide +kernel
theorem dX12_offer_148 : decode cX12_offer 148 = .ok (.iadd, 1) := by decide +kernel
theorem dX12_offer_149 : decode cX12_offer 149 = .ok (.iaload, 1) := by decide +kernel
theorem dX12_offer_150 : decode cX12_offer 150 = .ok (.aload_n 0, 1) := by decide +kernel
theorem dX12_offer_151 : decode cX12_offer 151 = .ok (.getfield 41, 3) := by decide +kernel
theorem dX12_offer_154 : decode cX12_offer 154 = .ok (.iconst 1, 1) := by decide +kernel
theorem dX12_offer_155 : decode cX12_offer 155 = .ok (.iaload, 1) := by decide +kernel
theorem dX12_offer_156 : decode cX12_offer 156 = .ok (.if_icmp .le 37, 3) := by decide +kernel
theorem dX12_offer_159 : decode cX12_offer 159 = .ok (.aload_n 0, 1) := by decide +kernel
theorem dX12_offer_160 : decode cX12_offer 160 = .ok (.getfield 41, 3) := by decide +kernel
theorem dX12_offer_163 : decode cX12_offer 163 = .ok (.iconst 2, 1) := by decide +kernel
theorem dX12_offer_164 : decode cX12_offer 164 = .ok (.iaload, 1) := by decide +kernel
theorem dX12_offer_165 : decode cX12_offer 165 = .ok (.ifCond .ne 28, 3) := by decide +kernel
theorem dX12_offer_168 : decode cX12_offer 168 = .ok (.aload_n 0, 1) := by decide +kernel
theorem dX12_offer_169 : decode cX12_offer 169 = .ok (.getfield 31, 3) := by decide +kernel
theorem dX12_offer_172 : decode cX12_offer 172 = .ok (.iload 4, 2) := by decide +kernel
theorem dX12_offer_174 : decode cX12_offer 174 = .ok (.iconst 1, 1) := by decide +kernel
theorem dX12_offer_175 : decode cX12_offer 175 = .ok (.bastore, 1) := by decide +kernel
theorem dX12_offer_176 : decode cX12_offer 176 = .ok (.aload_n 0, 1) := by decide +kernel
theorem dX12_offer_177 : decode cX12_offer 177 = .ok (.getfield 22, 3) := by decide +kernel
theorem dX12_offer_180 : decode cX12_offer 180 = .ok (.bipush 72, 2) := by decide +kernel
theorem dX12_offer_182 : decode cX12_offer 182 = .ok (.iload 5, 2) := by decide +kernel
theorem dX12_offer_184 : decode cX12_offer 184 = .ok (.iadd, 1) := by decide +kernel
theorem dX12_offer_185 : decode cX12_offer 185 = .ok (.dup2, 1) := by decide +kernel
theorem dX12_offer_186 : decode cX12_offer 186 = .ok (.iaload, 1) := by decide +kernel
theorem dX12_offer_187 : decode cX12_offer 187 = .ok (.iconst 1, 1) := by decide +kernel
theorem dX12_offer_188 : decode cX12_offer 188 = .ok (.iadd, 1) := by decide +kernel
theorem dX12_offer_189 : decode cX12_offer 189 = .ok (.iastore, 1) := by decide +kernel
theorem dX12_offer_190 : decode cX12_offer 190 = .ok (.goto 82, 3) := by decide +kernel
theorem dX12_offer_193 : decode cX12_offer 193 = .ok (.aload_n 0, 1) := by decide +kernel
theorem dX12_offer_194 : decode cX12_offer 194 = .ok (.getfield 22, 3) := by decide +kernel
theorem dX12_offer_197 : decode cX12_offer 197 = .ok (.bipush 36, 2) := by decide +kernel
theorem dX12_offer_199 : decode cX12_offer 199 = .ok (.iload 4, 2) := by decide +kernel
theorem dX12_offer_201 : decode cX12_offer 201 = .ok (.iadd, 1) := by decide +kernel
theorem dX12_offer_202 : decode cX12_offer 202 = .ok (.iaload, 1) := by decide +kernel
theorem dX12_offer_203 : decode cX12_offer 203 = .ok (.aload_n 0, 1) := by decide +kernel
theorem dX12_offer_204 : decode cX12_offer 204 = .ok (.getfield 41, 3) := by decide +kernel
theorem dX12_offer_207 : decode cX12_offer 207 = .ok (.iconst 1, 1) := by decide +kernel
theorem dX12_offer_208 : decode cX12_offer 208 = .ok (.iaload, 1) := by decide +kernel
theorem dX12_offer_209 : decode cX12_offer 209 = .ok (.if_icmp .le 63, 3) := by decide +kernel
theorem dX12_offer_212 : decode cX12_offer 212 = .ok (.aload_n 0, 1) := by decide +kernel
theorem dX12_offer_213 : decode cX12_offer 213 = .ok (.getfield 41, 3) := by decide +kernel
theorem dX12_offer_216 : decode cX12_offer 216 = .ok (.iconst 2, 1) := by decide +kernel
theorem dX12_offer_217 : decode cX12_offer 217 = .ok (.iaload, 1) := by decide +kernel
theorem dX12_offer_218 : decode cX12_offer 218 = .ok (.iconst 1, 1) := by decide +kernel
theorem dX12_offer_219 : decode cX12_offer 219 = .ok (.if_icmp .ne 53, 3) := by decide +kernel
theorem dX12_offer_222 : decode cX12_offer 222 = .ok (.aload_n 0, 1) := by decide +kernel
theorem dX12_offer_223 : decode cX12_offer 223 = .ok (.getfield 22, 3) := by decide +kernel
theorem dX12_offer_226 : decode cX12_offer 226 = .ok (.bipush 12, 2) := by decide +kernel
theorem dX12_offer_228 : decode cX12_offer 228 = .ok (.iload 4, 2) := by decide +kernel
theorem dX12_offer_230 : decode cX12_offer 230 = .ok (.iadd, 1) := by decide +kernel
theorem dX12_offer_231 : decode cX12_offer 231 = .ok (.aload_n 0, 1) := by decide +kernel
theorem dX12_offer_232 : decode cX12_offer 232 = .ok (.getfield 22, 3) := by decide +kernel
theorem dX12_offer_235 : decode cX12_offer 235 = .ok (.bipush 85, 2) := by decide +kernel
theorem dX12_offer_237 : decode cX12_offer 237 = .ok (.iaload, 1) := by decide +kernel
theorem dX12_offer_238 : decode cX12_offer 238 = .ok (.iastore, 1) := by decide +kernel
theorem dX12_offer_239 : decode cX12_offer 239 = .ok (.aload_n 0, 1) := by decide +kernel
theorem dX12_offer_240 : decode cX12_offer 240 = .ok (.getfield 22, 3) := by decide +kernel
theorem dX12_offer_243 : decode cX12_offer 243 = .ok (.bipush 85, 2) := by decide +kernel
theorem dX12_offer_245 : decode cX12_offer 245 = .ok (.dup2, 1) := by decide +kernel
theorem dX12_offer_246 : decode cX12_offer 246 = .ok (.iaload, 1) := by decide +kernel
theorem dX12_offer_247 : decode cX12_offer 247 = .ok (.iconst 1, 1) := by decide +kernel
theorem dX12_offer_248 : decode cX12_offer 248 = .ok (.iadd, 1) := by decide +kernel
theorem dX12_offer_249 : decode cX12_offer 249 = .ok (.iastore, 1) := by decide +kernel
theorem dX12_offer_250 : decode cX12_offer 250 = .ok (.aload_n 0, 1) := by decide +kernel
theorem dX12_offer_251 : decode cX12_offer 251 = .ok (.getfield 22, 3) := by decide +kernel
theorem dX12_offer_254 : decode cX12_offer 254 = .ok (.bipush 24, 2) := by decide +kernel
theorem dX12_offer_256 : decode cX12_offer 256 = .ok (.iload 4, 2) := by decide +kernel
theorem dX12_offer_258 : decode cX12_offer 258 = .ok (.iadd, 1) := by decide +kernel
theorem dX12_offer_259 : decode cX12_offer 259 = .ok (.iconst 0, 1) := by decide +kernel
theorem dX12_offer_260 : decode cX12_offer 260 = .ok (.iastore, 1) := by decide +kernel
theorem dX12_offer_261 : decode cX12_offer 261 = .ok (.aload_n 0, 1) := by decide +kernel
theorem dX12_offer_262 : decode cX12_offer 262 = .ok (.getfield 22, 3) := by decide +kernel
theorem dX12_offer_265 : decode cX12_offer 265 = .ok (.bipush 36, 2) := by decide +kernel
theorem dX12_offer_267 : decode cX12_offer 267 = .ok (.iload 4, 2) := by decide +kernel
theorem dX12_offer_269 : decode cX12_offer 269 = .ok (.iadd, 1) := by decide +kernel
theorem dX12_offer_270 : decode cX12_offer 270 = .ok (.iconst 0, 1) := by decide +kernel
theorem dX12_offer_271 : decode cX12_offer 271 = .ok (.iastore, 1) := by decide +kernel
theorem dX12_offer_272 : decode cX12_offer 272 = .ok (.iinc 3 1, 3) := by decide +kernel
theorem dX12_offer_275 : decode cX12_offer 275 = .ok (.goto (-267), 3) := by decide +kernel
theorem dX12_offer_278 : decode cX12_offer 278 = .ok (.aload_n 0, 1) := by decide +kernel
theorem dX12_offer_279 : decode cX12_offer 279 = .ok (.getfield 22, 3) := by decide +kernel
theorem dX12_offer_282 : decode cX12_offer 282 = .ok (.bipush 87, 2) := by decide +kernel
theorem dX12_offer_284 : decode cX12_offer 284 = .ok (.dup2, 1) := by decide +kernel
theorem dX12_offer_285 : decode cX12_offer 285 = .ok (.iaload, 1) := by decide +kernel
theorem dX12_offer_286 : decode cX12_offer 286 = .ok (.iload_n 2, 1) := by decide +kernel
theorem dX12_offer_287 : decode cX12_offer 287 = .ok (.ifCond .eq 7, 3) := by decide +kernel
theorem dX12_offer_290 : decode cX12_offer 290 = .ok (.iconst 0, 1) := by decide +kernel
theorem dX12_offer_291 : decode cX12_offer 291 = .ok (.goto 4, 3) := by decide +kernel
theorem dX12_offer_294 : decode cX12_offer 294 = .ok (.iconst 1, 1) := by decide +kernel
theorem dX12_offer_295 : decode cX12_offer 295 = .ok (.iadd, 1) := by decide +kernel
theorem dX12_offer_296 : decode cX12_offer 296 = .ok (.iastore, 1) := by decide +kernel
theorem dX12_offer_297 : decode cX12_offer 297 = .ok (.return_, 1) := by decide +kernel
theorem dX12_goWeek_0 : decode cX12_goWeek 0 = .ok (.iconst 0, 1) := by decide +kernel
theorem dX12_goWeek_1 : decode cX12_goWeek 1 = .ok (.istore_n 1, 1) := by decide +kernel
theorem dX12_goWeek_2 : decode cX12_goWeek 2 = .ok (.iload_n 1, 1) := by decide +kernel
theorem dX12_goWeek_3 : decode cX12_goWeek 3 = .ok (.bipush 12, 2) := by decide +kernel
theorem dX12_goWeek_5 : decode cX12_goWeek 5 = .ok (.if_icmp .ge 16, 3) := by decide +kernel
theorem dX12_goWeek_8 : decode cX12_goWeek 8 = .ok (.aload_n 0, 1) := by decide +kernel
theorem dX12_goWeek_9 : decode cX12_goWeek 9 = .ok (.getfield 31, 3) := by decide +kernel
theorem dX12_goWeek_12 : decode cX12_goWeek 12 = .ok (.iload_n 1, 1) := by decide +kernel
theorem dX12_goWeek_13 : decode cX12_goWeek 13 = .ok (.iconst 0, 1) := by decide +kernel
theorem dX12_goWeek_14 : decode cX12_goWeek 14 = .ok (.bastore, 1) := by decide +kernel
theorem dX12_goWeek_15 : decode cX12_goWeek 15 = .ok (.iinc 1 1, 3) := by decide +kernel
theorem dX12_goWeek_18 : decode cX12_goWeek 18 = .ok (.goto (-16), 3) := by decide +kernel
theorem dX12_goWeek_21 : decode cX12_goWeek 21 = .ok (.aload_n 0, 1) := by decide +kernel
theorem dX12_goWeek_22 : decode cX12_goWeek 22 = .ok (.getfield 83, 3) := by decide +kernel
theorem dX12_goWeek_25 : decode cX12_goWeek 25 = .ok (.ifCond .ne 7, 3) := by decide +kernel
theorem dX12_goWeek_28 : decode cX12_goWeek 28 = .ok (.iconst (-1), 1) := by decide +kernel
theorem dX12_goWeek_29 : decode cX12_goWeek 29 = .ok (.goto 20, 3) := by decide +kernel
theorem dX12_goWeek_32 : decode cX12_goWeek 32 = .ok (.aload_n 0, 1) := by decide +kernel
theorem dX12_goWeek_33 : decode cX12_goWeek 33 = .ok (.getfield 16, 3) := by decide +kernel
theorem dX12_goWeek_36 : decode cX12_goWeek 36 = .ok (.aload_n 0, 1) := by decide +kernel
theorem dX12_goWeek_37 : decode cX12_goWeek 37 = .ok (.getfield 22, 3) := by decide +kernel
theorem dX12_goWeek_40 : decode cX12_goWeek 40 = .ok (.bipush 86, 2) := by decide +kernel
theorem dX12_goWeek_42 : decode cX12_goWeek 42 = .ok (.iaload, 1) := by decide +kernel
theorem dX12_goWeek_43 : decode cX12_goWeek 43 = .ok (.aload_n 0, 1) := by decide +kernel
theorem dX12_goWeek_44 : decode cX12_goWeek 44 = .ok (.getfield 83, 3) := by decide +kernel
theorem dX12_goWeek_47 : decode cX12_goWeek 47 = .ok (.irem, 1) := by decide +kernel
theorem dX12_goWeek_48 : decode cX12_goWeek 48 = .ok (.iaload, 1) := by decide +kernel
theorem dX12_goWeek_49 : decode cX12_goWeek 49 = .ok (.istore_n 1, 1) := by decide +kernel
theorem dX12_goWeek_50 : decode cX12_goWeek 50 = .ok (.iload_n 1, 1) := by decide +kernel
theorem dX12_goWeek_51 : decode cX12_goWeek 51 = .ok (.iconst (-1), 1) := by decide +kernel
theorem dX12_goWeek_52 : decode cX12_goWeek 52 = .ok (.if_icmp .eq 8, 3) := by decide +kernel
theorem dX12_goWeek_55 : decode cX12_goWeek 55 = .ok (.aload_n 0, 1) := by decide +kernel
theorem dX12_goWeek_56 : decode cX12_goWeek 56 = .ok (.iload_n 1, 1) := by decide +kernel
theorem dX12_goWeek_57 : decode cX12_goWeek 57 = .ok (.invokevirtual 104, 3) := by decide +kernel
theorem dX12_goWeek_60 : decode cX12_goWeek 60 = .ok (.iconst 0, 1) := by decide +kernel
theorem dX12_goWeek_61 : decode cX12_goWeek 61 = .ok (.istore_n 2, 1) := by decide +kernel
theorem dX12_goWeek_62 : decode cX12_goWeek 62 = .ok (.iconst 0, 1) := by decide +kernel
theorem dX12_goWeek_63 : decode cX12_goWeek 63 = .ok (.istore_n 3, 1) := by decide +kernel
theorem dX12_goWeek_64 : decode cX12_goWeek 64 = .ok (.iload_n 3, 1) := by decide +kernel
theorem dX12_goWeek_65 : decode cX12_goWeek 65 = .ok (.aload_n 0, 1) := by decide +kernel
theorem dX12_goWeek_66 : decode cX12_goWeek 66 = .ok (.getfield 22, 3) := by decide +kernel
theorem dX12_goWeek_69 : decode cX12_goWeek 69 = .ok (.bipush 84, 2) := by decide +kernel
theorem dX12_goWeek_71 : decode cX12_goWeek 71 = .ok (.iaload, 1) := by decide +kernel
theorem dX12_goWeek_72 : decode cX12_goWeek 72 = .ok (.if_icmp .ge 55, 3) := by decide +kernel
theorem dX12_goWeek_75 : decode cX12_goWeek 75 = .ok (.aload_n 0, 1) := by decide +kernel
theorem dX12_goWeek_76 : decode cX12_goWeek 76 = .ok (.getfield 31, 3) := by decide +kernel
theorem dX12_goWeek_79 : decode cX12_goWeek 79 = .ok (.iload_n 3, 1) := by decide +kernel
theorem dX12_goWeek_80 : decode cX12_goWeek 80 = .ok (.baload, 1) := by decide +kernel
theorem dX12_goWeek_81 : decode cX12_goWeek 81 = .ok (.ifCond .ne 40, 3) := by decide +kernel
theorem dX12_goWeek_84 : decode cX12_goWeek 84 = .ok (.iconst 0, 1) := by decide +kernel
theorem dX12_goWeek_85 : decode cX12_goWeek 85 = .ok (.istore 4, 2) := by decide +kernel
theorem dX12_goWeek_87 : decode cX12_goWeek 87 = .ok (.iload 4, 2) := by decide +kernel
theorem dX12_goWeek_89 : decode cX12_goWeek 89 = .ok (.bipush 60, 2) := by decide +kernel
theorem dX12_goWeek_91 : decode cX12_goWeek 91 = .ok (.if_icmp .ge 27, 3) := by decide +kernel
theorem dX12_goWeek_94 : decode cX12_goWeek 94 = .ok (.aload_n 0, 1) := by decide +kernel
theorem dX12_goWeek_95 : decode cX12_goWeek 95 = .ok (.getfield 22, 3) := by decide +kernel
theorem dX12_goWeek_98 : decode cX12_goWeek 98 = .ok (.iload 4, 2) := by decide +kernel
theorem dX12_goWeek_100 : decode cX12_goWeek 100 = .ok (.iload_n 2, 1) := by decide +kernel
theorem dX12_goWeek_101 : decode cX12_goWeek 101 = .ok (.iadd, 1) := by decide +kernel
theorem dX12_goWeek_102 : decode cX12_goWeek 102 = .ok (.aload_n 0, 1) := by decide +kernel
theorem dX12_goWeek_103 : decode cX12_goWeek 103 = .ok (.getfield 22, 3) := by decide +kernel
theorem dX12_goWeek_106 : decode cX12_goWeek 106 = .ok (.iload 4, 2) := by decide +kernel
theorem dX12_goWeek_108 : decode cX12_goWeek 108 = .ok (.iload_n 3, 1) := by decide +kernel
theorem dX12_goWeek_109 : decode cX12_goWeek 109 = .ok (.iadd, 1) := by decide +kernel
theorem dX12_goWeek_110 : decode cX12_goWeek 110 = .ok (.iaload, 1) := by decide +kernel
theorem dX12_goWeek_111 : decode cX12_goWeek 111 = .ok (.iastore, 1) := by decide +kernel
theorem dX12_goWeek_112 : decode cX12_goWeek 112 = .ok (.iinc 4 12, 3) := by decide +kernel
theorem dX12_goWeek_115 : decode cX12_goWeek 115 = .ok (.goto (-28), 3) := by decide +kernel
theorem dX12_goWeek_118 : decode cX12_goWeek 118 = .ok (.iinc 2 1, 3) := by decide +kernel
theorem dX12_goWeek_121 : decode cX12_goWeek 121 = .ok (.iinc 3 1, 3) := by decide +kernel
theorem dX12_goWeek_124 : decode cX12_goWeek 124 = .ok (.goto (-60), 3) := by decide +kernel
theorem dX12_goWeek_127 : decode cX12_goWeek 127 = .ok (.aload_n 0, 1) := by decide +kernel
theorem dX12_goWeek_128 : decode cX12_goWeek 128 = .ok (.getfield 22, 3) := by decide +kernel
theorem dX12_goWeek_131 : decode cX12_goWeek 131 = .ok (.bipush 84, 2) := by decide +kernel
theorem dX12_goWeek_133 : decode cX12_goWeek 133 = .ok (.iload_n 2, 1) := by decide +kernel
theorem dX12_goWeek_134 : decode cX12_goWeek 134 = .ok (.iastore, 1) := by decide +kernel
theorem dX12_goWeek_135 : decode cX12_goWeek 135 = .ok (.aload_n 0, 1) := by decide +kernel
theorem dX12_goWeek_136 : decode cX12_goWeek 136 = .ok (.getfield 87, 3) := by decide +kernel
theorem dX12_goWeek_139 : decode cX12_goWeek 139 = .ok (.ifCond .ne 7, 3) := by decide +kernel
theorem dX12_goWeek_142 : decode cX12_goWeek 142 = .ok (.iconst (-1), 1) := by decide +kernel
theorem dX12_goWeek_143 : decode cX12_goWeek 143 = .ok (.goto 20, 3) := by decide +kernel
theorem dX12_goWeek_146 : decode cX12_goWeek 146 = .ok (.aload_n 0, 1) := by decide +kernel
theorem dX12_goWeek_147 : decode cX12_goWeek 147 = .ok (.getfield 19, 3) := by decide +kernel
theorem dX12_goWeek_150 : decode cX12_goWeek 150 = .ok (.aload_n 0, 1) := by decide +kernel
theorem dX12_goWeek_151 : decode cX12_goWeek 151 = .ok (.getfield 22, 3) := by decide +kernel
theorem dX12_goWeek_154 : decode cX12_goWeek 154 = .ok (.bipush 86, 2) := by decide +kernel
theorem dX12_goWeek_156 : decode cX12_goWeek 156 = .ok (.iaload, 1) := by decide +kernel
theorem dX12_goWeek_157 : decode cX12_goWeek 157 = .ok (.aload_n 0, 1) := by decide +kernel
theorem dX12_goWeek_158 : decode cX12_goWeek 158 = .ok (.getfield 87, 3) := by decide +kernel
theorem dX12_goWeek_161 : decode cX12_goWeek 161 = .ok (.irem, 1) := by decide +kernel
theorem dX12_goWeek_162 : decode cX12_goWeek 162 = .ok (.iaload, 1) := by decide +kernel
theorem dX12_goWeek_163 : decode cX12_goWeek 163 = .ok (.istore_n 3, 1) := by decide +kernel
theorem dX12_goWeek_164 : decode cX12_goWeek 164 = .ok (.iload_n 3, 1) := by decide +kernel
theorem dX12_goWeek_165 : decode cX12_goWeek 165 = .ok (.iconst (-1), 1) := by decide +kernel
theorem dX12_goWeek_166 : decode cX12_goWeek 166 = .ok (.if_icmp .eq 25, 3) := by decide +kernel
theorem dX12_goWeek_169 : decode cX12_goWeek 169 = .ok (.iload_n 2, 1) := by decide +kernel
theorem dX12_goWeek_170 : decode cX12_goWeek 170 = .ok (.bipush 12, 2) := by decide +kernel
theorem dX12_goWeek_172 : decode cX12_goWeek 172 = .ok (.if_icmp .ne 19, 3) := by decide +kernel
theorem dX12_goWeek_175 : decode cX12_goWeek 175 = .ok (.aload_n 0, 1) := by decide +kernel
theorem dX12_goWeek_176 : decode cX12_goWeek 176 = .ok (.getfield 22, 3) := by decide +kernel
theorem dX12_goWeek_179 : decode cX12_goWeek 179 = .ok (.bipush 76, 2) := by decide +kernel
theorem dX12_goWeek_181 : decode cX12_goWeek 181 = .ok (.iload_n 3, 1) := by decide +kernel
theorem dX12_goWeek_182 : decode cX12_goWeek 182 = .ok (.iadd, 1) := by decide +kernel
theorem dX12_goWeek_183 : decode cX12_goWeek 183 = .ok (.dup2, 1) := by decide +kernel
theorem dX12_goWeek_184 : decode cX12_goWeek 184 = .ok (.iaload, 1) := by decide +kernel
theorem dX12_goWeek_185 : decode cX12_goWeek 185 = .ok (.iconst 1, 1) := by decide +kernel
theorem dX12_goWeek_186 : decode cX12_goWeek 186 = .ok (.iadd, 1) := by decide +kernel
theorem dX12_goWeek_187 : decode cX12_goWeek 187 = .ok (.iastore, 1) := by decide +kernel
theorem dX12_goWeek_188 : decode cX12_goWeek 188 = .ok (.goto 13, 3) := by decide +kernel
theorem dX12_goWeek_191 : decode cX12_goWeek 191 = .ok (.iload_n 3, 1) := by decide +kernel
theorem dX12_goWeek_192 : decode cX12_goWeek 192 = .ok (.iconst (-1), 1) := by decide +kernel
theorem dX12_goWeek_193 : decode cX12_goWeek 193 = .ok (.if_icmp .eq 8, 3) := by decide +kernel
theorem dX12_goWeek_196 : decode cX12_goWeek 196 = .ok (.aload_n 0, 1) := by decide +kernel
theorem dX12_goWeek_197 : decode cX12_goWeek 197 = .ok (.iload_n 3, 1) := by decide +kernel
theorem dX12_goWeek_198 : decode cX12_goWeek 198 = .ok (.invokevirtual 90, 3) := by decide +kernel
theorem dX12_goWeek_201 : decode cX12_goWeek 201 = .ok (.iconst 0, 1) := by decide +kernel
theorem dX12_goWeek_202 : decode cX12_goWeek 202 = .ok (.istore 4, 2) := by decide +kernel
theorem dX12_goWeek_204 : decode cX12_goWeek 204 = .ok (.iload 4, 2) := by decide +kernel
theorem dX12_goWeek_206 : decode cX12_goWeek 206 = .ok (.aload_n 0, 1) := by decide +kernel
theorem dX12_goWeek_207 : decode cX12_goWeek 207 = .ok (.getfield 22, 3) := by decide +kernel
theorem dX12_goWeek_210 : decode cX12_goWeek 210 = .ok (.bipush 84, 2) := by decide +kernel
theorem dX12_goWeek_212 : decode cX12_goWeek 212 = .ok (.iaload, 1) := by decide +kernel
theorem dX12_goWeek_213 : decode cX12_goWeek 213 = .ok (.if_icmp .ge 111, 3) := by decide +kernel
theorem dX12_goWeek_216 : decode cX12_goWeek 216 = .ok (.aload_n 0, 1) := by decide +kernel
theorem dX12_goWeek_217 : decode cX12_goWeek 217 = .ok (.getfield 22, 3) := by decide +kernel
theorem dX12_goWeek_220 : decode cX12_goWeek 220 = .ok (.bipush 48, 2) := by decide +kernel
theorem dX12_goWeek_222 : decode cX12_goWeek 222 = .ok (.iload 4, 2) := by decide +kernel
theorem dX12_goWeek_224 : decode cX12_goWeek 224 = .ok (.iadd, 1) := by decide +kernel
theorem dX12_goWeek_225 : decode cX12_goWeek 225 = .ok (.dup2, 1) := by decide +kernel
theorem dX12_goWeek_226 : decode cX12_goWeek 226 = .ok (.iaload, 1) := by decide +kernel
theorem dX12_goWeek_227 : decode cX12_goWeek 227 = .ok (.iconst 1, 1) := by decide +kernel
theorem dX12_goWeek_228 : decode cX12_goWeek 228 = .ok (.iadd, 1) := by decide +kernel
theorem dX12_goWeek_229 : decode cX12_goWeek 229 = .ok (.iastore, 1) := by decide +kernel
theorem dX12_goWeek_230 : decode cX12_goWeek 230 = .ok (.aload_n 0, 1) := by decide +kernel
theorem dX12_goWeek_231 : decode cX12_goWeek 231 = .ok (.getfield 22, 3) := by decide +kernel
theorem dX12_goWeek_234 : decode cX12_goWeek 234 = .ok (.bipush 24, 2) := by decide +kernel
theorem dX12_goWeek_236 : decode cX12_goWeek 236 = .ok (.iload 4, 2) := by decide +kernel
theorem dX12_goWeek_238 : decode cX12_goWeek 238 = .ok (.iadd, 1) := by decide +kernel
theorem dX12_goWeek_239 : decode cX12_goWeek 239 = .ok (.aload_n 0, 1) := by decide +kernel
theorem dX12_goWeek_240 : decode cX12_goWeek 240 = .ok (.getfield 22, 3) := by decide +kernel
theorem dX12_goWeek_243 : decode cX12_goWeek 243 = .ok (.bipush 24, 2) := by decide +kernel
theorem dX12_goWeek_245 : decode cX12_goWeek 245 = .ok (.iload 4, 2) := by decide +kernel
theorem dX12_goWeek_247 : decode cX12_goWeek 247 = .ok (.iadd, 1) := by decide +kernel
theorem dX12_goWeek_248 : decode cX12_goWeek 248 = .ok (.iaload, 1) := by decide +kernel
theorem dX12_goWeek_249 : decode cX12_goWeek 249 = .ok (.aload_n 0, 1) := by decide +kernel
theorem dX12_goWeek_250 : decode cX12_goWeek 250 = .ok (.getfield 41, 3) := by decide +kernel
theorem dX12_goWeek_253 : decode cX12_goWeek 253 = .ok (.iconst 3, 1) := by decide +kernel
theorem dX12_goWeek_254 : decode cX12_goWeek 254 = .ok (.iaload, 1) := by decide +kernel
theorem dX12_goWeek_255 : decode cX12_goWeek 255 = .ok (.iadd, 1) := by decide +kernel
theorem dX12_goWeek_256 : decode cX12_goWeek 256 = .ok (.bipush 99, 2) := by decide +kernel
theorem dX12_goWeek_258 : decode cX12_goWeek 258 = .ok (.if_icmp .le 8, 3) := by decide +kernel
theorem dX12_goWeek_261 : decode cX12_goWeek 261 = .ok (.bipush 99, 2) := by decide +kernel
theorem dX12_goWeek_263 : decode cX12_goWeek 263 = .ok (.goto 20, 3) := by decide +kernel
theorem dX12_goWeek_266 : decode cX12_goWeek 266 = .ok (.aload_n 0, 1) := by decide +kernel
theorem dX12_goWeek_267 : decode cX12_goWeek 267 = .ok (.getfield 22, 3) := by decide +kernel
theorem dX12_goWeek_270 : decode cX12_goWeek 270 = .ok (.bipush 24, 2) := by decide +kernel
theorem dX12_goWeek_272 : decode cX12_goWeek 272 = .ok (.iload 4, 2) := by decide +kernel
theorem dX12_goWeek_274 : decode cX12_goWeek 274 = .ok (.iadd, 1) := by decide +kernel
theorem dX12_goWeek_275 : decode cX12_goWeek 275 = .ok (.iaload, 1) := by decide +kernel
theorem dX12_goWeek_276 : decode cX12_goWeek 276 = .ok (.aload_n 0, 1) := by decide +kernel
theorem dX12_goWeek_277 : decode cX12_goWeek 277 = .ok (.getfield 41, 3) := by decide +kernel
theorem dX12_goWeek_280 : decode cX12_goWeek 280 = .ok (.iconst 3, 1) := by decide +kernel
theorem dX12_goWeek_281 : decode cX12_goWeek 281 = .ok (.iaload, 1) := by decide +kernel
theorem dX12_goWeek_282 : decode cX12_goWeek 282 = .ok (.iadd, 1) := by decide +kernel
theorem dX12_goWeek_283 : decode cX12_goWeek 283 = .ok (.iastore, 1) := by decide +kernel
theorem dX12_goWeek_284 : decode cX12_goWeek 284 = .ok (.aload_n 0, 1) := by decide +kernel
theorem dX12_goWeek_285 : decode cX12_goWeek 285 = .ok (.getfield 22, 3) := by decide +kernel
theorem dX12_goWeek_288 : decode cX12_goWeek 288 = .ok (.bipush 80, 2) := by decide +kernel
theorem dX12_goWeek_290 : decode cX12_goWeek 290 = .ok (.aload_n 0, 1) := by decide +kernel
theorem dX12_goWeek_291 : decode cX12_goWeek 291 = .ok (.getfield 22, 3) := by decide +kernel
theorem dX12_goWeek_294 : decode cX12_goWeek 294 = .ok (.iconst 0, 1) := by decide +kernel
theorem dX12_goWeek_295 : decode cX12_goWeek 295 = .ok (.iload 4, 2) := by decide +kernel
theorem dX12_goWeek_297 : decode cX12_goWeek 297 = .ok (.iadd, 1) := by decide +kernel
theorem dX12_goWeek_298 : decode cX12_goWeek 298 = .ok (.iaload, 1) := by decide +kernel
theorem dX12_goWeek_299 : decode cX12_goWeek 299 = .ok (.iadd, 1) := by decide +kernel
theorem dX12_goWeek_300 : decode cX12_goWeek 300 = .ok (.dup2, 1) := by decide +kernel
theorem dX12_goWeek_301 : decode cX12_goWeek 301 = .ok (.iaload, 1) := by decide +kernel
theorem dX12_goWeek_302 : decode cX12_goWeek 302 = .ok (.aload_n 0, 1) := by decide +kernel
theorem dX12_goWeek_303 : decode cX12_goWeek 303 = .ok (.getfield 13, 3) := by decide +kernel
theorem dX12_goWeek_306 : decode cX12_goWeek 306 = .ok (.aload_n 0, 1) := by decide +kernel
theorem dX12_goWeek_307 : decode cX12_goWeek 307 = .ok (.getfield 22, 3) := by decide +kernel
theorem dX12_goWeek_310 : decode cX12_goWeek 310 = .ok (.iconst 0, 1) := by decide +kernel
theorem dX12_goWeek_311 : decode cX12_goWeek 311 = .ok (.iload 4, 2) := by decide +kernel
theorem dX12_goWeek_313 : decode cX12_goWeek 313 = .ok (.iadd, 1) := by decide +kernel
theorem dX12_goWeek_314 : decode cX12_goWeek 314 = .ok (.iaload, 1) := by decide +kernel
theorem dX12_goWeek_315 : decode cX12_goWeek 315 = .ok (.iaload, 1) := by decide +kernel
theorem dX12_goWeek_316 : decode cX12_goWeek 316 = .ok (.iadd, 1) := by decide +kernel
theorem dX12_goWeek_317 : decode cX12_goWeek 317 = .ok (.iastore, 1) := by decide +kernel
theorem dX12_goWeek_318 : decode cX12_goWeek 318 = .ok (.iinc 4 1, 3) := by decide +kernel
theorem dX12_goWeek_321 : decode cX12_goWeek 321 = .ok (.goto (-117), 3) := by decide +kernel
theorem dX12_goWeek_324 : decode cX12_goWeek 324 = .ok (.aload_n 0, 1) := by decide +kernel
theorem dX12_goWeek_325 : decode cX12_goWeek 325 = .ok (.getfield 22, 3) := by decide +kernel
theorem dX12_goWeek_328 : decode cX12_goWeek 328 = .ok (.bipush 86, 2) := by decide +kernel
theorem dX12_goWeek_330 : decode cX12_goWeek 330 = .ok (.dup2, 1) := by decide +kernel
theorem dX12_goWeek_331 : decode cX12_goWeek 331 = .ok (.iaload, 1) := by decide +kernel
theorem dX12_goWeek_332 : decode cX12_goWeek 332 = .ok (.iconst 1, 1) := by decide +kernel
theorem dX12_goWeek_333 : decode cX12_goWeek 333 = .ok (.iadd, 1) := by decide +kernel
theorem dX12_goWeek_334 : decode cX12_goWeek 334 = .ok (.iastore, 1) := by decide +kernel
theorem dX12_goWeek_335 : decode cX12_goWeek 335 = .ok (.return_, 1) := by decide +kernel
theorem dX12_run_0 : decode cX12_run 0 = .ok (.iload_n 1, 1) := by decide +kernel
theorem dX12_run_1 : decode cX12_run 1 = .ok (.iconst 1, 1) := by decide +kernel
theorem dX12_run_2 : decode cX12_run 2 = .ok (.bipush 100, 2) := by decide +kernel
theorem dX12_run_4 : decode cX12_run 4 = .ok (.invokestatic 75, 3) := by decide +kernel
theorem dX12_run_7 : decode cX12_run 7 = .ok (.ifCond .eq 18, 3) := by decide +kernel
theorem dX12_run_10 : decode cX12_run 10 = .ok (.aload_n 0, 1) := by decide +kernel
theorem dX12_run_11 : decode cX12_run 11 = .ok (.getfield 22, 3) := by decide +kernel
theorem dX12_run_14 : decode cX12_run 14 = .ok (.bipush 86, 2) := by decide +kernel
theorem dX12_run_16 : decode cX12_run 16 = .ok (.iaload, 1) := by decide +kernel
theorem dX12_run_17 : decode cX12_run 17 = .ok (.iload_n 1, 1) := by decide +kernel
theorem dX12_run_18 : decode cX12_run 18 = .ok (.iadd, 1) := by decide +kernel
theorem dX12_run_19 : decode cX12_run 19 = .ok (.sipush 2000, 3) := by decide +kernel
theorem dX12_run_22 : decode cX12_run 22 = .ok (.if_icmp .le 6, 3) := by decide +kernel
theorem dX12_run_25 : decode cX12_run 25 = .ok (.bipush (-3), 2) := by decide +kernel
theorem dX12_run_27 : decode cX12_run 27 = .ok (.ireturn, 1) := by decide +kernel
theorem dX12_run_28 : decode cX12_run 28 = .ok (.iconst 0, 1) := by decide +kernel
theorem dX12_run_29 : decode cX12_run 29 = .ok (.istore_n 2, 1) := by decide +kernel
theorem dX12_run_30 : decode cX12_run 30 = .ok (.iload_n 2, 1) := by decide +kernel
theorem dX12_run_31 : decode cX12_run 31 = .ok (.iload_n 1, 1) := by decide +kernel
theorem dX12_run_32 : decode cX12_run 32 = .ok (.if_icmp .ge 13, 3) := by decide +kernel
theorem dX12_run_35 : decode cX12_run 35 = .ok (.aload_n 0, 1) := by decide +kernel
theorem dX12_run_36 : decode cX12_run 36 = .ok (.invokevirtual 107, 3) := by decide +kernel
theorem dX12_run_39 : decode cX12_run 39 = .ok (.iinc 2 1, 3) := by decide +kernel
theorem dX12_run_42 : decode cX12_run 42 = .ok (.goto (-12), 3) := by decide +kernel
theorem dX12_run_45 : decode cX12_run 45 = .ok (.aload_n 0, 1) := by decide +kernel
theorem dX12_run_46 : decode cX12_run 46 = .ok (.getfield 22, 3) := by decide +kernel
theorem dX12_run_49 : decode cX12_run 49 = .ok (.bipush 86, 2) := by decide +kernel
theorem dX12_run_51 : decode cX12_run 51 = .ok (.iaload, 1) := by decide +kernel
theorem dX12_run_52 : decode cX12_run 52 = .ok (.ireturn, 1) := by decide +kernel
theorem dX12_person_0 : decode cX12_person 0 = .ok (.iload_n 1, 1) := by decide +kernel
theorem dX12_person_1 : decode cX12_person 1 = .ok (.iconst 0, 1) := by decide +kernel
theorem dX12_person_2 : decode cX12_person 2 = .ok (.aload_n 0, 1) := by decide +kernel
theorem dX12_person_3 : decode cX12_person 3 = .ok (.getfield 22, 3) := by decide +kernel
theorem dX12_person_6 : decode cX12_person 6 = .ok (.bipush 84, 2) := by decide +kernel
theorem dX12_person_8 : decode cX12_person 8 = .ok (.iaload, 1) := by decide +kernel
theorem dX12_person_9 : decode cX12_person 9 = .ok (.iconst 1, 1) := by decide +kernel
theorem dX12_person_10 : decode cX12_person 10 = .ok (.isub, 1) := by decide +kernel
theorem dX12_person_11 : decode cX12_person 11 = .ok (.invokestatic 75, 3) := by decide +kernel
theorem dX12_person_14 : decode cX12_person 14 = .ok (.ifCond .ne 6, 3) := by decide +kernel
theorem dX12_person_17 : decode cX12_person 17 = .ok (.bipush (-2), 2) := by decide +kernel
theorem dX12_person_19 : decode cX12_person 19 = .ok (.ireturn, 1) := by decide +kernel
theorem dX12_person_20 : decode cX12_person 20 = .ok (.iload_n 2, 1) := by decide +kernel
theorem dX12_person_21 : decode cX12_person 21 = .ok (.iconst 0, 1) := by decide +kernel
theorem dX12_person_22 : decode cX12_person 22 = .ok (.iconst 4, 1) := by decide +kernel
theorem dX12_person_23 : decode cX12_person 23 = .ok (.invokestatic 75, 3) := by decide +kernel
theorem dX12_person_26 : decode cX12_person 26 = .ok (.ifCond .ne 6, 3) := by decide +kernel
theorem dX12_person_29 : decode cX12_person 29 = .ok (.bipush (-3), 2) := by decide +kernel
theorem dX12_person_31 : decode cX12_person 31 = .ok (.ireturn, 1) := by decide +kernel
theorem dX12_person_32 : decode cX12_person 32 = .ok (.aload_n 0, 1) := by decide +kernel
theorem dX12_person_33 : decode cX12_person 33 = .ok (.invokevirtual 98, 3) := by decide +kernel
theorem dX12_person_36 : decode cX12_person 36 = .ok (.aload_n 0, 1) := by decide +kernel
theorem dX12_person_37 : decode cX12_person 37 = .ok (.getfield 22, 3) := by decide +kernel
theorem dX12_person_40 : decode cX12_person 40 = .ok (.bipush 12, 2) := by decide +kernel
theorem dX12_person_42 : decode cX12_person 42 = .ok (.iload_n 2, 1) := by decide +kernel
theorem dX12_person_43 : decode cX12_person 43 = .ok (.imul, 1) := by decide +kernel
theorem dX12_person_44 : decode cX12_person 44 = .ok (.aload_n 0, 1) := by decide +kernel
theorem dX12_person_45 : decode cX12_person 45 = .ok (.getfield 28, 3) := by decide +kernel
theorem dX12_person_48 : decode cX12_person 48 = .ok (.iload_n 1, 1) := by decide +kernel
theorem dX12_person_49 : decode cX12_person 49 = .ok (.iaload, 1) := by decide +kernel
theorem dX12_person_50 : decode cX12_person 50 = .ok (.iadd, 1) := by decide +kernel
theorem dX12_person_51 : decode cX12_person 51 = .ok (.iaload, 1) := by decide +kernel
theorem dX12_person_52 : decode cX12_person 52 = .ok (.ireturn, 1) := by decide +kernel
theorem dX12_of_0 : decode cX12_of 0 = .ok (.iload_n 1, 1) := by decide +kernel
theorem dX12_of_1 : decode cX12_of 1 = .ok (.invokestatic 79, 3) := by decide +kernel
theorem dX12_of_4 : decode cX12_of 4 = .ok (.ifCond .ne 6, 3) := by decide +kernel
theorem dX12_of_7 : decode cX12_of 7 = .ok (.bipush (-2), 2) := by decide +kernel
theorem dX12_of_9 : decode cX12_of 9 = .ok (.ireturn, 1) := by decide +kernel
theorem dX12_of_10 : decode cX12_of 10 = .ok (.iload_n 2, 1) := by decide +kernel
theorem dX12_of_11 : decode cX12_of 11 = .ok (.iconst 0, 1) := by decide +kernel
theorem dX12_of_12 : decode cX12_of 12 = .ok (.iconst 5, 1) := by decide +kernel
theorem dX12_of_13 : decode cX12_of 13 = .ok (.invokestatic 75, 3) := by decide +kernel
theorem dX12_of_16 : decode cX12_of 16 = .ok (.ifCond .eq 19, 3) := by decide +kernel
theorem dX12_of_19 : decode cX12_of 19 = .ok (.aload_n 0, 1) := by decide +kernel
theorem dX12_of_20 : decode cX12_of 20 = .ok (.getfield 22, 3) := by decide +kernel
theorem dX12_of_23 : decode cX12_of 23 = .ok (.bipush 60, 2) := by decide +kernel
theorem dX12_of_25 : decode cX12_of 25 = .ok (.iconst 4, 1) := by decide +kernel
theorem dX12_of_26 : decode cX12_of 26 = .ok (.iload_n 2, 1) := by decide +kernel
theorem dX12_of_27 : decode cX12_of 27 = .ok (.imul, 1) := by decide +kernel
theorem dX12_of_28 : decode cX12_of 28 = .ok (.iadd, 1) := by decide +kernel
theorem dX12_of_29 : decode cX12_of 29 = .ok (.iload_n 1, 1) := by decide +kernel
theorem dX12_of_30 : decode cX12_of 30 = .ok (.iadd, 1) := by decide +kernel
theorem dX12_of_31 : decode cX12_of 31 = .ok (.iaload, 1) := by decide +kernel
theorem dX12_of_32 : decode cX12_of 32 = .ok (.goto 5, 3) := by decide +kernel
theorem dX12_of_35 : decode cX12_of 35 = .ok (.bipush (-3), 2) := by decide +kernel
theorem dX12_of_37 : decode cX12_of 37 = .ok (.ireturn, 1) := by decide +kernel
theorem dX12_empty_0 : decode cX12_empty 0 = .ok (.aload_n 0, 1) := by decide +kernel
theorem dX12_empty_1 : decode cX12_empty 1 = .ok (.getfield 22, 3) := by decide +kernel
theorem dX12_empty_4 : decode cX12_empty 4 = .ok (.bipush 87, 2) := by decide +kernel
theorem dX12_empty_6 : decode cX12_empty 6 = .ok (.iaload, 1) := by decide +kernel
theorem dX12_empty_7 : decode cX12_empty 7 = .ok (.ireturn, 1) := by decide +kernel
theorem dX12_write_0 : decode cX12_write 0 = .ok (.iload_n 3, 1) := by decide +kernel
theorem dX12_write_1 : decode cX12_write 1 = .ok (.iconst 1, 1) := by decide +kernel
theorem dX12_write_2 : decode cX12_write 2 = .ok (.bipush 8, 2) := by decide +kernel
theorem dX12_write_4 : decode cX12_write 4 = .ok (.invokestatic 75, 3) := by decide +kernel
theorem dX12_write_7 : decode cX12_write 7 = .ok (.ifCond .ne 6, 3) := by decide +kernel
theorem dX12_write_10 : decode cX12_write 10 = .ok (.bipush (-3), 2) := by decide +kernel
theorem dX12_write_12 : decode cX12_write 12 = .ok (.ireturn, 1) := by decide +kernel
theorem dX12_write_13 : decode cX12_write 13 = .ok (.aload_n 0, 1) := by decide +kernel
theorem dX12_write_14 : decode cX12_write 14 = .ok (.getfield 110, 3) := by decide +kernel
theorem dX12_write_17 : decode cX12_write 17 = .ok (.iload_n 3, 1) := by decide +kernel
theorem dX12_write_18 : decode cX12_write 18 = .ok (.iadd, 1) := by decide +kernel
theorem dX12_write_19 : decode cX12_write 19 = .ok (.sipush 160, 3) := by decide +kernel
theorem dX12_write_22 : decode cX12_write 22 = .ok (.if_icmp .le 6, 3) := by decide +kernel
theorem dX12_write_25 : decode cX12_write 25 = .ok (.bipush (-5), 2) := by decide +kernel
theorem dX12_write_27 : decode cX12_write 27 = .ok (.ireturn, 1) := by decide +kernel
theorem dX12_write_28 : decode cX12_write 28 = .ok (.iconst 0, 1) := by decide +kernel
theorem dX12_write_29 : decode cX12_write 29 = .ok (.istore 4, 2) := by decide +kernel
theorem dX12_write_31 : decode cX12_write 31 = .ok (.iload 4, 2) := by decide +kernel
theorem dX12_write_33 : decode cX12_write 33 = .ok (.iload_n 3, 1) := by decide +kernel
theorem dX12_write_34 : decode cX12_write 34 = .ok (.if_icmp .ge 33, 3) := by decide +kernel
theorem dX12_write_37 : decode cX12_write 37 = .ok (.aload_n 0, 1) := by decide +kernel
theorem dX12_write_38 : decode cX12_write 38 = .ok (.getfield 35, 3) := by decide +kernel
theorem dX12_write_41 : decode cX12_write 41 = .ok (.aload_n 0, 1) := by decide +kernel
theorem dX12_write_42 : decode cX12_write 42 = .ok (.getfield 110, 3) := by decide +kernel
theorem dX12_write_45 : decode cX12_write 45 = .ok (.iload 4, 2) := by decide +kernel
theorem dX12_write_47 : decode cX12_write 47 = .ok (.iadd, 1) := by decide +kernel
theorem dX12_write_48 : decode cX12_write 48 = .ok (.lload_n 1, 1) := by decide +kernel
theorem dX12_write_49 : decode cX12_write 49 = .ok (.bipush 8, 2) := by decide +kernel
theorem dX12_write_51 : decode cX12_write 51 = .ok (.iload 4, 2) := by decide +kernel
theorem dX12_write_53 : decode cX12_write 53 = .ok (.imul, 1) := by decide +kernel
theorem dX12_write_54 : decode cX12_write 54 = .ok (.lshr, 1) := by decide +kernel
theorem dX12_write_55 : decode cX12_write 55 = .ok (.ldc2_w 113, 3) := by decide +kernel
theorem dX12_write_58 : decode cX12_write 58 = .ok (.land, 1) := by decide +kernel
theorem dX12_write_59 : decode cX12_write 59 = .ok (.l2i, 1) := by decide +kernel
theorem dX12_write_60 : decode cX12_write 60 = .ok (.iastore, 1) := by decide +kernel
theorem dX12_write_61 : decode cX12_write 61 = .ok (.iinc 4 1, 3) := by decide +kernel
theorem dX12_write_64 : decode cX12_write 64 = .ok (.goto (-33), 3) := by decide +kernel
theorem dX12_write_67 : decode cX12_write 67 = .ok (.aload_n 0, 1) := by decide +kernel
theorem dX12_write_68 : decode cX12_write 68 = .ok (.dup, 1) := by decide +kernel
theorem dX12_write_69 : decode cX12_write 69 = .ok (.getfield 110, 3) := by decide +kernel
theorem dX12_write_72 : decode cX12_write 72 = .ok (.iload_n 3, 1) := by decide +kernel
theorem dX12_write_73 : decode cX12_write 73 = .ok (.iadd, 1) := by decide +kernel
theorem dX12_write_74 : decode cX12_write 74 = .ok (.putfield 110, 3) := by decide +kernel
theorem dX12_write_77 : decode cX12_write 77 = .ok (.aload_n 0, 1) := by decide +kernel
theorem dX12_write_78 : decode cX12_write 78 = .ok (.getfield 110, 3) := by decide +kernel
theorem dX12_write_81 : decode cX12_write 81 = .ok (.ireturn, 1) := by decide +kernel
theorem dX12_erase_0 : decode cX12_erase 0 = .ok (.aload_n 0, 1) := by decide +kernel
theorem dX12_erase_1 : decode cX12_erase 1 = .ok (.getfield 110, 3) := by decide +kernel
theorem dX12_erase_4 : decode cX12_erase 4 = .ok (.istore_n 1, 1) := by decide +kernel
theorem dX12_erase_5 : decode cX12_erase 5 = .ok (.aload_n 0, 1) := by decide +kernel
theorem dX12_erase_6 : decode cX12_erase 6 = .ok (.iconst 0, 1) := by decide +kernel
theorem dX12_erase_7 : decode cX12_erase 7 = .ok (.putfield 110, 3) := by decide +kernel
theorem dX12_erase_10 : decode cX12_erase 10 = .ok (.iload_n 1, 1) := by decide +kernel
theorem dX12_erase_11 : decode cX12_erase 11 = .ok (.ireturn, 1) := by decide +kernel
theorem dX12_nextToken_0 : decode cX12_nextToken 0 = .ok (.aload_n 0, 1) := by decide +kernel
theorem dX12_nextToken_1 : decode cX12_nextToken 1 = .ok (.getfield 115, 3) := by decide +kernel
theorem dX12_nextToken_4 : decode cX12_nextToken 4 = .ok (.aload_n 0, 1) := by decide +kernel
theorem dX12_nextToken_5 : decode cX12_nextToken 5 = .ok (.getfield 110, 3) := by decide +kernel
theorem dX12_nextToken_8 : decode cX12_nextToken 8 = .ok (.if_icmp .ge 30, 3) := by decide +kernel
theorem dX12_nextToken_11 : decode cX12_nextToken 11 = .ok (.aload_n 0, 1) := by decide +kernel
theorem dX12_nextToken_12 : decode cX12_nextToken 12 = .ok (.getfield 35, 3) := by decide +kernel
theorem dX12_nextToken_15 : decode cX12_nextToken 15 = .ok (.aload_n 0, 1) := by decide +kernel
theorem dX12_nextToken_16 : decode cX12_nextToken 16 = .ok (.getfield 115, 3) := by decide +kernel
theorem dX12_nextToken_19 : decode cX12_nextToken 19 = .ok (.iaload, 1) := by decide +kernel
theorem dX12_nextToken_20 : decode cX12_nextToken 20 = .ok (.bipush 32, 2) := by decide +kernel
theorem dX12_nextToken_22 : decode cX12_nextToken 22 = .ok (.if_icmp .ne 16, 3) := by decide +kernel
theorem dX12_nextToken_25 : decode cX12_nextToken 25 = .ok (.aload_n 0, 1) := by decide +kernel
theorem dX12_nextToken_26 : decode cX12_nextToken 26 = .ok (.dup, 1) := by decide +kernel
theorem dX12_nextToken_27 : decode cX12_nextToken 27 = .ok (.getfield 115, 3) := by decide +kernel
theorem dX12_nextToken_30 : decode cX12_nextToken 30 = .ok (.iconst 1, 1) := by decide +kernel
theorem dX12_nextToken_31 : decode cX12_nextToken 31 = .ok (.iadd, 1) := by decide +kernel
theorem dX12_nextToken_32 : decode cX12_nextToken 32 = .ok (.putfield 115, 3) := by decide +kernel
theorem dX12_nextToken_35 : decode cX12_nextToken 35 = .ok (.goto (-35), 3) := by decide +kernel
theorem dX12_nextToken_38 : decode cX12_nextToken 38 = .ok (.aload_n 0, 1) := by decide +kernel
theorem dX12_nextToken_39 : decode cX12_nextToken 39 = .ok (.aload_n 0, 1) := by decide +kernel
theorem dX12_nextToken_40 : decode cX12_nextToken 40 = .ok (.getfield 115, 3) := by decide +kernel
theorem dX12_nextToken_43 : decode cX12_nextToken 43 = .ok (.putfield 118, 3) := by decide +kernel
theorem dX12_nextToken_46 : decode cX12_nextToken 46 = .ok (.aload_n 0, 1) := by decide +kernel
theorem dX12_nextToken_47 : decode cX12_nextToken 47 = .ok (.iconst 0, 1) := by decide +kernel
theorem dX12_nextToken_48 : decode cX12_nextToken 48 = .ok (.putfield 121, 3) := by decide +kernel
theorem dX12_nextToken_51 : decode cX12_nextToken 51 = .ok (.aload_n 0, 1) := by decide +kernel
theorem dX12_nextToken_52 : decode cX12_nextToken 52 = .ok (.iconst 0, 1) := by decide +kernel
theorem dX12_nextToken_53 : decode cX12_nextToken 53 = .ok (.putfield 124, 3) := by decide +kernel
theorem dX12_nextToken_56 : decode cX12_nextToken 56 = .ok (.aload_n 0, 1) := by decide +kernel
theorem dX12_nextToken_57 : decode cX12_nextToken 57 = .ok (.getfield 115, 3) := by decide +kernel
theorem dX12_nextToken_60 : decode cX12_nextToken 60 = .ok (.aload_n 0, 1) := by decide +kernel
theorem dX12_nextToken_61 : decode cX12_nextToken 61 = .ok (.getfield 110, 3) := by decide +kernel
theorem dX12_nextToken_64 : decode cX12_nextToken 64 = .ok (.if_icmp .ne 13, 3) := by decide +kernel
theorem dX12_nextToken_67 : decode cX12_nextToken 67 = .ok (.aload_n 0, 1) := by decide +kernel
theorem dX12_nextToken_68 : decode cX12_nextToken 68 = .ok (.ldc2_w 127, 3) := by decide +kernel
theorem dX12_nextToken_71 : decode cX12_nextToken 71 = .ok (.putfield 129, 3) := by decide +kernel
theorem dX12_nextToken_74 : decode cX12_nextToken 74 = .ok (.goto 320, 3) := by decide +kernel
theorem dX12_nextToken_77 : decode cX12_nextToken 77 = .ok (.aload_n 0, 1) := by decide +kernel
theorem dX12_nextToken_78 : decode cX12_nextToken 78 = .ok (.getfield 35, 3) := by decide +kernel
theorem dX12_nextToken_81 : decode cX12_nextToken 81 = .ok (.aload_n 0, 1) := by decide +kernel
theorem dX12_nextToken_82 : decode cX12_nextToken 82 = .ok (.getfield 115, 3) := by decide +kernel
theorem dX12_nextToken_85 : decode cX12_nextToken 85 = .ok (.iaload, 1) := by decide +kernel
theorem dX12_nextToken_86 : decode cX12_nextToken 86 = .ok (.bipush 97, 2) := by decide +kernel
theorem dX12_nextToken_88 : decode cX12_nextToken 88 = .ok (.bipush 122, 2) := by decide +kernel
theorem dX12_nextToken_90 : decode cX12_nextToken 90 = .ok (.invokestatic 75, 3) := by decide +kernel
theorem dX12_nextToken_93 : decode cX12_nextToken 93 = .ok (.ifCond .eq 129, 3) := by decide +kernel
theorem dX12_nextToken_96 : decode cX12_nextToken 96 = .ok (.aload_n 0, 1) := by decide +kernel
theorem dX12_nextToken_97 : decode cX12_nextToken 97 = .ok (.lconst 0, 1) := by decide +kernel
theorem dX12_nextToken_98 : decode cX12_nextToken 98 = .ok (.putfield 129, 3) := by decide +kernel
theorem dX12_nextToken_101 : decode cX12_nextToken 101 = .ok (.aload_n 0, 1) := by decide +kernel
theorem dX12_nextToken_102 : decode cX12_nextToken 102 = .ok (.getfield 115, 3) := by decide +kernel
theorem dX12_nextToken_105 : decode cX12_nextToken 105 = .ok (.aload_n 0, 1) := by decide +kernel
theorem dX12_nextToken_106 : decode cX12_nextToken 106 = .ok (.getfield 110, 3) := by decide +kernel
theorem dX12_nextToken_109 : decode cX12_nextToken 109 = .ok (.if_icmp .ge 82, 3) := by decide +kernel
theorem dX12_nextToken_112 : decode cX12_nextToken 112 = .ok (.aload_n 0, 1) := by decide +kernel
theorem dX12_nextToken_113 : decode cX12_nextToken 113 = .ok (.getfield 35, 3) := by decide +kernel
theorem dX12_nextToken_116 : decode cX12_nextToken 116 = .ok (.aload_n 0, 1) := by decide +kernel
theorem dX12_nextToken_117 : decode cX12_nextToken 117 = .ok (.getfield 115, 3) := by decide +kernel
theorem dX12_nextToken_120 : decode cX12_nextToken 120 = .ok (.iaload, 1) := by decide +kernel
theorem dX12_nextToken_121 : decode cX12_nextToken 121 = .ok (.bipush 97, 2) := by decide +kernel
theorem dX12_nextToken_123 : decode cX12_nextToken 123 = .ok (.bipush 122, 2) := by decide +kernel
theorem dX12_nextToken_125 : decode cX12_nextToken 125 = .ok (.invokestatic 75, 3) := by decide +kernel
theorem dX12_nextToken_128 : decode cX12_nextToken 128 = .ok (.ifCond .eq 63, 3) := by decide +kernel
theorem dX12_nextToken_131 : decode cX12_nextToken 131 = .ok (.aload_n 0, 1) := by decide +kernel
theorem dX12_nextToken_132 : decode cX12_nextToken 132 = .ok (.aload_n 0, 1) := by decide +kernel
theorem dX12_nextToken_133 : decode cX12_nextToken 133 = .ok (.getfield 115, 3) := by decide +kernel
theorem dX12_nextToken_136 : decode cX12_nextToken 136 = .ok (.aload_n 0, 1) := by decide +kernel
theorem dX12_nextToken_137 : decode cX12_nextToken 137 = .ok (.getfield 118, 3) := by decide +kernel
theorem dX12_nextToken_140 : decode cX12_nextToken 140 = .ok (.isub, 1) := by decide +kernel
theorem dX12_nextToken_141 : decode cX12_nextToken 141 = .ok (.bipush 9, 2) := by decide +kernel
theorem dX12_nextToken_143 : decode cX12_nextToken 143 = .ok (.if_icmp .ge 29, 3) := by decide +kernel
theorem dX12_nextToken_146 : decode cX12_nextToken 146 = .ok (.ldc2_w 133, 3) := by decide +kernel
theorem dX12_nextToken_149 : decode cX12_nextToken 149 = .ok (.aload_n 0, 1) := by decide +kernel
theorem dX12_nextToken_150 : decode cX12_nextToken 150 = .ok (.getfield 129, 3) := by decide +kernel
theorem dX12_nextToken_153 : decode cX12_nextToken 153 = .ok (.lmul, 1) := by decide +kernel
theorem dX12_nextToken_154 : decode cX12_nextToken 154 = .ok (.aload_n 0, 1) := by decide +kernel
theorem dX12_nextToken_155 : decode cX12_nextToken 155 = .ok (.getfield 35, 3) := by decide +kernel
theorem dX12_nextToken_158 : decode cX12_nextToken 158 = .ok (.aload_n 0, 1) := by decide +kernel
theorem dX12_nextToken_159 : decode cX12_nextToken 159 = .ok (.getfield 115, 3) := by decide +kernel
theorem dX12_nextToken_162 : decode cX12_nextToken 162 = .ok (.iaload, 1) := by decide +kernel
theorem dX12_nextToken_163 : decode cX12_nextToken 163 = .ok (.i2l, 1) := by decide +kernel
theorem dX12_nextToken_164 : decode cX12_nextToken 164 = .ok (.ladd, 1) := by decide +kernel
theorem dX12_nextToken_165 : decode cX12_nextToken 165 = .ok (.ldc2_w 135, 3) := by decide +kernel
theorem dX12_nextToken_168 : decode cX12_nextToken 168 = .ok (.lsub, 1) := by decide +kernel
theorem dX12_nextToken_169 : decode cX12_nextToken 169 = .ok (.goto 6, 3) := by decide +kernel
theorem dX12_nextToken_172 : decode cX12_nextToken 172 = .ok (.ldc2_w 137, 3) := by decide +kernel
theorem dX12_nextToken_175 : decode cX12_nextToken 175 = .ok (.putfield 129, 3) := by decide +kernel
theorem dX12_nextToken_178 : decode cX12_nextToken 178 = .ok (.aload_n 0, 1) := by decide +kernel
theorem dX12_nextToken_179 : decode cX12_nextToken 179 = .ok (.dup, 1) := by decide +kernel
theorem dX12_nextToken_180 : decode cX12_nextToken 180 = .ok (.getfield 115, 3) := by decide +kernel
theorem dX12_nextToken_183 : decode cX12_nextToken 183 = .ok (.iconst 1, 1) := by decide +kernel
theorem dX12_nextToken_184 : decode cX12_nextToken 184 = .ok (.iadd, 1) := by decide +kernel
theorem dX12_nextToken_185 : decode cX12_nextToken 185 = .ok (.putfield 115, 3) := by decide +kernel
theorem dX12_nextToken_188 : decode cX12_nextToken 188 = .ok (.goto (-87), 3) := by decide +kernel
theorem dX12_nextToken_191 : decode cX12_nextToken 191 = .ok (.aload_n 0, 1) := by decide +kernel
theorem dX12_nextToken_192 : decode cX12_nextToken 192 = .ok (.aload_n 0, 1) := by decide +kernel
theorem dX12_nextToken_193 : decode cX12_nextToken 193 = .ok (.getfield 115, 3) := by decide +kernel
theorem dX12_nextToken_196 : decode cX12_nextToken 196 = .ok (.aload_n 0, 1) := by decide +kernel
theorem dX12_nextToken_197 : decode cX12_nextToken 197 = .ok (.getfield 118, 3) := by decide +kernel
theorem dX12_nextToken_200 : decode cX12_nextToken 200 = .ok (.isub, 1) := by decide +kernel
theorem dX12_nextToken_201 : decode cX12_nextToken 201 = .ok (.bipush 9, 2) := by decide +kernel
theorem dX12_nextToken_203 : decode cX12_nextToken 203 = .ok (.if_icmp .le 9, 3) := by decide +kernel
theorem dX12_nextToken_206 : decode cX12_nextToken 206 = .ok (.ldc2_w 137, 3) := by decide +kernel
theorem dX12_nextToken_209 : decode cX12_nextToken 209 = .ok (.goto 7, 3) := by decide +kernel
theorem dX12_nextToken_212 : decode cX12_nextToken 212 = .ok (.aload_n 0, 1) := by decide +kernel
theorem dX12_nextToken_213 : decode cX12_nextToken 213 = .ok (.getfield 129, 3) := by decide +kernel
theorem dX12_nextToken_216 : decode cX12_nextToken 216 = .ok (.putfield 129, 3) := by decide +kernel
theorem dX12_nextToken_219 : decode cX12_nextToken 219 = .ok (.goto 175, 3) := by decide +kernel
theorem dX12_nextToken_222 : decode cX12_nextToken 222 = .ok (.aload_n 0, 1) := by decide +kernel
theorem dX12_nextToken_223 : decode cX12_nextToken 223 = .ok (.getfield 35, 3) := by decide +kernel
theorem dX12_nextToken_226 : decode cX12_nextToken 226 = .ok (.aload_n 0, 1) := by decide +kernel
theorem dX12_nextToken_227 : decode cX12_nextToken 227 = .ok (.getfield 115, 3) := by decide +kernel
theorem dX12_nextToken_230 : decode cX12_nextToken 230 = .ok (.iaload, 1) := by decide +kernel
theorem dX12_nextToken_231 : decode cX12_nextToken 231 = .ok (.bipush 48, 2) := by decide +kernel
theorem dX12_nextToken_233 : decode cX12_nextToken 233 = .ok (.bipush 57, 2) := by decide +kernel
theorem dX12_nextToken_235 : decode cX12_nextToken 235 = .ok (.invokestatic 75, 3) := by decide +kernel
theorem dX12_nextToken_238 : decode cX12_nextToken 238 = .ok (.ifCond .eq 119, 3) := by decide +kernel
theorem dX12_nextToken_241 : decode cX12_nextToken 241 = .ok (.aload_n 0, 1) := by decide +kernel
theorem dX12_nextToken_242 : decode cX12_nextToken 242 = .ok (.getfield 115, 3) := by decide +kernel
theorem dX12_nextToken_245 : decode cX12_nextToken 245 = .ok (.aload_n 0, 1) := by decide +kernel
theorem dX12_nextToken_246 : decode cX12_nextToken 246 = .ok (.getfield 110, 3) := by decide +kernel
theorem dX12_nextToken_249 : decode cX12_nextToken 249 = .ok (.if_icmp .ge 84, 3) := by decide +kernel
theorem dX12_nextToken_252 : decode cX12_nextToken 252 = .ok (.aload_n 0, 1) := by decide +kernel
theorem dX12_nextToken_253 : decode cX12_nextToken 253 = .ok (.getfield 35, 3) := by decide +kernel
theorem dX12_nextToken_256 : decode cX12_nextToken 256 = .ok (.aload_n 0, 1) := by decide +kernel
theorem dX12_nextToken_257 : decode cX12_nextToken 257 = .ok (.getfield 115, 3) := by decide +kernel
theorem dX12_nextToken_260 : decode cX12_nextToken 260 = .ok (.iaload, 1) := by decide +kernel
theorem dX12_nextToken_261 : decode cX12_nextToken 261 = .ok (.bipush 48, 2) := by decide +kernel
theorem dX12_nextToken_263 : decode cX12_nextToken 263 = .ok (.bipush 57, 2) := by decide +kernel
theorem dX12_nextToken_265 : decode cX12_nextToken 265 = .ok (.invokestatic 75, 3) := by decide +kernel
theorem dX12_nextToken_268 : decode cX12_nextToken 268 = .ok (.ifCond .eq 65, 3) := by decide +kernel
theorem dX12_nextToken_271 : decode cX12_nextToken 271 = .ok (.aload_n 0, 1) := by decide +kernel
theorem dX12_nextToken_272 : decode cX12_nextToken 272 = .ok (.aload_n 0, 1) := by decide +kernel
theorem dX12_nextToken_273 : decode cX12_nextToken 273 = .ok (.getfield 121, 3) := by decide +kernel
theorem dX12_nextToken_276 : decode cX12_nextToken 276 = .ok (.iconst 2, 1) := by decide +kernel
theorem dX12_nextToken_277 : decode cX12_nextToken 277 = .ok (.if_icmp .ge 26, 3) := by decide +kernel
theorem dX12_nextToken_280 : decode cX12_nextToken 280 = .ok (.bipush 10, 2) := by decide +kernel
theorem dX12_nextToken_282 : decode cX12_nextToken 282 = .ok (.aload_n 0, 1) := by decide +kernel
theorem dX12_nextToken_283 : decode cX12_nextToken 283 = .ok (.getfield 124, 3) := by decide +kernel
theorem dX12_nextToken_286 : decode cX12_nextToken 286 = .ok (.imul, 1) := by decide +kernel
theorem dX12_nextToken_287 : decode cX12_nextToken 287 = .ok (.aload_n 0, 1) := by decide +kernel
theorem dX12_nextToken_288 : decode cX12_nextToken 288 = .ok (.getfield 35, 3) := by decide +kernel
theorem dX12_nextToken_291 : decode cX12_nextToken 291 = .ok (.aload_n 0, 1) := by decide +kernel
theorem dX12_nextToken_292 : decode cX12_nextToken 292 = .ok (.getfield 115, 3) := by decide +kernel
theorem dX12_nextToken_295 : decode cX12_nextToken 295 = .ok (.iaload, 1) := by decide +kernel
theorem dX12_nextToken_296 : decode cX12_nextToken 296 = .ok (.iadd, 1) := by decide +kernel
theorem dX12_nextToken_297 : decode cX12_nextToken 297 = .ok (.bipush 48, 2) := by decide +kernel
theorem dX12_nextToken_299 : decode cX12_nextToken 299 = .ok (.isub, 1) := by decide +kernel
theorem dX12_nextToken_300 : decode cX12_nextToken 300 = .ok (.goto 7, 3) := by decide +kernel
theorem dX12_nextToken_303 : decode cX12_nextToken 303 = .ok (.aload_n 0, 1) := by decide +kernel
theorem dX12_nextToken_304 : decode cX12_nextToken 304 = .ok (.getfield 124, 3) := by decide +kernel
theorem dX12_nextToken_307 : decode cX12_nextToken 307 = .ok (.putfield 124, 3) := by decide +kernel
theorem dX12_nextToken_310 : decode cX12_nextToken 310 = .ok (.aload_n 0, 1) := by decide +kernel
theorem dX12_nextToken_311 : decode cX12_nextToken 311 = .ok (.dup, 1) := by decide +kernel
theorem dX12_nextToken_312 : decode cX12_nextToken 312 = .ok (.getfield 121, 3) := by decide +kernel
theorem dX12_nextToken_315 : decode cX12_nextToken 315 = .ok (.iconst 1, 1) := by decide +kernel
theorem dX12_nextToken_316 : decode cX12_nextToken 316 = .ok (.iadd, 1) := by decide +kernel
theorem dX12_nextToken_317 : decode cX12_nextToken 317 = .ok (.putfield 121, 3) := by decide +kernel
theorem dX12_nextToken_320 : decode cX12_nextToken 320 = .ok (.aload_n 0, 1) := by decide +kernel
theorem dX12_nextToken_321 : decode cX12_nextToken 321 = .ok (.dup, 1) := by decide +kernel
theorem dX12_nextToken_322 : decode cX12_nextToken 322 = .ok (.getfield 115, 3) := by decide +kernel
theorem dX12_nextToken_325 : decode cX12_nextToken 325 = .ok (.iconst 1, 1) := by decide +kernel
theorem dX12_nextToken_326 : decode cX12_nextToken 326 = .ok (.iadd, 1) := by decide +kernel
theorem dX12_nextToken_327 : decode cX12_nextToken 327 = .ok (.putfield 115, 3) := by decide +kernel
theorem dX12_nextToken_330 : decode cX12_nextToken 330 = .ok (.goto (-89), 3) := by decide +kernel
theorem dX12_nextToken_333 : decode cX12_nextToken 333 = .ok (.aload_n 0, 1) := by decide +kernel
theorem dX12_nextToken_334 : decode cX12_nextToken 334 = .ok (.aload_n 0, 1) := by decide +kernel
theorem dX12_nextToken_335 : decode cX12_nextToken 335 = .ok (.getfield 121, 3) := by decide +kernel
theorem dX12_nextToken_338 : decode cX12_nextToken 338 = .ok (.iconst 2, 1) := by decide +kernel
theorem dX12_nextToken_339 : decode cX12_nextToken 339 = .ok (.if_icmp .le 9, 3) := by decide +kernel
theorem dX12_nextToken_342 : decode cX12_nextToken 342 = .ok (.ldc2_w 137, 3) := by decide +kernel
theorem dX12_nextToken_345 : decode cX12_nextToken 345 = .ok (.goto 6, 3) := by decide +kernel
theorem dX12_nextToken_348 : decode cX12_nextToken 348 = .ok (.ldc2_w 139, 3) := by decide +kernel
theorem dX12_nextToken_351 : decode cX12_nextToken 351 = .ok (.putfield 129, 3) := by decide +kernel
theorem dX12_nextToken_354 : decode cX12_nextToken 354 = .ok (.goto 40, 3) := by decide +kernel
theorem dX12_nextToken_357 : decode cX12_nextToken 357 = .ok (.aload_n 0, 1) := by decide +kernel
theorem dX12_nextToken_358 : decode cX12_nextToken 358 = .ok (.aload_n 0, 1) := by decide +kernel
theorem dX12_nextToken_359 : decode cX12_nextToken 359 = .ok (.getfield 35, 3) := by decide +kernel
theorem dX12_nextToken_362 : decode cX12_nextToken 362 = .ok (.aload_n 0, 1) := by decide +kernel
theorem dX12_nextToken_363 : decode cX12_nextToken 363 = .ok (.getfield 115, 3) := by decide +kernel
theorem dX12_nextToken_366 : decode cX12_nextToken 366 = .ok (.iaload, 1) := by decide +kernel
theorem dX12_nextToken_367 : decode cX12_nextToken 367 = .ok (.bipush 59, 2) := by decide +kernel
theorem dX12_nextToken_369 : decode cX12_nextToken 369 = .ok (.if_icmp .ne 9, 3) := by decide +kernel
theorem dX12_nextToken_372 : decode cX12_nextToken 372 = .ok (.ldc2_w 141, 3) := by decide +kernel
theorem dX12_nextToken_375 : decode cX12_nextToken 375 = .ok (.goto 6, 3) := by decide +kernel
theorem dX12_nextToken_378 : decode cX12_nextToken 378 = .ok (.ldc2_w 137, 3) := by decide +kernel
theorem dX12_nextToken_381 : decode cX12_nextToken 381 = .ok (.putfield 129, 3) := by decide +kernel
theorem dX12_nextToken_384 : decode cX12_nextToken 384 = .ok (.aload_n 0, 1) := by decide +kernel
theorem dX12_nextToken_385 : decode cX12_nextToken 385 = .ok (.dup, 1) := by decide +kernel
theorem dX12_nextToken_386 : decode cX12_nextToken 386 = .ok (.getfield 115, 3) := by decide +kernel
theorem dX12_nextToken_389 : decode cX12_nextToken 389 = .ok (.iconst 1, 1) := by decide +kernel
theorem dX12_nextToken_390 : decode cX12_nextToken 390 = .ok (.iadd, 1) := by decide +kernel
theorem dX12_nextToken_391 : decode cX12_nextToken 391 = .ok (.putfield 115, 3) := by decide +kernel
theorem dX12_nextToken_394 : decode cX12_nextToken 394 = .ok (.return_, 1) := by decide +kernel
theorem dX12_fails_0 : decode cX12_fails 0 = .ok (.aload_n 0, 1) := by decide +kernel
theorem dX12_fails_1 : decode cX12_fails 1 = .ok (.aload_n 0, 1) := by decide +kernel
theorem dX12_fails_2 : decode cX12_fails 2 = .ok (.getfield 118, 3) := by decide +kernel
theorem dX12_fails_5 : decode cX12_fails 5 = .ok (.putfield 143, 3) := by decide +kernel
theorem dX12_fails_8 : decode cX12_fails 8 = .ok (.iconst 0, 1) := by decide +kernel
theorem dX12_fails_9 : decode cX12_fails 9 = .ok (.ireturn, 1) := by decide +kernel
theorem dX12_isNumber_0 : decode cX12_isNumber 0 = .ok (.aload_n 0, 1) := by decide +kernel
theorem dX12_isNumber_1 : decode cX12_isNumber 1 = .ok (.invokevirtual 146, 3) := by decide +kernel
theorem dX12_isNumber_4 : decode cX12_isNumber 4 = .ok (.aload_n 0, 1) := by decide +kernel
theorem dX12_isNumber_5 : decode cX12_isNumber 5 = .ok (.getfield 129, 3) := by decide +kernel
theorem dX12_isNumber_8 : decode cX12_isNumber 8 = .ok (.ldc2_w 139, 3) := by decide +kernel
theorem dX12_isNumber_11 : decode cX12_isNumber 11 = .ok (.lcmp, 1) := by decide +kernel
theorem dX12_isNumber_12 : decode cX12_isNumber 12 = .ok (.ifCond .ne 11, 3) := by decide +kernel
theorem dX12_isNumber_15 : decode cX12_isNumber 15 = .ok (.aload_n 0, 1) := by decide +kernel
theorem dX12_isNumber_16 : decode cX12_isNumber 16 = .ok (.getfield 124, 3) := by decide +kernel
theorem dX12_isNumber_19 : decode cX12_isNumber 19 = .ok (.iload_n 2, 1) := by decide +kernel
theorem dX12_isNumber_20 : decode cX12_isNumber 20 = .ok (.if_icmp .le 8, 3) := by decide +kernel
theorem dX12_isNumber_23 : decode cX12_isNumber 23 = .ok (.aload_n 0, 1) := by decide +kernel
theorem dX12_isNumber_24 : decode cX12_isNumber 24 = .ok (.invokevirtual 149, 3) := by decide +kernel
theorem dX12_isNumber_27 : decode cX12_isNumber 27 = .ok (.ireturn, 1) := by decide +kernel
theorem dX12_isNumber_28 : decode cX12_isNumber 28 = .ok (.aload_n 0, 1) := by decide +kernel
theorem dX12_isNumber_29 : decode cX12_isNumber 29 = .ok (.getfield 38, 3) := by decide +kernel
theorem dX12_isNumber_32 : decode cX12_isNumber 32 = .ok (.iload_n 1, 1) := by decide +kernel
theorem dX12_isNumber_33 : decode cX12_isNumber 33 = .ok (.aload_n 0, 1) := by decide +kernel
theorem dX12_isNumber_34 : decode cX12_isNumber 34 = .ok (.getfield 124, 3) := by decide +kernel
theorem dX12_isNumber_37 : decode cX12_isNumber 37 = .ok (.iastore, 1) := by decide +kernel
theorem dX12_isNumber_38 : decode cX12_isNumber 38 = .ok (.iconst 1, 1) := by decide +kernel
theorem dX12_isNumber_39 : decode cX12_isNumber 39 = .ok (.ireturn, 1) := by decide +kernel
theorem dX12_isOf_0 : decode cX12_isOf 0 = .ok (.aload_n 0, 1) := by decide +kernel
theorem dX12_isOf_1 : decode cX12_isOf 1 = .ok (.invokevirtual 146, 3) := by decide +kernel
theorem dX12_isOf_4 : decode cX12_isOf 4 = .ok (.aload_n 0, 1) := by decide +kernel
theorem dX12_isOf_5 : decode cX12_isOf 5 = .ok (.getfield 38, 3) := by decide +kernel
theorem dX12_isOf_8 : decode cX12_isOf 8 = .ok (.iload_n 1, 1) := by decide +kernel
theorem dX12_isOf_9 : decode cX12_isOf 9 = .ok (.aload_n 0, 1) := by decide +kernel
theorem dX12_isOf_10 : decode cX12_isOf 10 = .ok (.getfield 129, 3) := by decide +kernel
theorem dX12_isOf_13 : decode cX12_isOf 13 = .ok (.lload_n 2, 1) := by decide +kernel
theorem dX12_isOf_14 : decode cX12_isOf 14 = .ok (.lcmp, 1) := by decide +kernel
theorem dX12_isOf_15 : decode cX12_isOf 15 = .ok (.ifCond .ne 7, 3) := by decide +kernel
theorem dX12_isOf_18 : decode cX12_isOf 18 = .ok (.iconst 0, 1) := by decide +kernel
theorem dX12_isOf_19 : decode cX12_isOf 19 = .ok (.goto 32, 3) := by decide +kernel
theorem dX12_isOf_22 : decode cX12_isOf 22 = .ok (.aload_n 0, 1) := by decide +kernel
theorem dX12_isOf_23 : decode cX12_isOf 23 = .ok (.getfield 129, 3) := by decide +kernel
theorem dX12_isOf_26 : decode cX12_isOf 26 = .ok (.lload 4, 2) := by decide +kernel
theorem dX12_isOf_28 : decode cX12_isOf 28 = .ok (.lcmp, 1) := by decide +kernel
theorem dX12_isOf_29 : decode cX12_isOf 29 = .ok (.ifCond .ne 7, 3) := by decide +kernel
theorem dX12_isOf_32 : decode cX12_isOf 32 = .ok (.iconst 1, 1) := by decide +kernel
theorem dX12_isOf_33 : decode cX12_isOf 33 = .ok (.goto 18, 3) := by decide +kernel
theorem dX12_isOf_36 : decode cX12_isOf 36 = .ok (.aload_n 0, 1) := by decide +kernel
theorem dX12_isOf_37 : decode cX12_isOf 37 = .ok (.getfield 129, 3) := by decide +kernel
theorem dX12_isOf_40 : decode cX12_isOf 40 = .ok (.lload 6, 2) := by decide +kernel
theorem dX12_isOf_42 : decode cX12_isOf 42 = .ok (.lcmp, 1) := by decide +kernel
theorem dX12_isOf_43 : decode cX12_isOf 43 = .ok (.ifCond .ne 7, 3) := by decide +kernel
theorem dX12_isOf_46 : decode cX12_isOf 46 = .ok (.iconst 2, 1) := by decide +kernel
theorem dX12_isOf_47 : decode cX12_isOf 47 = .ok (.goto 4, 3) := by decide +kernel
theorem dX12_isOf_50 : decode cX12_isOf 50 = .ok (.iconst (-1), 1) := by decide +kernel
theorem dX12_isOf_51 : decode cX12_isOf 51 = .ok (.iastore, 1) := by decide +kernel
theorem dX12_isOf_52 : decode cX12_isOf 52 = .ok (.aload_n 0, 1) := by decide +kernel
theorem dX12_isOf_53 : decode cX12_isOf 53 = .ok (.getfield 38, 3) := by decide +kernel
theorem dX12_isOf_56 : decode cX12_isOf 56 = .ok (.iload_n 1, 1) := by decide +kernel
theorem dX12_isOf_57 : decode cX12_isOf 57 = .ok (.iaload, 1) := by decide +kernel
theorem dX12_isOf_58 : decode cX12_isOf 58 = .ok (.iconst (-1), 1) := by decide +kernel
theorem dX12_isOf_59 : decode cX12_isOf 59 = .ok (.if_icmp .ne 10, 3) := by decide +kernel
theorem dX12_isOf_62 : decode cX12_isOf 62 = .ok (.aload_n 0, 1) := by decide +kernel
theorem dX12_isOf_63 : decode cX12_isOf 63 = .ok (.invokevirtual 149, 3) := by decide +kernel
theorem dX12_isOf_66 : decode cX12_isOf 66 = .ok (.ifCond .eq 7, 3) := by decide +kernel
theorem dX12_isOf_69 : decode cX12_isOf 69 = .ok (.iconst 1, 1) := by decide +kernel
theorem dX12_isOf_70 : decode cX12_isOf 70 = .ok (.goto 4, 3) := by decide +kernel
theorem dX12_isOf_73 : decode cX12_isOf 73 = .ok (.iconst 0, 1) := by decide +kernel
theorem dX12_isOf_74 : decode cX12_isOf 74 = .ok (.ireturn, 1) := by decide +kernel
theorem dX12_isWay_0 : decode cX12_isWay 0 = .ok (.aload_n 0, 1) := by decide +kernel
theorem dX12_isWay_1 : decode cX12_isWay 1 = .ok (.invokevirtual 146, 3) := by decide +kernel
theorem dX12_isWay_4 : decode cX12_isWay 4 = .ok (.aload_n 0, 1) := by decide +kernel
theorem dX12_isWay_5 : decode cX12_isWay 5 = .ok (.getfield 129, 3) := by decide +kernel
theorem dX12_isWay_8 : decode cX12_isWay 8 = .ok (.ldc2_w 139, 3) := by decide +kernel
theorem dX12_isWay_11 : decode cX12_isWay 11 = .ok (.lcmp, 1) := by decide +kernel
theorem dX12_isWay_12 : decode cX12_isWay 12 = .ok (.ifCond .ne 11, 3) := by decide +kernel
theorem dX12_isWay_15 : decode cX12_isWay 15 = .ok (.aload_n 0, 1) := by decide +kernel
theorem dX12_isWay_16 : decode cX12_isWay 16 = .ok (.getfield 124, 3) := by decide +kernel
theorem dX12_isWay_19 : decode cX12_isWay 19 = .ok (.iconst 3, 1) := by decide +kernel
theorem dX12_isWay_20 : decode cX12_isWay 20 = .ok (.if_icmp .le 8, 3) := by decide +kernel
theorem dX12_isWay_23 : decode cX12_isWay 23 = .ok (.aload_n 0, 1) := by decide +kernel
theorem dX12_isWay_24 : decode cX12_isWay 24 = .ok (.invokevirtual 149, 3) := by decide +kernel
theorem dX12_isWay_27 : decode cX12_isWay 27 = .ok (.ireturn, 1) := by decide +kernel
theorem dX12_isWay_28 : decode cX12_isWay 28 = .ok (.iconst 4, 1) := by decide +kernel
theorem dX12_isWay_29 : decode cX12_isWay 29 = .ok (.iconst 3, 1) := by decide +kernel
theorem dX12_isWay_30 : decode cX12_isWay 30 = .ok (.aload_n 0, 1) := by decide +kernel
theorem dX12_isWay_31 : decode cX12_isWay 31 = .ok (.getfield 124, 3) := by decide +kernel
theorem dX12_isWay_34 : decode cX12_isWay 34 = .ok (.imul, 1) := by decide +kernel
theorem dX12_isWay_35 : decode cX12_isWay 35 = .ok (.iadd, 1) := by decide +kernel
theorem dX12_isWay_36 : decode cX12_isWay 36 = .ok (.istore_n 1, 1) := by decide +kernel
theorem dX12_isWay_37 : decode cX12_isWay 37 = .ok (.aload_n 0, 1) := by decide +kernel
theorem dX12_isWay_38 : decode cX12_isWay 38 = .ok (.iload_n 1, 1) := by decide +kernel
theorem dX12_isWay_39 : decode cX12_isWay 39 = .ok (.ldc2_w 153, 3) := by decide +kernel
theorem dX12_isWay_42 : decode cX12_isWay 42 = .ok (.ldc2_w 155, 3) := by decide +kernel
theorem dX12_isWay_45 : decode cX12_isWay 45 = .ok (.ldc2_w 157, 3) := by decide +kernel
theorem dX12_isWay_48 : decode cX12_isWay 48 = .ok (.invokevirtual 159, 3) := by decide +kernel
theorem dX12_isWay_51 : decode cX12_isWay 51 = .ok (.ifCond .ne 5, 3) := by decide +kernel
theorem dX12_isWay_54 : decode cX12_isWay 54 = .ok (.iconst 0, 1) := by decide +kernel
theorem dX12_isWay_55 : decode cX12_isWay 55 = .ok (.ireturn, 1) := by decide +kernel
theorem dX12_isWay_56 : decode cX12_isWay 56 = .ok (.aload_n 0, 1) := by decide +kernel
theorem dX12_isWay_57 : decode cX12_isWay 57 = .ok (.getfield 38, 3) := by decide +kernel
theorem dX12_isWay_60 : decode cX12_isWay 60 = .ok (.iload_n 1, 1) := by decide +kernel
theorem dX12_isWay_61 : decode cX12_isWay 61 = .ok (.iconst 1, 1) := by decide +kernel
theorem dX12_isWay_62 : decode cX12_isWay 62 = .ok (.iadd, 1) := by decide +kernel
theorem dX12_isWay_63 : decode cX12_isWay 63 = .ok (.iconst 0, 1) := by decide +kernel
theorem dX12_isWay_64 : decode cX12_isWay 64 = .ok (.iastore, 1) := by decide +kernel
theorem dX12_isWay_65 : decode cX12_isWay 65 = .ok (.aload_n 0, 1) := by decide +kernel
theorem dX12_isWay_66 : decode cX12_isWay 66 = .ok (.getfield 38, 3) := by decide +kernel
theorem dX12_isWay_69 : decode cX12_isWay 69 = .ok (.iload_n 1, 1) := by decide +kernel
theorem dX12_isWay_70 : decode cX12_isWay 70 = .ok (.iconst 2, 1) := by decide +kernel
theorem dX12_isWay_71 : decode cX12_isWay 71 = .ok (.iadd, 1) := by decide +kernel
theorem dX12_isWay_72 : decode cX12_isWay 72 = .ok (.iconst 0, 1) := by decide +kernel
theorem dX12_isWay_73 : decode cX12_isWay 73 = .ok (.iastore, 1) := by decide +kernel
theorem dX12_isWay_74 : decode cX12_isWay 74 = .ok (.aload_n 0, 1) := by decide +kernel
theorem dX12_isWay_75 : decode cX12_isWay 75 = .ok (.getfield 38, 3) := by decide +kernel
theorem dX12_isWay_78 : decode cX12_isWay 78 = .ok (.iload_n 1, 1) := by decide +kernel
theorem dX12_isWay_79 : decode cX12_isWay 79 = .ok (.iaload, 1) := by decide +kernel
theorem dX12_isWay_80 : decode cX12_isWay 80 = .ok (.ifCond .eq 37, 3) := by decide +kernel
theorem dX12_isWay_83 : decode cX12_isWay 83 = .ok (.aload_n 0, 1) := by decide +kernel
theorem dX12_isWay_84 : decode cX12_isWay 84 = .ok (.iload_n 1, 1) := by decide +kernel
theorem dX12_isWay_85 : decode cX12_isWay 85 = .ok (.iconst 1, 1) := by decide +kernel
theorem dX12_isWay_86 : decode cX12_isWay 86 = .ok (.iadd, 1) := by decide +kernel
theorem dX12_isWay_87 : decode cX12_isWay 87 = .ok (.bipush 99, 2) := by decide +kernel
theorem dX12_isWay_89 : decode cX12_isWay 89 = .ok (.invokevirtual 163, 3) := by decide +kernel
theorem dX12_isWay_92 : decode cX12_isWay 92 = .ok (.ifCond .eq 29, 3) := by decide +kernel
theorem dX12_isWay_95 : decode cX12_isWay 95 = .ok (.aload_n 0, 1) := by decide +kernel
theorem dX12_isWay_96 : decode cX12_isWay 96 = .ok (.getfield 38, 3) := by decide +kernel
theorem dX12_isWay_99 : decode cX12_isWay 99 = .ok (.iload_n 1, 1) := by decide +kernel
theorem dX12_isWay_100 : decode cX12_isWay 100 = .ok (.iaload, 1) := by decide +kernel
theorem dX12_isWay_101 : decode cX12_isWay 101 = .ok (.iconst 1, 1) := by decide +kernel
theorem dX12_isWay_102 : decode cX12_isWay 102 = .ok (.if_icmp .eq 15, 3) := by decide +kernel
theorem dX12_isWay_105 : decode cX12_isWay 105 = .ok (.aload_n 0, 1) := by decide +kernel
theorem dX12_isWay_106 : decode cX12_isWay 106 = .ok (.iload_n 1, 1) := by decide +kernel
theorem dX12_isWay_107 : decode cX12_isWay 107 = .ok (.iconst 2, 1) := by decide +kernel
theorem dX12_isWay_108 : decode cX12_isWay 108 = .ok (.iadd, 1) := by decide +kernel
theorem dX12_isWay_109 : decode cX12_isWay 109 = .ok (.bipush 9, 2) := by decide +kernel
theorem dX12_isWay_111 : decode cX12_isWay 111 = .ok (.invokevirtual 163, 3) := by decide +kernel
theorem dX12_isWay_114 : decode cX12_isWay 114 = .ok (.ifCond .eq 7, 3) := by decide +kernel
theorem dX12_isWay_117 : decode cX12_isWay 117 = .ok (.iconst 1, 1) := by decide +kernel
theorem dX12_isWay_118 : decode cX12_isWay 118 = .ok (.goto 4, 3) := by decide +kernel
theorem dX12_isWay_121 : decode cX12_isWay 121 = .ok (.iconst 0, 1) := by decide +kernel
theorem dX12_isWay_122 : decode cX12_isWay 122 = .ok (.ireturn, 1) := by decide +kernel
theorem dX12_isLine_0 : decode cX12_isLine 0 = .ok (.aload_n 0, 1) := by decide +kernel
theorem dX12_isLine_1 : decode cX12_isLine 1 = .ok (.invokevirtual 146, 3) := by decide +kernel
theorem dX12_isLine_4 : decode cX12_isLine 4 = .ok (.aload_n 0, 1) := by decide +kernel
theorem dX12_isLine_5 : decode cX12_isLine 5 = .ok (.getfield 129, 3) := by decide +kernel
theorem dX12_isLine_8 : decode cX12_isLine 8 = .ok (.ldc2_w 166, 3) := by decide +kernel
theorem dX12_isLine_11 : decode cX12_isLine 11 = .ok (.lcmp, 1) := by decide +kernel
theorem dX12_isLine_12 : decode cX12_isLine 12 = .ok (.ifCond .ne 18, 3) := by decide +kernel
theorem dX12_isLine_15 : decode cX12_isLine 15 = .ok (.aload_n 0, 1) := by decide +kernel
theorem dX12_isLine_16 : decode cX12_isLine 16 = .ok (.iconst 0, 1) := by decide +kernel
theorem dX12_isLine_17 : decode cX12_isLine 17 = .ok (.ldc2_w 168, 3) := by decide +kernel
theorem dX12_isLine_20 : decode cX12_isLine 20 = .ok (.ldc2_w 170, 3) := by decide +kernel
theorem dX12_isLine_23 : decode cX12_isLine 23 = .ok (.ldc2_w 172, 3) := by decide +kernel
theorem dX12_isLine_26 : decode cX12_isLine 26 = .ok (.invokevirtual 159, 3) := by decide +kernel
theorem dX12_isLine_29 : decode cX12_isLine 29 = .ok (.ireturn, 1) := by decide +kernel
theorem dX12_isLine_30 : decode cX12_isLine 30 = .ok (.aload_n 0, 1) := by decide +kernel
theorem dX12_isLine_31 : decode cX12_isLine 31 = .ok (.getfield 129, 3) := by decide +kernel
theorem dX12_isLine_34 : decode cX12_isLine 34 = .ok (.ldc2_w 174, 3) := by decide +kernel
theorem dX12_isLine_37 : decode cX12_isLine 37 = .ok (.lcmp, 1) := by decide +kernel
theorem dX12_isLine_38 : decode cX12_isLine 38 = .ok (.ifCond .ne 11, 3) := by decide +kernel
theorem dX12_isLine_41 : decode cX12_isLine 41 = .ok (.aload_n 0, 1) := by decide +kernel
theorem dX12_isLine_42 : decode cX12_isLine 42 = .ok (.iconst 1, 1) := by decide +kernel
theorem dX12_isLine_43 : decode cX12_isLine 43 = .ok (.bipush 9, 2) := by decide +kernel
theorem dX12_isLine_45 : decode cX12_isLine 45 = .ok (.invokevirtual 163, 3) := by decide +kernel
theorem dX12_isLine_48 : decode cX12_isLine 48 = .ok (.ireturn, 1) := by decide +kernel
theorem dX12_isLine_49 : decode cX12_isLine 49 = .ok (.aload_n 0, 1) := by decide +kernel
theorem dX12_isLine_50 : decode cX12_isLine 50 = .ok (.getfield 129, 3) := by decide +kernel
theorem dX12_isLine_53 : decode cX12_isLine 53 = .ok (.ldc2_w 176, 3) := by decide +kernel
theorem dX12_isLine_56 : decode cX12_isLine 56 = .ok (.lcmp, 1) := by decide +kernel
theorem dX12_isLine_57 : decode cX12_isLine 57 = .ok (.ifCond .ne 18, 3) := by decide +kernel
theorem dX12_isLine_60 : decode cX12_isLine 60 = .ok (.aload_n 0, 1) := by decide +kernel
theorem dX12_isLine_61 : decode cX12_isLine 61 = .ok (.iconst 2, 1) := by decide +kernel
theorem dX12_isLine_62 : decode cX12_isLine 62 = .ok (.ldc2_w 178, 3) := by decide +kernel
theorem dX12_isLine_65 : decode cX12_isLine 65 = .ok (.ldc2_w 180, 3) := by decide +kernel
theorem dX12_isLine_68 : decode cX12_isLine 68 = .ok (.ldc2_w 182, 3) := by decide +kernel
theorem dX12_isLine_71 : decode cX12_isLine 71 = .ok (.invokevirtual 159, 3) := by decide +kernel
theorem dX12_isLine_74 : decode cX12_isLine 74 = .ok (.ireturn, 1) := by decide +kernel
theorem dX12_isLine_75 : decode cX12_isLine 75 = .ok (.aload_n 0, 1) := by decide +kernel
theorem dX12_isLine_76 : decode cX12_isLine 76 = .ok (.getfield 129, 3) := by decide +kernel
theorem dX12_isLine_79 : decode cX12_isLine 79 = .ok (.ldc2_w 184, 3) := by decide +kernel
theorem dX12_isLine_82 : decode cX12_isLine 82 = .ok (.lcmp, 1) := by decide +kernel
theorem dX12_isLine_83 : decode cX12_isLine 83 = .ok (.ifCond .ne 11, 3) := by decide +kernel
theorem dX12_isLine_86 : decode cX12_isLine 86 = .ok (.aload_n 0, 1) := by decide +kernel
theorem dX12_isLine_87 : decode cX12_isLine 87 = .ok (.iconst 3, 1) := by decide +kernel
theorem dX12_isLine_88 : decode cX12_isLine 88 = .ok (.bipush 9, 2) := by decide +kernel
theorem dX12_isLine_90 : decode cX12_isLine 90 = .ok (.invokevirtual 163, 3) := by decide +kernel
theorem dX12_isLine_93 : decode cX12_isLine 93 = .ok (.ireturn, 1) := by decide +kernel
theorem dX12_isLine_94 : decode cX12_isLine 94 = .ok (.aload_n 0, 1) := by decide +kernel
theorem dX12_isLine_95 : decode cX12_isLine 95 = .ok (.getfield 129, 3) := by decide +kernel
theorem dX12_isLine_98 : decode cX12_isLine 98 = .ok (.ldc2_w 186, 3) := by decide +kernel
theorem dX12_isLine_101 : decode cX12_isLine 101 = .ok (.lcmp, 1) := by decide +kernel
theorem dX12_isLine_102 : decode cX12_isLine 102 = .ok (.ifCond .ne 10, 3) := by decide +kernel
theorem dX12_isLine_105 : decode cX12_isLine 105 = .ok (.aload_n 0, 1) := by decide +kernel
theorem dX12_isLine_106 : decode cX12_isLine 106 = .ok (.invokevirtual 188, 3) := by decide +kernel
theorem dX12_isLine_109 : decode cX12_isLine 109 = .ok (.goto 7, 3) := by decide +kernel
theorem dX12_isLine_112 : decode cX12_isLine 112 = .ok (.aload_n 0, 1) := by decide +kernel
theorem dX12_isLine_113 : decode cX12_isLine 113 = .ok (.invokevirtual 149, 3) := by decide +kernel
theorem dX12_isLine_116 : decode cX12_isLine 116 = .ok (.ireturn, 1) := by decide +kernel
theorem dX12_isRead_0 : decode cX12_isRead 0 = .ok (.aload_n 0, 1) := by decide +kernel
theorem dX12_isRead_1 : decode cX12_isRead 1 = .ok (.iconst 0, 1) := by decide +kernel
theorem dX12_isRead_2 : decode cX12_isRead 2 = .ok (.putfield 115, 3) := by decide +kernel
theorem dX12_isRead_5 : decode cX12_isRead 5 = .ok (.aload_n 0, 1) := by decide +kernel
theorem dX12_isRead_6 : decode cX12_isRead 6 = .ok (.iconst 0, 1) := by decide +kernel
theorem dX12_isRead_7 : decode cX12_isRead 7 = .ok (.putfield 191, 3) := by decide +kernel
theorem dX12_isRead_10 : decode cX12_isRead 10 = .ok (.aload_n 0, 1) := by decide +kernel
theorem dX12_isRead_11 : decode cX12_isRead 11 = .ok (.getfield 38, 3) := by decide +kernel
theorem dX12_isRead_14 : decode cX12_isRead 14 = .ok (.invokestatic 71, 3) := by decide +kernel
theorem dX12_isRead_17 : decode cX12_isRead 17 = .ok (.iconst 1, 1) := by decide +kernel
theorem dX12_isRead_18 : decode cX12_isRead 18 = .ok (.istore_n 1, 1) := by decide +kernel
theorem dX12_isRead_19 : decode cX12_isRead 19 = .ok (.iload_n 1, 1) := by decide +kernel
theorem dX12_isRead_20 : decode cX12_isRead 20 = .ok (.ifCond .eq 55, 3) := by decide +kernel
theorem dX12_isRead_23 : decode cX12_isRead 23 = .ok (.aload_n 0, 1) := by decide +kernel
theorem dX12_isRead_24 : decode cX12_isRead 24 = .ok (.invokevirtual 194, 3) := by decide +kernel
theorem dX12_isRead_27 : decode cX12_isRead 27 = .ok (.ifCond .ne 5, 3) := by decide +kernel
theorem dX12_isRead_30 : decode cX12_isRead 30 = .ok (.iconst 0, 1) := by decide +kernel
theorem dX12_isRead_31 : decode cX12_isRead 31 = .ok (.ireturn, 1) := by decide +kernel
theorem dX12_isRead_32 : decode cX12_isRead 32 = .ok (.aload_n 0, 1) := by decide +kernel
theorem dX12_isRead_33 : decode cX12_isRead 33 = .ok (.dup, 1) := by decide +kernel
theorem dX12_isRead_34 : decode cX12_isRead 34 = .ok (.getfield 191, 3) := by decide +kernel
theorem dX12_isRead_37 : decode cX12_isRead 37 = .ok (.iconst 1, 1) := by decide +kernel
theorem dX12_isRead_38 : decode cX12_isRead 38 = .ok (.iadd, 1) := by decide +kernel
theorem dX12_isRead_39 : decode cX12_isRead 39 = .ok (.putfield 191, 3) := by decide +kernel
theorem dX12_isRead_42 : decode cX12_isRead 42 = .ok (.aload_n 0, 1) := by decide +kernel
theorem dX12_isRead_43 : decode cX12_isRead 43 = .ok (.invokevirtual 146, 3) := by decide +kernel
theorem dX12_isRead_46 : decode cX12_isRead 46 = .ok (.aload_n 0, 1) := by decide +kernel
theorem dX12_isRead_47 : decode cX12_isRead 47 = .ok (.getfield 129, 3) := by decide +kernel
theorem dX12_isRead_50 : decode cX12_isRead 50 = .ok (.ldc2_w 141, 3) := by decide +kernel
theorem dX12_isRead_53 : decode cX12_isRead 53 = .ok (.lcmp, 1) := by decide +kernel
theorem dX12_isRead_54 : decode cX12_isRead 54 = .ok (.ifCond .ne 16, 3) := by decide +kernel
theorem dX12_isRead_57 : decode cX12_isRead 57 = .ok (.aload_n 0, 1) := by decide +kernel
theorem dX12_isRead_58 : decode cX12_isRead 58 = .ok (.getfield 191, 3) := by decide +kernel
theorem dX12_isRead_61 : decode cX12_isRead 61 = .ok (.bipush 12, 2) := by decide +kernel
theorem dX12_isRead_63 : decode cX12_isRead 63 = .ok (.if_icmp .ge 7, 3) := by decide +kernel
theorem dX12_isRead_66 : decode cX12_isRead 66 = .ok (.iconst 1, 1) := by decide +kernel
theorem dX12_isRead_67 : decode cX12_isRead 67 = .ok (.goto 4, 3) := by decide +kernel
theorem dX12_isRead_70 : decode cX12_isRead 70 = .ok (.iconst 0, 1) := by decide +kernel
theorem dX12_isRead_71 : decode cX12_isRead 71 = .ok (.istore_n 1, 1) := by decide +kernel
theorem dX12_isRead_72 : decode cX12_isRead 72 = .ok (.goto (-53), 3) := by decide +kernel
theorem dX12_isRead_75 : decode cX12_isRead 75 = .ok (.aload_n 0, 1) := by decide +kernel
theorem dX12_isRead_76 : decode cX12_isRead 76 = .ok (.getfield 129, 3) := by decide +kernel
theorem dX12_isRead_79 : decode cX12_isRead 79 = .ok (.ldc2_w 127, 3) := by decide +kernel
theorem dX12_isRead_82 : decode cX12_isRead 82 = .ok (.lcmp, 1) := by decide +kernel
theorem dX12_isRead_83 : decode cX12_isRead 83 = .ok (.ifCond .eq 10, 3) := by decide +kernel
theorem dX12_isRead_86 : decode cX12_isRead 86 = .ok (.aload_n 0, 1) := by decide +kernel
theorem dX12_isRead_87 : decode cX12_isRead 87 = .ok (.invokevirtual 149, 3) := by decide +kernel
theorem dX12_isRead_90 : decode cX12_isRead 90 = .ok (.ifCond .eq 7, 3) := by decide +kernel
theorem dX12_isRead_93 : decode cX12_isRead 93 = .ok (.iconst 1, 1) := by decide +kernel
theorem dX12_isRead_94 : decode cX12_isRead 94 = .ok (.goto 4, 3) := by decide +kernel
theorem dX12_isRead_97 : decode cX12_isRead 97 = .ok (.iconst 0, 1) := by decide +kernel
theorem dX12_isRead_98 : decode cX12_isRead 98 = .ok (.ireturn, 1) := by decide +kernel
theorem dX12_fault_0 : decode cX12_fault 0 = .ok (.aload_n 0, 1) := by decide +kernel
theorem dX12_fault_1 : decode cX12_fault 1 = .ok (.invokevirtual 197, 3) := by decide +kernel
theorem dX12_fault_4 : decode cX12_fault 4 = .ok (.ifCond .eq 7, 3) := by decide +kernel
theorem dX12_fault_7 : decode cX12_fault 7 = .ok (.iconst (-1), 1) := by decide +kernel
theorem dX12_fault_8 : decode cX12_fault 8 = .ok (.goto 7, 3) := by decide +kernel
theorem dX12_fault_11 : decode cX12_fault 11 = .ok (.aload_n 0, 1) := by decide +kernel
theorem dX12_fault_12 : decode cX12_fault 12 = .ok (.getfield 143, 3) := by decide +kernel
theorem dX12_fault_15 : decode cX12_fault 15 = .ok (.ireturn, 1) := by decide +kernel
theorem dX12_rules_0 : decode cX12_rules 0 = .ok (.aload_n 0, 1) := by decide +kernel
theorem dX12_rules_1 : decode cX12_rules 1 = .ok (.invokevirtual 197, 3) := by decide +kernel
theorem dX12_rules_4 : decode cX12_rules 4 = .ok (.ifCond .ne 6, 3) := by decide +kernel
theorem dX12_rules_7 : decode cX12_rules 7 = .ok (.bipush (-4), 2) := by decide +kernel
theorem dX12_rules_9 : decode cX12_rules 9 = .ok (.ireturn, 1) := by decide +kernel
theorem dX12_rules_10 : decode cX12_rules 10 = .ok (.iconst 0, 1) := by decide +kernel
theorem dX12_rules_11 : decode cX12_rules 11 = .ok (.istore_n 1, 1) := by decide +kernel
theorem dX12_rules_12 : decode cX12_rules 12 = .ok (.iload_n 1, 1) := by decide +kernel
theorem dX12_rules_13 : decode cX12_rules 13 = .ok (.bipush 16, 2) := by decide +kernel
theorem dX12_rules_15 : decode cX12_rules 15 = .ok (.if_icmp .ge 21, 3) := by decide +kernel
theorem dX12_rules_18 : decode cX12_rules 18 = .ok (.aload_n 0, 1) := by decide +kernel
theorem dX12_rules_19 : decode cX12_rules 19 = .ok (.getfield 41, 3) := by decide +kernel
theorem dX12_rules_22 : decode cX12_rules 22 = .ok (.iload_n 1, 1) := by decide +kernel
theorem dX12_rules_23 : decode cX12_rules 23 = .ok (.aload_n 0, 1) := by decide +kernel
theorem dX12_rules_24 : decode cX12_rules 24 = .ok (.getfield 38, 3) := by decide +kernel
theorem dX12_rules_27 : decode cX12_rules 27 = .ok (.iload_n 1, 1) := by decide +kernel
theorem dX12_rules_28 : decode cX12_rules 28 = .ok (.iaload, 1) := by decide +kernel
theorem dX12_rules_29 : decode cX12_rules 29 = .ok (.iastore, 1) := by decide +kernel
theorem dX12_rules_30 : decode cX12_rules 30 = .ok (.iinc 1 1, 3) := by decide +kernel
theorem dX12_rules_33 : decode cX12_rules 33 = .ok (.goto (-21), 3) := by decide +kernel
theorem dX12_rules_36 : decode cX12_rules 36 = .ok (.aload_n 0, 1) := by decide +kernel
theorem dX12_rules_37 : decode cX12_rules 37 = .ok (.iconst 0, 1) := by decide +kernel
theorem dX12_rules_38 : decode cX12_rules 38 = .ok (.putfield 110, 3) := by decide +kernel
theorem dX12_rules_41 : decode cX12_rules 41 = .ok (.aload_n 0, 1) := by decide +kernel
theorem dX12_rules_42 : decode cX12_rules 42 = .ok (.getfield 191, 3) := by decide +kernel
theorem dX12_rules_45 : decode cX12_rules 45 = .ok (.ireturn, 1) := by decide +kernel
