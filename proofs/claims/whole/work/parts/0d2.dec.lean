theorem dX11_person_0 : decode cX11_person 0 = .ok (.iload_n 1, 1) := by decide +kernel
theorem dX11_person_1 : decode cX11_person 1 = .ok (.iconst 0, 1) := by decide +kernel
theorem dX11_person_2 : decode cX11_person 2 = .ok (.aload_n 0, 1) := by decide +kernel
theorem dX11_person_3 : decode cX11_person 3 = .ok (.getfield 38, 3) := by decide +kernel
theorem dX11_person_6 : decode cX11_person 6 = .ok (.getfield 125, 3) := by decide +kernel
theorem dX11_person_9 : decode cX11_person 9 = .ok (.iconst 1, 1) := by decide +kernel
theorem dX11_person_10 : decode cX11_person 10 = .ok (.isub, 1) := by decide +kernel
theorem dX11_person_11 : decode cX11_person 11 = .ok (.invokestatic 89, 3) := by decide +kernel
theorem dX11_person_14 : decode cX11_person 14 = .ok (.ifCond .ne 6, 3) := by decide +kernel
theorem dX11_person_17 : decode cX11_person 17 = .ok (.bipush (-2), 2) := by decide +kernel
theorem dX11_person_19 : decode cX11_person 19 = .ok (.ireturn, 1) := by decide +kernel
theorem dX11_person_20 : decode cX11_person 20 = .ok (.aload_n 0, 1) := by decide +kernel
theorem dX11_person_21 : decode cX11_person 21 = .ok (.getfield 38, 3) := by decide +kernel
theorem dX11_person_24 : decode cX11_person 24 = .ok (.aload_n 0, 1) := by decide +kernel
theorem dX11_person_25 : decode cX11_person 25 = .ok (.getfield 19, 3) := by decide +kernel
theorem dX11_person_28 : decode cX11_person 28 = .ok (.getfield 136, 3) := by decide +kernel
theorem dX11_person_31 : decode cX11_person 31 = .ok (.invokevirtual 139, 3) := by decide +kernel
theorem dX11_person_34 : decode cX11_person 34 = .ok (.aload_n 0, 1) := by decide +kernel
theorem dX11_person_35 : decode cX11_person 35 = .ok (.getfield 38, 3) := by decide +kernel
theorem dX11_person_38 : decode cX11_person 38 = .ok (.getfield 142, 3) := by decide +kernel
theorem dX11_person_41 : decode cX11_person 41 = .ok (.iload_n 1, 1) := by decide +kernel
theorem dX11_person_42 : decode cX11_person 42 = .ok (.aaload, 1) := by decide +kernel
theorem dX11_person_43 : decode cX11_person 43 = .ok (.astore_n 3, 1) := by decide +kernel
theorem dX11_person_44 : decode cX11_person 44 = .ok (.iload_n 2, 1) := by decide +kernel
theorem dX11_person_45 : decode cX11_person 45 = .ok (.tableswitch 60 0 4 #[35, 40, 45, 50, 55], 35) := by decide +kernel
theorem dX11_person_80 : decode cX11_person 80 = .ok (.aload_n 3, 1) := by decide +kernel
theorem dX11_person_81 : decode cX11_person 81 = .ok (.getfield 146, 3) := by decide +kernel
theorem dX11_person_84 : decode cX11_person 84 = .ok (.ireturn, 1) := by decide +kernel
theorem dX11_person_85 : decode cX11_person 85 = .ok (.aload_n 3, 1) := by decide +kernel
theorem dX11_person_86 : decode cX11_person 86 = .ok (.getfield 151, 3) := by decide +kernel
theorem dX11_person_89 : decode cX11_person 89 = .ok (.ireturn, 1) := by decide +kernel
theorem dX11_person_90 : decode cX11_person 90 = .ok (.aload_n 3, 1) := by decide +kernel
theorem dX11_person_91 : decode cX11_person 91 = .ok (.getfield 154, 3) := by decide +kernel
theorem dX11_person_94 : decode cX11_person 94 = .ok (.ireturn, 1) := by decide +kernel
theorem dX11_person_95 : decode cX11_person 95 = .ok (.aload_n 3, 1) := by decide +kernel
theorem dX11_person_96 : decode cX11_person 96 = .ok (.getfield 157, 3) := by decide +kernel
theorem dX11_person_99 : decode cX11_person 99 = .ok (.ireturn, 1) := by decide +kernel
theorem dX11_person_100 : decode cX11_person 100 = .ok (.aload_n 3, 1) := by decide +kernel
theorem dX11_person_101 : decode cX11_person 101 = .ok (.getfield 160, 3) := by decide +kernel
theorem dX11_person_104 : decode cX11_person 104 = .ok (.ireturn, 1) := by decide +kernel
theorem dX11_person_105 : decode cX11_person 105 = .ok (.bipush (-3), 2) := by decide +kernel
theorem dX11_person_107 : decode cX11_person 107 = .ok (.ireturn, 1) := by decide +kernel
theorem dX11_of_0 : decode cX11_of 0 = .ok (.iload_n 1, 1) := by decide +kernel
theorem dX11_of_1 : decode cX11_of 1 = .ok (.invokestatic 82, 3) := by decide +kernel
theorem dX11_of_4 : decode cX11_of 4 = .ok (.ifCond .ne 6, 3) := by decide +kernel
theorem dX11_of_7 : decode cX11_of 7 = .ok (.bipush (-2), 2) := by decide +kernel
theorem dX11_of_9 : decode cX11_of 9 = .ok (.ireturn, 1) := by decide +kernel
theorem dX11_of_10 : decode cX11_of 10 = .ok (.iload_n 2, 1) := by decide +kernel
theorem dX11_of_11 : decode cX11_of 11 = .ok (.iconst 0, 1) := by decide +kernel
theorem dX11_of_12 : decode cX11_of 12 = .ok (.iconst 5, 1) := by decide +kernel
theorem dX11_of_13 : decode cX11_of 13 = .ok (.invokestatic 89, 3) := by decide +kernel
theorem dX11_of_16 : decode cX11_of 16 = .ok (.ifCond .ne 6, 3) := by decide +kernel
theorem dX11_of_19 : decode cX11_of 19 = .ok (.bipush (-3), 2) := by decide +kernel
theorem dX11_of_21 : decode cX11_of 21 = .ok (.ireturn, 1) := by decide +kernel
theorem dX11_of_22 : decode cX11_of 22 = .ok (.aload_n 0, 1) := by decide +kernel
theorem dX11_of_23 : decode cX11_of 23 = .ok (.getfield 38, 3) := by decide +kernel
theorem dX11_of_26 : decode cX11_of 26 = .ok (.getfield 163, 3) := by decide +kernel
theorem dX11_of_29 : decode cX11_of 29 = .ok (.iload_n 2, 1) := by decide +kernel
theorem dX11_of_30 : decode cX11_of 30 = .ok (.aaload, 1) := by decide +kernel
theorem dX11_of_31 : decode cX11_of 31 = .ok (.iload_n 1, 1) := by decide +kernel
theorem dX11_of_32 : decode cX11_of 32 = .ok (.iaload, 1) := by decide +kernel
theorem dX11_of_33 : decode cX11_of 33 = .ok (.ireturn, 1) := by decide +kernel
theorem dX11_empty_0 : decode cX11_empty 0 = .ok (.aload_n 0, 1) := by decide +kernel
theorem dX11_empty_1 : decode cX11_empty 1 = .ok (.getfield 38, 3) := by decide +kernel
theorem dX11_empty_4 : decode cX11_empty 4 = .ok (.getfield 166, 3) := by decide +kernel
theorem dX11_empty_7 : decode cX11_empty 7 = .ok (.ireturn, 1) := by decide +kernel
theorem dX11_write_0 : decode cX11_write 0 = .ok (.iload_n 3, 1) := by decide +kernel
theorem dX11_write_1 : decode cX11_write 1 = .ok (.iconst 1, 1) := by decide +kernel
theorem dX11_write_2 : decode cX11_write 2 = .ok (.bipush 8, 2) := by decide +kernel
theorem dX11_write_4 : decode cX11_write 4 = .ok (.invokestatic 89, 3) := by decide +kernel
theorem dX11_write_7 : decode cX11_write 7 = .ok (.ifCond .ne 6, 3) := by decide +kernel
theorem dX11_write_10 : decode cX11_write 10 = .ok (.bipush (-3), 2) := by decide +kernel
theorem dX11_write_12 : decode cX11_write 12 = .ok (.ireturn, 1) := by decide +kernel
theorem dX11_write_13 : decode cX11_write 13 = .ok (.aload_n 0, 1) := by decide +kernel
theorem dX11_write_14 : decode cX11_write 14 = .ok (.getfield 29, 3) := by decide +kernel
theorem dX11_write_17 : decode cX11_write 17 = .ok (.getfield 169, 3) := by decide +kernel
theorem dX11_write_20 : decode cX11_write 20 = .ok (.iload_n 3, 1) := by decide +kernel
theorem dX11_write_21 : decode cX11_write 21 = .ok (.iadd, 1) := by decide +kernel
theorem dX11_write_22 : decode cX11_write 22 = .ok (.sipush 160, 3) := by decide +kernel
theorem dX11_write_25 : decode cX11_write 25 = .ok (.if_icmp .le 6, 3) := by decide +kernel
theorem dX11_write_28 : decode cX11_write 28 = .ok (.bipush (-5), 2) := by decide +kernel
theorem dX11_write_30 : decode cX11_write 30 = .ok (.ireturn, 1) := by decide +kernel
theorem dX11_write_31 : decode cX11_write 31 = .ok (.iconst 0, 1) := by decide +kernel
theorem dX11_write_32 : decode cX11_write 32 = .ok (.istore 4, 2) := by decide +kernel
theorem dX11_write_34 : decode cX11_write 34 = .ok (.iload 4, 2) := by decide +kernel
theorem dX11_write_36 : decode cX11_write 36 = .ok (.iload_n 3, 1) := by decide +kernel
theorem dX11_write_37 : decode cX11_write 37 = .ok (.if_icmp .ge 29, 3) := by decide +kernel
theorem dX11_write_40 : decode cX11_write 40 = .ok (.aload_n 0, 1) := by decide +kernel
theorem dX11_write_41 : decode cX11_write 41 = .ok (.getfield 29, 3) := by decide +kernel
theorem dX11_write_44 : decode cX11_write 44 = .ok (.lload_n 1, 1) := by decide +kernel
theorem dX11_write_45 : decode cX11_write 45 = .ok (.bipush 8, 2) := by decide +kernel
theorem dX11_write_47 : decode cX11_write 47 = .ok (.iload 4, 2) := by decide +kernel
theorem dX11_write_49 : decode cX11_write 49 = .ok (.imul, 1) := by decide +kernel
theorem dX11_write_50 : decode cX11_write 50 = .ok (.lshr, 1) := by decide +kernel
theorem dX11_write_51 : decode cX11_write 51 = .ok (.ldc2_w 172, 3) := by decide +kernel
theorem dX11_write_54 : decode cX11_write 54 = .ok (.land, 1) := by decide +kernel
theorem dX11_write_55 : decode cX11_write 55 = .ok (.l2i, 1) := by decide +kernel
theorem dX11_write_56 : decode cX11_write 56 = .ok (.i2c, 1) := by decide +kernel
theorem dX11_write_57 : decode cX11_write 57 = .ok (.invokevirtual 174, 3) := by decide +kernel
theorem dX11_write_60 : decode cX11_write 60 = .ok (.iinc 4 1, 3) := by decide +kernel
theorem dX11_write_63 : decode cX11_write 63 = .ok (.goto (-29), 3) := by decide +kernel
theorem dX11_write_66 : decode cX11_write 66 = .ok (.aload_n 0, 1) := by decide +kernel
theorem dX11_write_67 : decode cX11_write 67 = .ok (.getfield 29, 3) := by decide +kernel
theorem dX11_write_70 : decode cX11_write 70 = .ok (.getfield 169, 3) := by decide +kernel
theorem dX11_write_73 : decode cX11_write 73 = .ok (.ireturn, 1) := by decide +kernel
theorem dX11_erase_0 : decode cX11_erase 0 = .ok (.aload_n 0, 1) := by decide +kernel
theorem dX11_erase_1 : decode cX11_erase 1 = .ok (.getfield 29, 3) := by decide +kernel
theorem dX11_erase_4 : decode cX11_erase 4 = .ok (.getfield 169, 3) := by decide +kernel
theorem dX11_erase_7 : decode cX11_erase 7 = .ok (.istore_n 1, 1) := by decide +kernel
theorem dX11_erase_8 : decode cX11_erase 8 = .ok (.aload_n 0, 1) := by decide +kernel
theorem dX11_erase_9 : decode cX11_erase 9 = .ok (.getfield 29, 3) := by decide +kernel
theorem dX11_erase_12 : decode cX11_erase 12 = .ok (.iconst 0, 1) := by decide +kernel
theorem dX11_erase_13 : decode cX11_erase 13 = .ok (.putfield 169, 3) := by decide +kernel
theorem dX11_erase_16 : decode cX11_erase 16 = .ok (.iload_n 1, 1) := by decide +kernel
theorem dX11_erase_17 : decode cX11_erase 17 = .ok (.ireturn, 1) := by decide +kernel
theorem dX11_fault_0 : decode cX11_fault 0 = .ok (.aload_n 0, 1) := by decide +kernel
theorem dX11_fault_1 : decode cX11_fault 1 = .ok (.getfield 29, 3) := by decide +kernel
theorem dX11_fault_4 : decode cX11_fault 4 = .ok (.aload_n 0, 1) := by decide +kernel
theorem dX11_fault_5 : decode cX11_fault 5 = .ok (.getfield 23, 3) := by decide +kernel
theorem dX11_fault_8 : decode cX11_fault 8 = .ok (.invokevirtual 177, 3) := by decide +kernel
theorem dX11_fault_11 : decode cX11_fault 11 = .ok (.ireturn, 1) := by decide +kernel
theorem dX11_rules_0 : decode cX11_rules 0 = .ok (.aload_n 0, 1) := by decide +kernel
theorem dX11_rules_1 : decode cX11_rules 1 = .ok (.getfield 29, 3) := by decide +kernel
theorem dX11_rules_4 : decode cX11_rules 4 = .ok (.aload_n 0, 1) := by decide +kernel
theorem dX11_rules_5 : decode cX11_rules 5 = .ok (.getfield 23, 3) := by decide +kernel
theorem dX11_rules_8 : decode cX11_rules 8 = .ok (.invokevirtual 177, 3) := by decide +kernel
theorem dX11_rules_11 : decode cX11_rules 11 = .ok (.iconst (-1), 1) := by decide +kernel
theorem dX11_rules_12 : decode cX11_rules 12 = .ok (.if_icmp .eq 6, 3) := by decide +kernel
theorem dX11_rules_15 : decode cX11_rules 15 = .ok (.bipush (-4), 2) := by decide +kernel
theorem dX11_rules_17 : decode cX11_rules 17 = .ok (.ireturn, 1) := by decide +kernel
theorem dX11_rules_18 : decode cX11_rules 18 = .ok (.aload_n 0, 1) := by decide +kernel
theorem dX11_rules_19 : decode cX11_rules 19 = .ok (.getfield 19, 3) := by decide +kernel
theorem dX11_rules_22 : decode cX11_rules 22 = .ok (.aload_n 0, 1) := by decide +kernel
theorem dX11_rules_23 : decode cX11_rules 23 = .ok (.getfield 23, 3) := by decide +kernel
theorem dX11_rules_26 : decode cX11_rules 26 = .ok (.invokevirtual 181, 3) := by decide +kernel
theorem dX11_rules_29 : decode cX11_rules 29 = .ok (.aload_n 0, 1) := by decide +kernel
theorem dX11_rules_30 : decode cX11_rules 30 = .ok (.getfield 29, 3) := by decide +kernel
theorem dX11_rules_33 : decode cX11_rules 33 = .ok (.iconst 0, 1) := by decide +kernel
theorem dX11_rules_34 : decode cX11_rules 34 = .ok (.putfield 169, 3) := by decide +kernel
theorem dX11_rules_37 : decode cX11_rules 37 = .ok (.aload_n 0, 1) := by decide +kernel
theorem dX11_rules_38 : decode cX11_rules 38 = .ok (.getfield 48, 3) := by decide +kernel
theorem dX11_rules_41 : decode cX11_rules 41 = .ok (.invokevirtual 97, 3) := by decide +kernel
theorem dX11_rules_44 : decode cX11_rules 44 = .ok (.aload_n 0, 1) := by decide +kernel
theorem dX11_rules_45 : decode cX11_rules 45 = .ok (.getfield 29, 3) := by decide +kernel
theorem dX11_rules_48 : decode cX11_rules 48 = .ok (.getfield 185, 3) := by decide +kernel
theorem dX11_rules_51 : decode cX11_rules 51 = .ok (.ireturn, 1) := by decide +kernel
theorem dX11_rule_0 : decode cX11_rule 0 = .ok (.iload_n 1, 1) := by decide +kernel
theorem dX11_rule_1 : decode cX11_rule 1 = .ok (.tableswitch 63 0 3 #[31, 39, 47, 55], 31) := by decide +kernel
theorem dX11_rule_32 : decode cX11_rule 32 = .ok (.aload_n 0, 1) := by decide +kernel
theorem dX11_rule_33 : decode cX11_rule 33 = .ok (.getfield 19, 3) := by decide +kernel
theorem dX11_rule_36 : decode cX11_rule 36 = .ok (.getfield 136, 3) := by decide +kernel
theorem dX11_rule_39 : decode cX11_rule 39 = .ok (.ireturn, 1) := by decide +kernel
theorem dX11_rule_40 : decode cX11_rule 40 = .ok (.aload_n 0, 1) := by decide +kernel
theorem dX11_rule_41 : decode cX11_rule 41 = .ok (.getfield 19, 3) := by decide +kernel
theorem dX11_rule_44 : decode cX11_rule 44 = .ok (.getfield 188, 3) := by decide +kernel
theorem dX11_rule_47 : decode cX11_rule 47 = .ok (.ireturn, 1) := by decide +kernel
theorem dX11_rule_48 : decode cX11_rule 48 = .ok (.aload_n 0, 1) := by decide +kernel
theorem dX11_rule_49 : decode cX11_rule 49 = .ok (.getfield 19, 3) := by decide +kernel
theorem dX11_rule_52 : decode cX11_rule 52 = .ok (.getfield 189, 3) := by decide +kernel
theorem dX11_rule_55 : decode cX11_rule 55 = .ok (.ireturn, 1) := by decide +kernel
theorem dX11_rule_56 : decode cX11_rule 56 = .ok (.aload_n 0, 1) := by decide +kernel
theorem dX11_rule_57 : decode cX11_rule 57 = .ok (.getfield 19, 3) := by decide +kernel
theorem dX11_rule_60 : decode cX11_rule 60 = .ok (.getfield 192, 3) := by decide +kernel
theorem dX11_rule_63 : decode cX11_rule 63 = .ok (.ireturn, 1) := by decide +kernel
theorem dX11_rule_64 : decode cX11_rule 64 = .ok (.bipush (-3), 2) := by decide +kernel
theorem dX11_rule_66 : decode cX11_rule 66 = .ok (.ireturn, 1) := by decide +kernel
theorem dX11_way_0 : decode cX11_way 0 = .ok (.iload_n 1, 1) := by decide +kernel
theorem dX11_way_1 : decode cX11_way 1 = .ok (.invokestatic 82, 3) := by decide +kernel
theorem dX11_way_4 : decode cX11_way 4 = .ok (.ifCond .ne 6, 3) := by decide +kernel
theorem dX11_way_7 : decode cX11_way 7 = .ok (.bipush (-2), 2) := by decide +kernel
theorem dX11_way_9 : decode cX11_way 9 = .ok (.ireturn, 1) := by decide +kernel
theorem dX11_way_10 : decode cX11_way 10 = .ok (.iload_n 2, 1) := by decide +kernel
theorem dX11_way_11 : decode cX11_way 11 = .ok (.tableswitch 55 0 2 #[25, 35, 45], 25) := by decide +kernel
theorem dX11_way_36 : decode cX11_way 36 = .ok (.aload_n 0, 1) := by decide +kernel
theorem dX11_way_37 : decode cX11_way 37 = .ok (.getfield 19, 3) := by decide +kernel
theorem dX11_way_40 : decode cX11_way 40 = .ok (.getfield 195, 3) := by decide +kernel
theorem dX11_way_43 : decode cX11_way 43 = .ok (.iload_n 1, 1) := by decide +kernel
theorem dX11_way_44 : decode cX11_way 44 = .ok (.iaload, 1) := by decide +kernel
theorem dX11_way_45 : decode cX11_way 45 = .ok (.ireturn, 1) := by decide +kernel
theorem dX11_way_46 : decode cX11_way 46 = .ok (.aload_n 0, 1) := by decide +kernel
theorem dX11_way_47 : decode cX11_way 47 = .ok (.getfield 19, 3) := by decide +kernel
theorem dX11_way_50 : decode cX11_way 50 = .ok (.getfield 198, 3) := by decide +kernel
theorem dX11_way_53 : decode cX11_way 53 = .ok (.iload_n 1, 1) := by decide +kernel
theorem dX11_way_54 : decode cX11_way 54 = .ok (.iaload, 1) := by decide +kernel
theorem dX11_way_55 : decode cX11_way 55 = .ok (.ireturn, 1) := by decide +kernel
theorem dX11_way_56 : decode cX11_way 56 = .ok (.aload_n 0, 1) := by decide +kernel
theorem dX11_way_57 : decode cX11_way 57 = .ok (.getfield 19, 3) := by decide +kernel
theorem dX11_way_60 : decode cX11_way 60 = .ok (.getfield 201, 3) := by decide +kernel
theorem dX11_way_63 : decode cX11_way 63 = .ok (.iload_n 1, 1) := by decide +kernel
theorem dX11_way_64 : decode cX11_way 64 = .ok (.iaload, 1) := by decide +kernel
theorem dX11_way_65 : decode cX11_way 65 = .ok (.ireturn, 1) := by decide +kernel
theorem dX11_way_66 : decode cX11_way 66 = .ok (.bipush (-3), 2) := by decide +kernel
theorem dX11_way_68 : decode cX11_way 68 = .ok (.ireturn, 1) := by decide +kernel
theorem dX11_would_0 : decode cX11_would 0 = .ok (.iload_n 1, 1) := by decide +kernel
theorem dX11_would_1 : decode cX11_would 1 = .ok (.iconst 1, 1) := by decide +kernel
theorem dX11_would_2 : decode cX11_would 2 = .ok (.bipush 60, 2) := by decide +kernel
theorem dX11_would_4 : decode cX11_would 4 = .ok (.invokestatic 89, 3) := by decide +kernel
theorem dX11_would_7 : decode cX11_would 7 = .ok (.ifCond .eq 12, 3) := by decide +kernel
theorem dX11_would_10 : decode cX11_would 10 = .ok (.iload_n 2, 1) := by decide +kernel
theorem dX11_would_11 : decode cX11_would 11 = .ok (.iconst 0, 1) := by decide +kernel
theorem dX11_would_12 : decode cX11_would 12 = .ok (.iconst 4, 1) := by decide +kernel
theorem dX11_would_13 : decode cX11_would 13 = .ok (.invokestatic 89, 3) := by decide +kernel
theorem dX11_would_16 : decode cX11_would 16 = .ok (.ifCond .ne 6, 3) := by decide +kernel
theorem dX11_would_19 : decode cX11_would 19 = .ok (.bipush (-3), 2) := by decide +kernel
theorem dX11_would_21 : decode cX11_would 21 = .ok (.ireturn, 1) := by decide +kernel
theorem dX11_would_22 : decode cX11_would 22 = .ok (.aload_n 0, 1) := by decide +kernel
theorem dX11_would_23 : decode cX11_would 23 = .ok (.iload_n 1, 1) := by decide +kernel
theorem dX11_would_24 : decode cX11_would 24 = .ok (.aload_n 0, 1) := by decide +kernel
theorem dX11_would_25 : decode cX11_would 25 = .ok (.getfield 19, 3) := by decide +kernel
theorem dX11_would_28 : decode cX11_would 28 = .ok (.invokevirtual 204, 3) := by decide +kernel
theorem dX11_would_31 : decode cX11_would 31 = .ok (.iload_n 2, 1) := by decide +kernel
theorem dX11_would_32 : decode cX11_would 32 = .ok (.tableswitch 67 0 3 #[32, 41, 50, 58], 32) := by decide +kernel
theorem dX11_would_64 : decode cX11_would 64 = .ok (.aload_n 0, 1) := by decide +kernel
theorem dX11_would_65 : decode cX11_would 65 = .ok (.getfield 42, 3) := by decide +kernel
theorem dX11_would_68 : decode cX11_would 68 = .ok (.iconst 5, 1) := by decide +kernel
theorem dX11_would_69 : decode cX11_would 69 = .ok (.invokevirtual 207, 3) := by decide +kernel
theorem dX11_would_72 : decode cX11_would 72 = .ok (.ireturn, 1) := by decide +kernel
theorem dX11_would_73 : decode cX11_would 73 = .ok (.aload_n 0, 1) := by decide +kernel
theorem dX11_would_74 : decode cX11_would 74 = .ok (.getfield 42, 3) := by decide +kernel
theorem dX11_would_77 : decode cX11_would 77 = .ok (.iconst 0, 1) := by decide +kernel
theorem dX11_would_78 : decode cX11_would 78 = .ok (.invokevirtual 207, 3) := by decide +kernel
theorem dX11_would_81 : decode cX11_would 81 = .ok (.ireturn, 1) := by decide +kernel
theorem dX11_would_82 : decode cX11_would 82 = .ok (.aload_n 0, 1) := by decide +kernel
theorem dX11_would_83 : decode cX11_would 83 = .ok (.getfield 42, 3) := by decide +kernel
theorem dX11_would_86 : decode cX11_would 86 = .ok (.getfield 166, 3) := by decide +kernel
theorem dX11_would_89 : decode cX11_would 89 = .ok (.ireturn, 1) := by decide +kernel
theorem dX11_would_90 : decode cX11_would 90 = .ok (.aload_n 0, 1) := by decide +kernel
theorem dX11_would_91 : decode cX11_would 91 = .ok (.getfield 42, 3) := by decide +kernel
theorem dX11_would_94 : decode cX11_would 94 = .ok (.iconst 3, 1) := by decide +kernel
theorem dX11_would_95 : decode cX11_would 95 = .ok (.invokevirtual 207, 3) := by decide +kernel
theorem dX11_would_98 : decode cX11_would 98 = .ok (.ireturn, 1) := by decide +kernel
theorem dX11_would_99 : decode cX11_would 99 = .ok (.aload_n 0, 1) := by decide +kernel
theorem dX11_would_100 : decode cX11_would 100 = .ok (.getfield 42, 3) := by decide +kernel
theorem dX11_would_103 : decode cX11_would 103 = .ok (.iconst 4, 1) := by decide +kernel
theorem dX11_would_104 : decode cX11_would 104 = .ok (.invokevirtual 207, 3) := by decide +kernel
theorem dX11_would_107 : decode cX11_would 107 = .ok (.ireturn, 1) := by decide +kernel
theorem dX11_gain_0 : decode cX11_gain 0 = .ok (.iload_n 1, 1) := by decide +kernel
theorem dX11_gain_1 : decode cX11_gain 1 = .ok (.invokestatic 82, 3) := by decide +kernel
theorem dX11_gain_4 : decode cX11_gain 4 = .ok (.ifCond .eq 13, 3) := by decide +kernel
theorem dX11_gain_7 : decode cX11_gain 7 = .ok (.iload_n 2, 1) := by decide +kernel
theorem dX11_gain_8 : decode cX11_gain 8 = .ok (.iconst 1, 1) := by decide +kernel
theorem dX11_gain_9 : decode cX11_gain 9 = .ok (.bipush 60, 2) := by decide +kernel
theorem dX11_gain_11 : decode cX11_gain 11 = .ok (.invokestatic 89, 3) := by decide +kernel
theorem dX11_gain_14 : decode cX11_gain 14 = .ok (.ifCond .ne 6, 3) := by decide +kernel
theorem dX11_gain_17 : decode cX11_gain 17 = .ok (.ldc 210, 2) := by decide +kernel
theorem dX11_gain_19 : decode cX11_gain 19 = .ok (.ireturn, 1) := by decide +kernel
theorem dX11_gain_20 : decode cX11_gain 20 = .ok (.aload_n 0, 1) := by decide +kernel
theorem dX11_gain_21 : decode cX11_gain 21 = .ok (.iload_n 2, 1) := by decide +kernel
theorem dX11_gain_22 : decode cX11_gain 22 = .ok (.aload_n 0, 1) := by decide +kernel
theorem dX11_gain_23 : decode cX11_gain 23 = .ok (.getfield 19, 3) := by decide +kernel
theorem dX11_gain_26 : decode cX11_gain 26 = .ok (.invokevirtual 204, 3) := by decide +kernel
theorem dX11_gain_29 : decode cX11_gain 29 = .ok (.aload_n 0, 1) := by decide +kernel
theorem dX11_gain_30 : decode cX11_gain 30 = .ok (.getfield 42, 3) := by decide +kernel
theorem dX11_gain_33 : decode cX11_gain 33 = .ok (.iload_n 1, 1) := by decide +kernel
theorem dX11_gain_34 : decode cX11_gain 34 = .ok (.invokevirtual 211, 3) := by decide +kernel
theorem dX11_gain_37 : decode cX11_gain 37 = .ok (.ireturn, 1) := by decide +kernel
theorem dX11_best_0 : decode cX11_best 0 = .ok (.iload_n 1, 1) := by decide +kernel
theorem dX11_best_1 : decode cX11_best 1 = .ok (.iconst 1, 1) := by decide +kernel
theorem dX11_best_2 : decode cX11_best 2 = .ok (.bipush 60, 2) := by decide +kernel
theorem dX11_best_4 : decode cX11_best 4 = .ok (.invokestatic 89, 3) := by decide +kernel
theorem dX11_best_7 : decode cX11_best 7 = .ok (.ifCond .eq 12, 3) := by decide +kernel
theorem dX11_best_10 : decode cX11_best 10 = .ok (.iload_n 2, 1) := by decide +kernel
theorem dX11_best_11 : decode cX11_best 11 = .ok (.iconst 0, 1) := by decide +kernel
theorem dX11_best_12 : decode cX11_best 12 = .ok (.iconst 1, 1) := by decide +kernel
theorem dX11_best_13 : decode cX11_best 13 = .ok (.invokestatic 89, 3) := by decide +kernel
theorem dX11_best_16 : decode cX11_best 16 = .ok (.ifCond .ne 6, 3) := by decide +kernel
theorem dX11_best_19 : decode cX11_best 19 = .ok (.bipush (-3), 2) := by decide +kernel
theorem dX11_best_21 : decode cX11_best 21 = .ok (.ireturn, 1) := by decide +kernel
theorem dX11_best_22 : decode cX11_best 22 = .ok (.aload_n 0, 1) := by decide +kernel
theorem dX11_best_23 : decode cX11_best 23 = .ok (.getfield 23, 3) := by decide +kernel
theorem dX11_best_26 : decode cX11_best 26 = .ok (.aload_n 0, 1) := by decide +kernel
theorem dX11_best_27 : decode cX11_best 27 = .ok (.getfield 19, 3) := by decide +kernel
theorem dX11_best_30 : decode cX11_best 30 = .ok (.invokevirtual 181, 3) := by decide +kernel
theorem dX11_best_33 : decode cX11_best 33 = .ok (.iconst (-1), 1) := by decide +kernel
theorem dX11_best_34 : decode cX11_best 34 = .ok (.istore_n 3, 1) := by decide +kernel
theorem dX11_best_35 : decode cX11_best 35 = .ok (.iconst 0, 1) := by decide +kernel
theorem dX11_best_36 : decode cX11_best 36 = .ok (.istore 4, 2) := by decide +kernel
theorem dX11_best_38 : decode cX11_best 38 = .ok (.iconst 0, 1) := by decide +kernel
theorem dX11_best_39 : decode cX11_best 39 = .ok (.istore 5, 2) := by decide +kernel
theorem dX11_best_41 : decode cX11_best 41 = .ok (.iload 5, 2) := by decide +kernel
theorem dX11_best_43 : decode cX11_best 43 = .ok (.bipush 36, 2) := by decide +kernel
theorem dX11_best_45 : decode cX11_best 45 = .ok (.if_icmp .ge 83, 3) := by decide +kernel
theorem dX11_best_48 : decode cX11_best 48 = .ok (.aload_n 0, 1) := by decide +kernel
theorem dX11_best_49 : decode cX11_best 49 = .ok (.getfield 23, 3) := by decide +kernel
theorem dX11_best_52 : decode cX11_best 52 = .ok (.iload 5, 2) := by decide +kernel
theorem dX11_best_54 : decode cX11_best 54 = .ok (.bipush 12, 2) := by decide +kernel
theorem dX11_best_56 : decode cX11_best 56 = .ok (.idiv, 1) := by decide +kernel
theorem dX11_best_57 : decode cX11_best 57 = .ok (.putfield 136, 3) := by decide +kernel
theorem dX11_best_60 : decode cX11_best 60 = .ok (.aload_n 0, 1) := by decide +kernel
theorem dX11_best_61 : decode cX11_best 61 = .ok (.getfield 23, 3) := by decide +kernel
theorem dX11_best_64 : decode cX11_best 64 = .ok (.iload 5, 2) := by decide +kernel
theorem dX11_best_66 : decode cX11_best 66 = .ok (.iconst 3, 1) := by decide +kernel
theorem dX11_best_67 : decode cX11_best 67 = .ok (.idiv, 1) := by decide +kernel
theorem dX11_best_68 : decode cX11_best 68 = .ok (.iconst 4, 1) := by decide +kernel
theorem dX11_best_69 : decode cX11_best 69 = .ok (.irem, 1) := by decide +kernel
theorem dX11_best_70 : decode cX11_best 70 = .ok (.putfield 188, 3) := by decide +kernel
theorem dX11_best_73 : decode cX11_best 73 = .ok (.aload_n 0, 1) := by decide +kernel
theorem dX11_best_74 : decode cX11_best 74 = .ok (.getfield 23, 3) := by decide +kernel
theorem dX11_best_77 : decode cX11_best 77 = .ok (.iload 5, 2) := by decide +kernel
theorem dX11_best_79 : decode cX11_best 79 = .ok (.iconst 3, 1) := by decide +kernel
theorem dX11_best_80 : decode cX11_best 80 = .ok (.irem, 1) := by decide +kernel
theorem dX11_best_81 : decode cX11_best 81 = .ok (.putfield 189, 3) := by decide +kernel
theorem dX11_best_84 : decode cX11_best 84 = .ok (.aload_n 0, 1) := by decide +kernel
theorem dX11_best_85 : decode cX11_best 85 = .ok (.iload_n 1, 1) := by decide +kernel
theorem dX11_best_86 : decode cX11_best 86 = .ok (.aload_n 0, 1) := by decide +kernel
theorem dX11_best_87 : decode cX11_best 87 = .ok (.getfield 23, 3) := by decide +kernel
theorem dX11_best_90 : decode cX11_best 90 = .ok (.invokevirtual 204, 3) := by decide +kernel
theorem dX11_best_93 : decode cX11_best 93 = .ok (.aload_n 0, 1) := by decide +kernel
theorem dX11_best_94 : decode cX11_best 94 = .ok (.getfield 42, 3) := by decide +kernel
theorem dX11_best_97 : decode cX11_best 97 = .ok (.iconst 5, 1) := by decide +kernel
theorem dX11_best_98 : decode cX11_best 98 = .ok (.invokevirtual 207, 3) := by decide +kernel
theorem dX11_best_101 : decode cX11_best 101 = .ok (.istore 6, 2) := by decide +kernel
theorem dX11_best_103 : decode cX11_best 103 = .ok (.iload_n 3, 1) := by decide +kernel
theorem dX11_best_104 : decode cX11_best 104 = .ok (.iconst (-1), 1) := by decide +kernel
theorem dX11_best_105 : decode cX11_best 105 = .ok (.if_icmp .eq 10, 3) := by decide +kernel
theorem dX11_best_108 : decode cX11_best 108 = .ok (.iload 6, 2) := by decide +kernel
theorem dX11_best_110 : decode cX11_best 110 = .ok (.iload 4, 2) := by decide +kernel
theorem dX11_best_112 : decode cX11_best 112 = .ok (.if_icmp .ge 10, 3) := by decide +kernel
theorem dX11_best_115 : decode cX11_best 115 = .ok (.iload 6, 2) := by decide +kernel
theorem dX11_best_117 : decode cX11_best 117 = .ok (.istore 4, 2) := by decide +kernel
theorem dX11_best_119 : decode cX11_best 119 = .ok (.iload 5, 2) := by decide +kernel
theorem dX11_best_121 : decode cX11_best 121 = .ok (.istore_n 3, 1) := by decide +kernel
theorem dX11_best_122 : decode cX11_best 122 = .ok (.iinc 5 1, 3) := by decide +kernel
theorem dX11_best_125 : decode cX11_best 125 = .ok (.goto (-84), 3) := by decide +kernel
theorem dX11_best_128 : decode cX11_best 128 = .ok (.iload_n 2, 1) := by decide +kernel
theorem dX11_best_129 : decode cX11_best 129 = .ok (.ifCond .ne 7, 3) := by decide +kernel
theorem dX11_best_132 : decode cX11_best 132 = .ok (.iload_n 3, 1) := by decide +kernel
theorem dX11_best_133 : decode cX11_best 133 = .ok (.goto 5, 3) := by decide +kernel
theorem dX11_best_136 : decode cX11_best 136 = .ok (.iload 4, 2) := by decide +kernel
theorem dX11_best_138 : decode cX11_best 138 = .ok (.ireturn, 1) := by decide +kernel
theorem dX11_rest_0 : decode cX11_rest 0 = .ok (.iload_n 1, 1) := by decide +kernel
theorem dX11_rest_1 : decode cX11_rest 1 = .ok (.iconst 1, 1) := by decide +kernel
theorem dX11_rest_2 : decode cX11_rest 2 = .ok (.bipush 40, 2) := by decide +kernel
theorem dX11_rest_4 : decode cX11_rest 4 = .ok (.invokestatic 89, 3) := by decide +kernel
theorem dX11_rest_7 : decode cX11_rest 7 = .ok (.ifCond .eq 8, 3) := by decide +kernel
theorem dX11_rest_10 : decode cX11_rest 10 = .ok (.iload_n 2, 1) := by decide +kernel
theorem dX11_rest_11 : decode cX11_rest 11 = .ok (.iconst (-1), 1) := by decide +kernel
theorem dX11_rest_12 : decode cX11_rest 12 = .ok (.if_icmp .ge 6, 3) := by decide +kernel
theorem dX11_rest_15 : decode cX11_rest 15 = .ok (.bipush (-3), 2) := by decide +kernel
theorem dX11_rest_17 : decode cX11_rest 17 = .ok (.ireturn, 1) := by decide +kernel
theorem dX11_rest_18 : decode cX11_rest 18 = .ok (.aload_n 0, 1) := by decide +kernel
theorem dX11_rest_19 : decode cX11_rest 19 = .ok (.getfield 48, 3) := by decide +kernel
theorem dX11_rest_22 : decode cX11_rest 22 = .ok (.iload_n 1, 1) := by decide +kernel
theorem dX11_rest_23 : decode cX11_rest 23 = .ok (.invokevirtual 214, 3) := by decide +kernel
theorem dX11_rest_26 : decode cX11_rest 26 = .ok (.ifCond .ne 34, 3) := by decide +kernel
theorem dX11_rest_29 : decode cX11_rest 29 = .ok (.aload_n 0, 1) := by decide +kernel
theorem dX11_rest_30 : decode cX11_rest 30 = .ok (.getfield 23, 3) := by decide +kernel
theorem dX11_rest_33 : decode cX11_rest 33 = .ok (.aload_n 0, 1) := by decide +kernel
theorem dX11_rest_34 : decode cX11_rest 34 = .ok (.getfield 19, 3) := by decide +kernel
theorem dX11_rest_37 : decode cX11_rest 37 = .ok (.invokevirtual 181, 3) := by decide +kernel
theorem dX11_rest_40 : decode cX11_rest 40 = .ok (.aload_n 0, 1) := by decide +kernel
theorem dX11_rest_41 : decode cX11_rest 41 = .ok (.getfield 48, 3) := by decide +kernel
theorem dX11_rest_44 : decode cX11_rest 44 = .ok (.iload_n 1, 1) := by decide +kernel
theorem dX11_rest_45 : decode cX11_rest 45 = .ok (.aload_n 0, 1) := by decide +kernel
theorem dX11_rest_46 : decode cX11_rest 46 = .ok (.getfield 38, 3) := by decide +kernel
theorem dX11_rest_49 : decode cX11_rest 49 = .ok (.aload_n 0, 1) := by decide +kernel
theorem dX11_rest_50 : decode cX11_rest 50 = .ok (.getfield 42, 3) := by decide +kernel
theorem dX11_rest_53 : decode cX11_rest 53 = .ok (.aload_n 0, 1) := by decide +kernel
theorem dX11_rest_54 : decode cX11_rest 54 = .ok (.getfield 23, 3) := by decide +kernel
theorem dX11_rest_57 : decode cX11_rest 57 = .ok (.invokevirtual 217, 3) := by decide +kernel
theorem dX11_rest_60 : decode cX11_rest 60 = .ok (.iload_n 2, 1) := by decide +kernel
theorem dX11_rest_61 : decode cX11_rest 61 = .ok (.iconst (-1), 1) := by decide +kernel
theorem dX11_rest_62 : decode cX11_rest 62 = .ok (.if_icmp .ne 11, 3) := by decide +kernel
theorem dX11_rest_65 : decode cX11_rest 65 = .ok (.aload_n 0, 1) := by decide +kernel
theorem dX11_rest_66 : decode cX11_rest 66 = .ok (.getfield 48, 3) := by decide +kernel
theorem dX11_rest_69 : decode cX11_rest 69 = .ok (.getfield 221, 3) := by decide +kernel
theorem dX11_rest_72 : decode cX11_rest 72 = .ok (.ireturn, 1) := by decide +kernel
theorem dX11_rest_73 : decode cX11_rest 73 = .ok (.iload_n 2, 1) := by decide +kernel
theorem dX11_rest_74 : decode cX11_rest 74 = .ok (.aload_n 0, 1) := by decide +kernel
theorem dX11_rest_75 : decode cX11_rest 75 = .ok (.getfield 48, 3) := by decide +kernel
theorem dX11_rest_78 : decode cX11_rest 78 = .ok (.getfield 221, 3) := by decide +kernel
theorem dX11_rest_81 : decode cX11_rest 81 = .ok (.if_icmp .ge 15, 3) := by decide +kernel
theorem dX11_rest_84 : decode cX11_rest 84 = .ok (.aload_n 0, 1) := by decide +kernel
theorem dX11_rest_85 : decode cX11_rest 85 = .ok (.getfield 48, 3) := by decide +kernel
theorem dX11_rest_88 : decode cX11_rest 88 = .ok (.getfield 224, 3) := by decide +kernel
theorem dX11_rest_91 : decode cX11_rest 91 = .ok (.iload_n 2, 1) := by decide +kernel
theorem dX11_rest_92 : decode cX11_rest 92 = .ok (.iaload, 1) := by decide +kernel
theorem dX11_rest_93 : decode cX11_rest 93 = .ok (.goto 4, 3) := by decide +kernel
theorem dX11_rest_96 : decode cX11_rest 96 = .ok (.iconst (-1), 1) := by decide +kernel
theorem dX11_rest_97 : decode cX11_rest 97 = .ok (.ireturn, 1) := by decide +kernel
theorem dX11_lot_0 : decode cX11_lot 0 = .ok (.aload_n 0, 1) := by decide +kernel
theorem dX11_lot_1 : decode cX11_lot 1 = .ok (.getfield 38, 3) := by decide +kernel
theorem dX11_lot_4 : decode cX11_lot 4 = .ok (.getfield 125, 3) := by decide +kernel
theorem dX11_lot_7 : decode cX11_lot 7 = .ok (.bipush 6, 2) := by decide +kernel
theorem dX11_lot_9 : decode cX11_lot 9 = .ok (.invokestatic 227, 3) := by decide +kernel
theorem dX11_lot_12 : decode cX11_lot 12 = .ok (.istore 6, 2) := by decide +kernel
theorem dX11_lot_14 : decode cX11_lot 14 = .ok (.iload_n 1, 1) := by decide +kernel
theorem dX11_lot_15 : decode cX11_lot 15 = .ok (.iconst 0, 1) := by decide +kernel
theorem dX11_lot_16 : decode cX11_lot 16 = .ok (.iload 6, 2) := by decide +kernel
theorem dX11_lot_18 : decode cX11_lot 18 = .ok (.iconst 1, 1) := by decide +kernel
theorem dX11_lot_19 : decode cX11_lot 19 = .ok (.isub, 1) := by decide +kernel
theorem dX11_lot_20 : decode cX11_lot 20 = .ok (.invokestatic 89, 3) := by decide +kernel
theorem dX11_lot_23 : decode cX11_lot 23 = .ok (.ifCond .eq 17, 3) := by decide +kernel
theorem dX11_lot_26 : decode cX11_lot 26 = .ok (.iload 4, 2) := by decide +kernel
theorem dX11_lot_28 : decode cX11_lot 28 = .ok (.iconst (-1), 1) := by decide +kernel
theorem dX11_lot_29 : decode cX11_lot 29 = .ok (.if_icmp .eq 14, 3) := by decide +kernel
theorem dX11_lot_32 : decode cX11_lot 32 = .ok (.iload 4, 2) := by decide +kernel
theorem dX11_lot_34 : decode cX11_lot 34 = .ok (.invokestatic 86, 3) := by decide +kernel
theorem dX11_lot_37 : decode cX11_lot 37 = .ok (.ifCond .ne 6, 3) := by decide +kernel
theorem dX11_lot_40 : decode cX11_lot 40 = .ok (.bipush (-2), 2) := by decide +kernel
theorem dX11_lot_42 : decode cX11_lot 42 = .ok (.ireturn, 1) := by decide +kernel
theorem dX11_lot_43 : decode cX11_lot 43 = .ok (.iload_n 3, 1) := by decide +kernel
theorem dX11_lot_44 : decode cX11_lot 44 = .ok (.iconst 1, 1) := by decide +kernel
theorem dX11_lot_45 : decode cX11_lot 45 = .ok (.iconst 4, 1) := by decide +kernel
theorem dX11_lot_46 : decode cX11_lot 46 = .ok (.invokestatic 89, 3) := by decide +kernel
theorem dX11_lot_49 : decode cX11_lot 49 = .ok (.ifCond .eq 13, 3) := by decide +kernel
theorem dX11_lot_52 : decode cX11_lot 52 = .ok (.iload 5, 2) := by decide +kernel
theorem dX11_lot_54 : decode cX11_lot 54 = .ok (.iconst 0, 1) := by decide +kernel
theorem dX11_lot_55 : decode cX11_lot 55 = .ok (.iconst 1, 1) := by decide +kernel
theorem dX11_lot_56 : decode cX11_lot 56 = .ok (.invokestatic 89, 3) := by decide +kernel
theorem dX11_lot_59 : decode cX11_lot 59 = .ok (.ifCond .ne 6, 3) := by decide +kernel
theorem dX11_lot_62 : decode cX11_lot 62 = .ok (.bipush (-3), 2) := by decide +kernel
theorem dX11_lot_64 : decode cX11_lot 64 = .ok (.ireturn, 1) := by decide +kernel
theorem dX11_lot_65 : decode cX11_lot 65 = .ok (.aload_n 0, 1) := by decide +kernel
theorem dX11_lot_66 : decode cX11_lot 66 = .ok (.getfield 38, 3) := by decide +kernel
theorem dX11_lot_69 : decode cX11_lot 69 = .ok (.aload_n 0, 1) := by decide +kernel
theorem dX11_lot_70 : decode cX11_lot 70 = .ok (.getfield 19, 3) := by decide +kernel
theorem dX11_lot_73 : decode cX11_lot 73 = .ok (.getfield 136, 3) := by decide +kernel
theorem dX11_lot_76 : decode cX11_lot 76 = .ok (.invokevirtual 139, 3) := by decide +kernel
theorem dX11_lot_79 : decode cX11_lot 79 = .ok (.aload_n 0, 1) := by decide +kernel
theorem dX11_lot_80 : decode cX11_lot 80 = .ok (.getfield 55, 3) := by decide +kernel
theorem dX11_lot_83 : decode cX11_lot 83 = .ok (.aload_n 0, 1) := by decide +kernel
theorem dX11_lot_84 : decode cX11_lot 84 = .ok (.getfield 38, 3) := by decide +kernel
theorem dX11_lot_87 : decode cX11_lot 87 = .ok (.iload 6, 2) := by decide +kernel
theorem dX11_lot_89 : decode cX11_lot 89 = .ok (.invokevirtual 233, 3) := by decide +kernel
theorem dX11_lot_92 : decode cX11_lot 92 = .ok (.aload_n 0, 1) := by decide +kernel
theorem dX11_lot_93 : decode cX11_lot 93 = .ok (.getfield 55, 3) := by decide +kernel
theorem dX11_lot_96 : decode cX11_lot 96 = .ok (.iload_n 2, 1) := by decide +kernel
theorem dX11_lot_97 : decode cX11_lot 97 = .ok (.iload_n 3, 1) := by decide +kernel
theorem dX11_lot_98 : decode cX11_lot 98 = .ok (.invokevirtual 237, 3) := by decide +kernel
theorem dX11_lot_101 : decode cX11_lot 101 = .ok (.aload_n 0, 1) := by decide +kernel
theorem dX11_lot_102 : decode cX11_lot 102 = .ok (.getfield 55, 3) := by decide +kernel
theorem dX11_lot_105 : decode cX11_lot 105 = .ok (.iload_n 1, 1) := by decide +kernel
theorem dX11_lot_106 : decode cX11_lot 106 = .ok (.iload 4, 2) := by decide +kernel
theorem dX11_lot_108 : decode cX11_lot 108 = .ok (.invokevirtual 241, 3) := by decide +kernel
theorem dX11_lot_111 : decode cX11_lot 111 = .ok (.i2l, 1) := by decide +kernel
theorem dX11_lot_112 : decode cX11_lot 112 = .ok (.getstatic 244, 3) := by decide +kernel
theorem dX11_lot_115 : decode cX11_lot 115 = .ok (.iload 6, 2) := by decide +kernel
theorem dX11_lot_117 : decode cX11_lot 117 = .ok (.iaload, 1) := by decide +kernel
theorem dX11_lot_118 : decode cX11_lot 118 = .ok (.i2l, 1) := by decide +kernel
theorem dX11_lot_119 : decode cX11_lot 119 = .ok (.iload 5, 2) := by decide +kernel
theorem dX11_lot_121 : decode cX11_lot 121 = .ok (.invokestatic 247, 3) := by decide +kernel
theorem dX11_lot_124 : decode cX11_lot 124 = .ok (.l2i, 1) := by decide +kernel
theorem dX11_lot_125 : decode cX11_lot 125 = .ok (.ireturn, 1) := by decide +kernel
theorem dX11_holder_0 : decode cX11_holder 0 = .ok (.iload_n 1, 1) := by decide +kernel
theorem dX11_holder_1 : decode cX11_holder 1 = .ok (.invokestatic 82, 3) := by decide +kernel
theorem dX11_holder_4 : decode cX11_holder 4 = .ok (.ifCond .eq 10, 3) := by decide +kernel
theorem dX11_holder_7 : decode cX11_holder 7 = .ok (.iload_n 2, 1) := by decide +kernel
theorem dX11_holder_8 : decode cX11_holder 8 = .ok (.invokestatic 86, 3) := by decide +kernel
theorem dX11_holder_11 : decode cX11_holder 11 = .ok (.ifCond .ne 6, 3) := by decide +kernel
theorem dX11_holder_14 : decode cX11_holder 14 = .ok (.bipush (-2), 2) := by decide +kernel
theorem dX11_holder_16 : decode cX11_holder 16 = .ok (.ireturn, 1) := by decide +kernel
theorem dX11_holder_17 : decode cX11_holder 17 = .ok (.aload_n 0, 1) := by decide +kernel
theorem dX11_holder_18 : decode cX11_holder 18 = .ok (.getfield 62, 3) := by decide +kernel
theorem dX11_holder_21 : decode cX11_holder 21 = .ok (.getfield 251, 3) := by decide +kernel
theorem dX11_holder_24 : decode cX11_holder 24 = .ok (.bipush 8, 2) := by decide +kernel
theorem dX11_holder_26 : decode cX11_holder 26 = .ok (.if_icmp .ne 6, 3) := by decide +kernel
theorem dX11_holder_29 : decode cX11_holder 29 = .ok (.bipush (-5), 2) := by decide +kernel
theorem dX11_holder_31 : decode cX11_holder 31 = .ok (.ireturn, 1) := by decide +kernel
theorem dX11_holder_32 : decode cX11_holder 32 = .ok (.aload_n 0, 1) := by decide +kernel
theorem dX11_holder_33 : decode cX11_holder 33 = .ok (.getfield 62, 3) := by decide +kernel
theorem dX11_holder_36 : decode cX11_holder 36 = .ok (.iload_n 1, 1) := by decide +kernel
theorem dX11_holder_37 : decode cX11_holder 37 = .ok (.iload_n 2, 1) := by decide +kernel
theorem dX11_holder_38 : decode cX11_holder 38 = .ok (.invokevirtual 252, 3) := by decide +kernel
theorem dX11_holder_41 : decode cX11_holder 41 = .ok (.ireturn, 1) := by decide +kernel
theorem dX11_swaps_0 : decode cX11_swaps 0 = .ok (.iload_n 1, 1) := by decide +kernel
theorem dX11_swaps_1 : decode cX11_swaps 1 = .ok (.iconst 0, 1) := by decide +kernel
theorem dX11_swaps_2 : decode cX11_swaps 2 = .ok (.aload_n 0, 1) := by decide +kernel
theorem dX11_swaps_3 : decode cX11_swaps 3 = .ok (.getfield 62, 3) := by decide +kernel
theorem dX11_swaps_6 : decode cX11_swaps 6 = .ok (.getfield 251, 3) := by decide +kernel
theorem dX11_swaps_9 : decode cX11_swaps 9 = .ok (.iconst 1, 1) := by decide +kernel
theorem dX11_swaps_10 : decode cX11_swaps 10 = .ok (.isub, 1) := by decide +kernel
theorem dX11_swaps_11 : decode cX11_swaps 11 = .ok (.invokestatic 89, 3) := by decide +kernel
theorem dX11_swaps_14 : decode cX11_swaps 14 = .ok (.ifCond .ne 6, 3) := by decide +kernel
theorem dX11_swaps_17 : decode cX11_swaps 17 = .ok (.bipush (-2), 2) := by decide +kernel
theorem dX11_swaps_19 : decode cX11_swaps 19 = .ok (.ireturn, 1) := by decide +kernel
theorem dX11_swaps_20 : decode cX11_swaps 20 = .ok (.aload_n 0, 1) := by decide +kernel
theorem dX11_swaps_21 : decode cX11_swaps 21 = .ok (.getfield 71, 3) := by decide +kernel
theorem dX11_swaps_24 : decode cX11_swaps 24 = .ok (.invokevirtual 254, 3) := by decide +kernel
theorem dX11_swaps_27 : decode cX11_swaps 27 = .ok (.aload_n 0, 1) := by decide +kernel
theorem dX11_swaps_28 : decode cX11_swaps 28 = .ok (.getfield 71, 3) := by decide +kernel
theorem dX11_swaps_31 : decode cX11_swaps 31 = .ok (.getfield 257, 3) := by decide +kernel
theorem dX11_swaps_34 : decode cX11_swaps 34 = .ok (.iload_n 1, 1) := by decide +kernel
theorem dX11_swaps_35 : decode cX11_swaps 35 = .ok (.iaload, 1) := by decide +kernel
theorem dX11_swaps_36 : decode cX11_swaps 36 = .ok (.ireturn, 1) := by decide +kernel
theorem dX11_rings_0 : decode cX11_rings 0 = .ok (.aload_n 0, 1) := by decide +kernel
theorem dX11_rings_1 : decode cX11_rings 1 = .ok (.getfield 71, 3) := by decide +kernel
theorem dX11_rings_4 : decode cX11_rings 4 = .ok (.invokevirtual 254, 3) := by decide +kernel
theorem dX11_rings_7 : decode cX11_rings 7 = .ok (.aload_n 0, 1) := by decide +kernel
theorem dX11_rings_8 : decode cX11_rings 8 = .ok (.getfield 71, 3) := by decide +kernel
theorem dX11_rings_11 : decode cX11_rings 11 = .ok (.getfield 260, 3) := by decide +kernel
theorem dX11_rings_14 : decode cX11_rings 14 = .ok (.ireturn, 1) := by decide +kernel
theorem dX11_chain_0 : decode cX11_chain 0 = .ok (.iload_n 1, 1) := by decide +kernel
theorem dX11_chain_1 : decode cX11_chain 1 = .ok (.invokestatic 86, 3) := by decide +kernel
theorem dX11_chain_4 : decode cX11_chain 4 = .ok (.ifCond .ne 6, 3) := by decide +kernel
theorem dX11_chain_7 : decode cX11_chain 7 = .ok (.bipush (-2), 2) := by decide +kernel
theorem dX11_chain_9 : decode cX11_chain 9 = .ok (.ireturn, 1) := by decide +kernel
theorem dX11_chain_10 : decode cX11_chain 10 = .ok (.iload_n 2, 1) := by decide +kernel
theorem dX11_chain_11 : decode cX11_chain 11 = .ok (.iconst (-1), 1) := by decide +kernel
theorem dX11_chain_12 : decode cX11_chain 12 = .ok (.if_icmp .ge 6, 3) := by decide +kernel
theorem dX11_chain_15 : decode cX11_chain 15 = .ok (.bipush (-3), 2) := by decide +kernel
theorem dX11_chain_17 : decode cX11_chain 17 = .ok (.ireturn, 1) := by decide +kernel
theorem dX11_chain_18 : decode cX11_chain 18 = .ok (.aload_n 0, 1) := by decide +kernel
theorem dX11_chain_19 : decode cX11_chain 19 = .ok (.getfield 78, 3) := by decide +kernel
theorem dX11_chain_22 : decode cX11_chain 22 = .ok (.iload_n 1, 1) := by decide +kernel
theorem dX11_chain_23 : decode cX11_chain 23 = .ok (.invokevirtual 263, 3) := by decide +kernel
theorem dX11_chain_26 : decode cX11_chain 26 = .ok (.iload_n 2, 1) := by decide +kernel
theorem dX11_chain_27 : decode cX11_chain 27 = .ok (.iconst (-1), 1) := by decide +kernel
theorem dX11_chain_28 : decode cX11_chain 28 = .ok (.if_icmp .ne 11, 3) := by decide +kernel
theorem dX11_chain_31 : decode cX11_chain 31 = .ok (.aload_n 0, 1) := by decide +kernel
theorem dX11_chain_32 : decode cX11_chain 32 = .ok (.getfield 78, 3) := by decide +kernel
theorem dX11_chain_35 : decode cX11_chain 35 = .ok (.getfield 265, 3) := by decide +kernel
theorem dX11_chain_38 : decode cX11_chain 38 = .ok (.ireturn, 1) := by decide +kernel
theorem dX11_chain_39 : decode cX11_chain 39 = .ok (.iload_n 2, 1) := by decide +kernel
theorem dX11_chain_40 : decode cX11_chain 40 = .ok (.aload_n 0, 1) := by decide +kernel
theorem dX11_chain_41 : decode cX11_chain 41 = .ok (.getfield 78, 3) := by decide +kernel
theorem dX11_chain_44 : decode cX11_chain 44 = .ok (.getfield 265, 3) := by decide +kernel
theorem dX11_chain_47 : decode cX11_chain 47 = .ok (.if_icmp .ge 15, 3) := by decide +kernel
theorem dX11_chain_50 : decode cX11_chain 50 = .ok (.aload_n 0, 1) := by decide +kernel
theorem dX11_chain_51 : decode cX11_chain 51 = .ok (.getfield 78, 3) := by decide +kernel
theorem dX11_chain_54 : decode cX11_chain 54 = .ok (.getfield 266, 3) := by decide +kernel
theorem dX11_chain_57 : decode cX11_chain 57 = .ok (.iload_n 2, 1) := by decide +kernel
theorem dX11_chain_58 : decode cX11_chain 58 = .ok (.iaload, 1) := by decide +kernel
theorem dX11_chain_59 : decode cX11_chain 59 = .ok (.goto 4, 3) := by decide +kernel
theorem dX11_chain_62 : decode cX11_chain 62 = .ok (.iconst (-1), 1) := by decide +kernel
theorem dX11_chain_63 : decode cX11_chain 63 = .ok (.ireturn, 1) := by decide +kernel
theorem dX11_mean_0 : decode cX11_mean 0 = .ok (.iload_n 1, 1) := by decide +kernel
theorem dX11_mean_1 : decode cX11_mean 1 = .ok (.iconst 1, 1) := by decide +kernel
theorem dX11_mean_2 : decode cX11_mean 2 = .ok (.bipush 9, 2) := by decide +kernel
theorem dX11_mean_4 : decode cX11_mean 4 = .ok (.invokestatic 89, 3) := by decide +kernel
theorem dX11_mean_7 : decode cX11_mean 7 = .ok (.ifCond .eq 13, 3) := by decide +kernel
theorem dX11_mean_10 : decode cX11_mean 10 = .ok (.iload_n 2, 1) := by decide +kernel
theorem dX11_mean_11 : decode cX11_mean 11 = .ok (.iconst 1, 1) := by decide +kernel
theorem dX11_mean_12 : decode cX11_mean 12 = .ok (.bipush 9, 2) := by decide +kernel
theorem dX11_mean_14 : decode cX11_mean 14 = .ok (.invokestatic 89, 3) := by decide +kernel
theorem dX11_mean_17 : decode cX11_mean 17 = .ok (.ifCond .ne 7, 3) := by decide +kernel
theorem dX11_mean_20 : decode cX11_mean 20 = .ok (.ldc2_w 269, 3) := by decide +kernel
theorem dX11_mean_23 : decode cX11_mean 23 = .ok (.lreturn, 1) := by decide +kernel
theorem dX11_mean_24 : decode cX11_mean 24 = .ok (.iload_n 3, 1) := by decide +kernel
theorem dX11_mean_25 : decode cX11_mean 25 = .ok (.iconst 1, 1) := by decide +kernel
theorem dX11_mean_26 : decode cX11_mean 26 = .ok (.bipush 6, 2) := by decide +kernel
theorem dX11_mean_28 : decode cX11_mean 28 = .ok (.invokestatic 89, 3) := by decide +kernel
theorem dX11_mean_31 : decode cX11_mean 31 = .ok (.ifCond .eq 13, 3) := by decide +kernel
theorem dX11_mean_34 : decode cX11_mean 34 = .ok (.iload 4, 2) := by decide +kernel
theorem dX11_mean_36 : decode cX11_mean 36 = .ok (.iconst 0, 1) := by decide +kernel
theorem dX11_mean_37 : decode cX11_mean 37 = .ok (.iconst 1, 1) := by decide +kernel
theorem dX11_mean_38 : decode cX11_mean 38 = .ok (.invokestatic 89, 3) := by decide +kernel
theorem dX11_mean_41 : decode cX11_mean 41 = .ok (.ifCond .ne 7, 3) := by decide +kernel
theorem dX11_mean_44 : decode cX11_mean 44 = .ok (.ldc2_w 269, 3) := by decide +kernel
theorem dX11_mean_47 : decode cX11_mean 47 = .ok (.lreturn, 1) := by decide +kernel
theorem dX11_mean_48 : decode cX11_mean 48 = .ok (.iload_n 1, 1) := by decide +kernel
theorem dX11_mean_49 : decode cX11_mean 49 = .ok (.i2l, 1) := by decide +kernel
theorem dX11_mean_50 : decode cX11_mean 50 = .ok (.bipush 10, 2) := by decide +kernel
theorem dX11_mean_52 : decode cX11_mean 52 = .ok (.iload_n 2, 1) := by decide +kernel
theorem dX11_mean_53 : decode cX11_mean 53 = .ok (.isub, 1) := by decide +kernel
theorem dX11_mean_54 : decode cX11_mean 54 = .ok (.i2l, 1) := by decide +kernel
theorem dX11_mean_55 : decode cX11_mean 55 = .ok (.lmul, 1) := by decide +kernel
theorem dX11_mean_56 : decode cX11_mean 56 = .ok (.lstore 5, 2) := by decide +kernel
theorem dX11_mean_58 : decode cX11_mean 58 = .ok (.iload_n 2, 1) := by decide +kernel
theorem dX11_mean_59 : decode cX11_mean 59 = .ok (.i2l, 1) := by decide +kernel
theorem dX11_mean_60 : decode cX11_mean 60 = .ok (.bipush 10, 2) := by decide +kernel
theorem dX11_mean_62 : decode cX11_mean 62 = .ok (.iload_n 1, 1) := by decide +kernel
theorem dX11_mean_63 : decode cX11_mean 63 = .ok (.isub, 1) := by decide +kernel
theorem dX11_mean_64 : decode cX11_mean 64 = .ok (.i2l, 1) := by decide +kernel
theorem dX11_mean_65 : decode cX11_mean 65 = .ok (.lmul, 1) := by decide +kernel
theorem dX11_mean_66 : decode cX11_mean 66 = .ok (.lstore 7, 2) := by decide +kernel
theorem dX11_mean_68 : decode cX11_mean 68 = .ok (.lconst 0, 1) := by decide +kernel
theorem dX11_mean_69 : decode cX11_mean 69 = .ok (.lstore 9, 2) := by decide +kernel
theorem dX11_mean_71 : decode cX11_mean 71 = .ok (.lconst 0, 1) := by decide +kernel
theorem dX11_mean_72 : decode cX11_mean 72 = .ok (.lstore 11, 2) := by decide +kernel
theorem dX11_mean_74 : decode cX11_mean 74 = .ok (.iconst 0, 1) := by decide +kernel
theorem dX11_mean_75 : decode cX11_mean 75 = .ok (.istore 13, 2) := by decide +kernel
theorem dX11_mean_77 : decode cX11_mean 77 = .ok (.iload 13, 2) := by decide +kernel
theorem dX11_mean_79 : decode cX11_mean 79 = .ok (.iload_n 3, 1) := by decide +kernel
theorem dX11_mean_80 : decode cX11_mean 80 = .ok (.if_icmp .gt 46, 3) := by decide +kernel
theorem dX11_mean_83 : decode cX11_mean 83 = .ok (.lload 5, 2) := by decide +kernel
theorem dX11_mean_85 : decode cX11_mean 85 = .ok (.iload 13, 2) := by decide +kernel
theorem dX11_mean_87 : decode cX11_mean 87 = .ok (.invokestatic 271, 3) := by decide +kernel
theorem dX11_mean_90 : decode cX11_mean 90 = .ok (.lload 7, 2) := by decide +kernel
theorem dX11_mean_92 : decode cX11_mean 92 = .ok (.iload_n 3, 1) := by decide +kernel
theorem dX11_mean_93 : decode cX11_mean 93 = .ok (.iload 13, 2) := by decide +kernel
theorem dX11_mean_95 : decode cX11_mean 95 = .ok (.isub, 1) := by decide +kernel
theorem dX11_mean_96 : decode cX11_mean 96 = .ok (.invokestatic 271, 3) := by decide +kernel
theorem dX11_mean_99 : decode cX11_mean 99 = .ok (.lmul, 1) := by decide +kernel
theorem dX11_mean_100 : decode cX11_mean 100 = .ok (.lstore 14, 2) := by decide +kernel
theorem dX11_mean_102 : decode cX11_mean 102 = .ok (.lload 9, 2) := by decide +kernel
theorem dX11_mean_104 : decode cX11_mean 104 = .ok (.iload 13, 2) := by decide +kernel
theorem dX11_mean_106 : decode cX11_mean 106 = .ok (.i2l, 1) := by decide +kernel
theorem dX11_mean_107 : decode cX11_mean 107 = .ok (.lload 14, 2) := by decide +kernel
theorem dX11_mean_109 : decode cX11_mean 109 = .ok (.lmul, 1) := by decide +kernel
theorem dX11_mean_110 : decode cX11_mean 110 = .ok (.ladd, 1) := by decide +kernel
theorem dX11_mean_111 : decode cX11_mean 111 = .ok (.lstore 9, 2) := by decide +kernel
theorem dX11_mean_113 : decode cX11_mean 113 = .ok (.lload 11, 2) := by decide +kernel
theorem dX11_mean_115 : decode cX11_mean 115 = .ok (.lload 14, 2) := by decide +kernel
theorem dX11_mean_117 : decode cX11_mean 117 = .ok (.ladd, 1) := by decide +kernel
theorem dX11_mean_118 : decode cX11_mean 118 = .ok (.lstore 11, 2) := by decide +kernel
theorem dX11_mean_120 : decode cX11_mean 120 = .ok (.iinc 13 1, 3) := by decide +kernel
theorem dX11_mean_123 : decode cX11_mean 123 = .ok (.goto (-46), 3) := by decide +kernel
theorem dX11_mean_126 : decode cX11_mean 126 = .ok (.lload 9, 2) := by decide +kernel
theorem dX11_mean_128 : decode cX11_mean 128 = .ok (.lload 11, 2) := by decide +kernel
theorem dX11_mean_130 : decode cX11_mean 130 = .ok (.iload 4, 2) := by decide +kernel
theorem dX11_mean_132 : decode cX11_mean 132 = .ok (.invokestatic 247, 3) := by decide +kernel
theorem dX11_mean_135 : decode cX11_mean 135 = .ok (.lreturn, 1) := by decide +kernel
theorem dX11_count_0 : decode cX11_count 0 = .ok (.iload_n 1, 1) := by decide +kernel
theorem dX11_count_1 : decode cX11_count 1 = .ok (.tableswitch 105 0 6 #[43, 51, 59, 70, 81, 89, 97], 43) := by decide +kernel
theorem dX11_count_44 : decode cX11_count 44 = .ok (.aload_n 0, 1) := by decide +kernel
theorem dX11_count_45 : decode cX11_count 45 = .ok (.getfield 38, 3) := by decide +kernel
theorem dX11_count_48 : decode cX11_count 48 = .ok (.getfield 129, 3) := by decide +kernel
theorem dX11_count_51 : decode cX11_count 51 = .ok (.ireturn, 1) := by decide +kernel
theorem dX11_count_52 : decode cX11_count 52 = .ok (.aload_n 0, 1) := by decide +kernel
theorem dX11_count_53 : decode cX11_count 53 = .ok (.getfield 38, 3) := by decide +kernel
theorem dX11_count_56 : decode cX11_count 56 = .ok (.getfield 125, 3) := by decide +kernel
theorem dX11_count_59 : decode cX11_count 59 = .ok (.ireturn, 1) := by decide +kernel
theorem dX11_count_60 : decode cX11_count 60 = .ok (.aload_n 0, 1) := by decide +kernel
theorem dX11_count_61 : decode cX11_count 61 = .ok (.getfield 10, 3) := by decide +kernel
theorem dX11_count_64 : decode cX11_count 64 = .ok (.getfield 104, 3) := by decide +kernel
theorem dX11_count_67 : decode cX11_count 67 = .ok (.getfield 275, 3) := by decide +kernel
theorem dX11_count_70 : decode cX11_count 70 = .ok (.ireturn, 1) := by decide +kernel
theorem dX11_count_71 : decode cX11_count 71 = .ok (.aload_n 0, 1) := by decide +kernel
theorem dX11_count_72 : decode cX11_count 72 = .ok (.getfield 10, 3) := by decide +kernel
theorem dX11_count_75 : decode cX11_count 75 = .ok (.getfield 118, 3) := by decide +kernel
theorem dX11_count_78 : decode cX11_count 78 = .ok (.getfield 275, 3) := by decide +kernel
theorem dX11_count_81 : decode cX11_count 81 = .ok (.ireturn, 1) := by decide +kernel
theorem dX11_count_82 : decode cX11_count 82 = .ok (.aload_n 0, 1) := by decide +kernel
theorem dX11_count_83 : decode cX11_count 83 = .ok (.getfield 29, 3) := by decide +kernel
theorem dX11_count_86 : decode cX11_count 86 = .ok (.getfield 169, 3) := by decide +kernel
theorem dX11_count_89 : decode cX11_count 89 = .ok (.ireturn, 1) := by decide +kernel
theorem dX11_count_90 : decode cX11_count 90 = .ok (.aload_n 0, 1) := by decide +kernel
theorem dX11_count_91 : decode cX11_count 91 = .ok (.getfield 62, 3) := by decide +kernel
theorem dX11_count_94 : decode cX11_count 94 = .ok (.getfield 251, 3) := by decide +kernel
theorem dX11_count_97 : decode cX11_count 97 = .ok (.ireturn, 1) := by decide +kernel
theorem dX11_count_98 : decode cX11_count 98 = .ok (.aload_n 0, 1) := by decide +kernel
theorem dX11_count_99 : decode cX11_count 99 = .ok (.getfield 38, 3) := by decide +kernel
theorem dX11_count_102 : decode cX11_count 102 = .ok (.getfield 276, 3) := by decide +kernel
theorem dX11_count_105 : decode cX11_count 105 = .ok (.ireturn, 1) := by decide +kernel
theorem dX11_count_106 : decode cX11_count 106 = .ok (.bipush (-3), 2) := by decide +kernel
theorem dX11_count_108 : decode cX11_count 108 = .ok (.ireturn, 1) := by decide +kernel
theorem dX11_tryOut_0 : decode cX11_tryOut 0 = .ok (.aload_n 0, 1) := by decide +kernel
theorem dX11_tryOut_1 : decode cX11_tryOut 1 = .ok (.getfield 42, 3) := by decide +kernel
theorem dX11_tryOut_4 : decode cX11_tryOut 4 = .ok (.aload_n 0, 1) := by decide +kernel
theorem dX11_tryOut_5 : decode cX11_tryOut 5 = .ok (.getfield 38, 3) := by decide +kernel
theorem dX11_tryOut_8 : decode cX11_tryOut 8 = .ok (.invokevirtual 279, 3) := by decide +kernel
theorem dX11_tryOut_11 : decode cX11_tryOut 11 = .ok (.aload_n 0, 1) := by decide +kernel
theorem dX11_tryOut_12 : decode cX11_tryOut 12 = .ok (.getfield 42, 3) := by decide +kernel
theorem dX11_tryOut_15 : decode cX11_tryOut 15 = .ok (.iload_n 1, 1) := by decide +kernel
theorem dX11_tryOut_16 : decode cX11_tryOut 16 = .ok (.aload_n 2, 1) := by decide +kernel
theorem dX11_tryOut_17 : decode cX11_tryOut 17 = .ok (.invokevirtual 132, 3) := by decide +kernel
theorem dX11_tryOut_20 : decode cX11_tryOut 20 = .ok (.return_, 1) := by decide +kernel
theorem dX11_within_0 : decode cX11_within 0 = .ok (.iload_n 0, 1) := by decide +kernel
theorem dX11_within_1 : decode cX11_within 1 = .ok (.iload_n 1, 1) := by decide +kernel
theorem dX11_within_2 : decode cX11_within 2 = .ok (.if_icmp .lt 12, 3) := by decide +kernel
theorem dX11_within_5 : decode cX11_within 5 = .ok (.iload_n 0, 1) := by decide +kernel
theorem dX11_within_6 : decode cX11_within 6 = .ok (.iload_n 2, 1) := by decide +kernel
theorem dX11_within_7 : decode cX11_within 7 = .ok (.if_icmp .gt 7, 3) := by decide +kernel
theorem dX11_within_10 : decode cX11_within 10 = .ok (.iconst 1, 1) := by decide +kernel
theorem dX11_within_11 : decode cX11_within 11 = .ok (.goto 4, 3) := by decide +kernel
theorem dX11_within_14 : decode cX11_within 14 = .ok (.iconst 0, 1) := by decide +kernel
theorem dX11_within_15 : decode cX11_within 15 = .ok (.ireturn, 1) := by decide +kernel
theorem dX11_isSort_0 : decode cX11_isSort 0 = .ok (.iload_n 0, 1) := by decide +kernel
theorem dX11_isSort_1 : decode cX11_isSort 1 = .ok (.iconst 0, 1) := by decide +kernel
theorem dX11_isSort_2 : decode cX11_isSort 2 = .ok (.iconst 3, 1) := by decide +kernel
theorem dX11_isSort_3 : decode cX11_isSort 3 = .ok (.invokestatic 89, 3) := by decide +kernel
theorem dX11_isSort_6 : decode cX11_isSort 6 = .ok (.ireturn, 1) := by decide +kernel
theorem dX11_isKind_0 : decode cX11_isKind 0 = .ok (.iload_n 0, 1) := by decide +kernel
theorem dX11_isKind_1 : decode cX11_isKind 1 = .ok (.iconst 0, 1) := by decide +kernel
theorem dX11_isKind_2 : decode cX11_isKind 2 = .ok (.iconst 3, 1) := by decide +kernel
theorem dX11_isKind_3 : decode cX11_isKind 3 = .ok (.invokestatic 89, 3) := by decide +kernel
theorem dX11_isKind_6 : decode cX11_isKind 6 = .ok (.ireturn, 1) := by decide +kernel
theorem dX11_power_0 : decode cX11_power 0 = .ok (.lconst 1, 1) := by decide +kernel
theorem dX11_power_1 : decode cX11_power 1 = .ok (.lstore_n 3, 1) := by decide +kernel
theorem dX11_power_2 : decode cX11_power 2 = .ok (.iconst 0, 1) := by decide +kernel
theorem dX11_power_3 : decode cX11_power 3 = .ok (.istore 5, 2) := by decide +kernel
theorem dX11_power_5 : decode cX11_power 5 = .ok (.iload 5, 2) := by decide +kernel
theorem dX11_power_7 : decode cX11_power 7 = .ok (.iload_n 2, 1) := by decide +kernel
theorem dX11_power_8 : decode cX11_power 8 = .ok (.if_icmp .ge 13, 3) := by decide +kernel
theorem dX11_power_11 : decode cX11_power 11 = .ok (.lload_n 3, 1) := by decide +kernel
theorem dX11_power_12 : decode cX11_power 12 = .ok (.lload_n 0, 1) := by decide +kernel
theorem dX11_power_13 : decode cX11_power 13 = .ok (.lmul, 1) := by decide +kernel
theorem dX11_power_14 : decode cX11_power 14 = .ok (.lstore_n 3, 1) := by decide +kernel
theorem dX11_power_15 : decode cX11_power 15 = .ok (.iinc 5 1, 3) := by decide +kernel
theorem dX11_power_18 : decode cX11_power 18 = .ok (.goto (-13), 3) := by decide +kernel
theorem dX11_power_21 : decode cX11_power 21 = .ok (.lload_n 3, 1) := by decide +kernel
theorem dX11_power_22 : decode cX11_power 22 = .ok (.lreturn, 1) := by decide +kernel
theorem dX11_lowest_0 : decode cX11_lowest 0 = .ok (.lload_n 0, 1) := by decide +kernel
theorem dX11_lowest_1 : decode cX11_lowest 1 = .ok (.lload_n 2, 1) := by decide +kernel
theorem dX11_lowest_2 : decode cX11_lowest 2 = .ok (.invokestatic 283, 3) := by decide +kernel
theorem dX11_lowest_5 : decode cX11_lowest 5 = .ok (.lstore 5, 2) := by decide +kernel
theorem dX11_lowest_7 : decode cX11_lowest 7 = .ok (.lload 5, 2) := by decide +kernel
theorem dX11_lowest_9 : decode cX11_lowest 9 = .ok (.lconst 0, 1) := by decide +kernel
theorem dX11_lowest_10 : decode cX11_lowest 10 = .ok (.lcmp, 1) := by decide +kernel
theorem dX11_lowest_11 : decode cX11_lowest 11 = .ok (.ifCond .ne 5, 3) := by decide +kernel
theorem dX11_lowest_14 : decode cX11_lowest 14 = .ok (.lconst 0, 1) := by decide +kernel
theorem dX11_lowest_15 : decode cX11_lowest 15 = .ok (.lreturn, 1) := by decide +kernel
theorem dX11_lowest_16 : decode cX11_lowest 16 = .ok (.iload 4, 2) := by decide +kernel
theorem dX11_lowest_18 : decode cX11_lowest 18 = .ok (.ifCond .ne 10, 3) := by decide +kernel
theorem dX11_lowest_21 : decode cX11_lowest 21 = .ok (.lload_n 0, 1) := by decide +kernel
theorem dX11_lowest_22 : decode cX11_lowest 22 = .ok (.lload 5, 2) := by decide +kernel
theorem dX11_lowest_24 : decode cX11_lowest 24 = .ok (.ldiv, 1) := by decide +kernel
theorem dX11_lowest_25 : decode cX11_lowest 25 = .ok (.goto 7, 3) := by decide +kernel
theorem dX11_lowest_28 : decode cX11_lowest 28 = .ok (.lload_n 2, 1) := by decide +kernel
theorem dX11_lowest_29 : decode cX11_lowest 29 = .ok (.lload 5, 2) := by decide +kernel
theorem dX11_lowest_31 : decode cX11_lowest 31 = .ok (.ldiv, 1) := by decide +kernel
theorem dX11_lowest_32 : decode cX11_lowest 32 = .ok (.lreturn, 1) := by decide +kernel
theorem dX11_commonDivisor_0 : decode cX11_commonDivisor 0 = .ok (.iconst 0, 1) := by decide +kernel
theorem dX11_commonDivisor_1 : decode cX11_commonDivisor 1 = .ok (.istore 4, 2) := by decide +kernel
theorem dX11_commonDivisor_3 : decode cX11_commonDivisor 3 = .ok (.iload 4, 2) := by decide +kernel
theorem dX11_commonDivisor_5 : decode cX11_commonDivisor 5 = .ok (.sipush 128, 3) := by decide +kernel
theorem dX11_commonDivisor_8 : decode cX11_commonDivisor 8 = .ok (.if_icmp .ge 25, 3) := by decide +kernel
theorem dX11_commonDivisor_11 : decode cX11_commonDivisor 11 = .ok (.lload_n 2, 1) := by decide +kernel
theorem dX11_commonDivisor_12 : decode cX11_commonDivisor 12 = .ok (.lconst 0, 1) := by decide +kernel
theorem dX11_commonDivisor_13 : decode cX11_commonDivisor 13 = .ok (.lcmp, 1) := by decide +kernel
theorem dX11_commonDivisor_14 : decode cX11_commonDivisor 14 = .ok (.ifCond .eq 19, 3) := by decide +kernel
theorem dX11_commonDivisor_17 : decode cX11_commonDivisor 17 = .ok (.lload_n 0, 1) := by decide +kernel
theorem dX11_commonDivisor_18 : decode cX11_commonDivisor 18 = .ok (.lload_n 2, 1) := by decide +kernel
theorem dX11_commonDivisor_19 : decode cX11_commonDivisor 19 = .ok (.lrem, 1) := by decide +kernel
theorem dX11_commonDivisor_20 : decode cX11_commonDivisor 20 = .ok (.lstore 5, 2) := by decide +kernel
theorem dX11_commonDivisor_22 : decode cX11_commonDivisor 22 = .ok (.lload_n 2, 1) := by decide +kernel
theorem dX11_commonDivisor_23 : decode cX11_commonDivisor 23 = .ok (.lstore_n 0, 1) := by decide +kernel
theorem dX11_commonDivisor_24 : decode cX11_commonDivisor 24 = .ok (.lload 5, 2) := by decide +kernel
theorem dX11_commonDivisor_26 : decode cX11_commonDivisor 26 = .ok (.lstore_n 2, 1) := by decide +kernel
theorem dX11_commonDivisor_27 : decode cX11_commonDivisor 27 = .ok (.iinc 4 1, 3) := by decide +kernel
theorem dX11_commonDivisor_30 : decode cX11_commonDivisor 30 = .ok (.goto (-27), 3) := by decide +kernel
theorem dX11_commonDivisor_33 : decode cX11_commonDivisor 33 = .ok (.lload_n 0, 1) := by decide +kernel
theorem dX11_commonDivisor_34 : decode cX11_commonDivisor 34 = .ok (.lreturn, 1) := by decide +kernel
theorem dX12_init_0 : decode cX12_init 0 = .ok (.aload_n 0, 1) := by decide +kernel
theorem dX12_init_1 : decode cX12_init 1 = .ok (.invokespecial 1, 3) := by decide +kernel
theorem dX12_init_4 : decode cX12_init 4 = .ok (.aload_n 0, 1) := by decide +kernel
theorem dX12_init_5 : decode cX12_init 5 = .ok (.bipush 16, 2) := by decide +kernel
theorem dX12_init_7 : decode cX12_init 7 = .ok (.newarray .int, 2) := by decide +kernel
theorem dX12_init_9 : decode cX12_init 9 = .ok (.putfield 7, 3) := by decide +kernel
theorem dX12_init_12 : decode cX12_init 12 = .ok (.aload_n 0, 1) := by decide +kernel
theorem dX12_init_13 : decode cX12_init 13 = .ok (.iconst 4, 1) := by decide +kernel
theorem dX12_init_14 : decode cX12_init 14 = .ok (.newarray .int, 2) := by decide +kernel
theorem dX12_init_16 : decode cX12_init 16 = .ok (.putfield 13, 3) := by decide +kernel
theorem dX12_init_19 : decode cX12_init 19 = .ok (.aload_n 0, 1) := by decide +kernel
theorem dX12_init_20 : decode cX12_init 20 = .ok (.bipush 24, 2) := by decide +kernel
theorem dX12_init_22 : decode cX12_init 22 = .ok (.newarray .int, 2) := by decide +kernel
theorem dX12_init_24 : decode cX12_init 24 = .ok (.putfield 16, 3) := by decide +kernel
theorem dX12_init_27 : decode cX12_init 27 = .ok (.aload_n 0, 1) := by decide +kernel
theorem dX12_init_28 : decode cX12_init 28 = .ok (.bipush 24, 2) := by decide +kernel
theorem dX12_init_30 : decode cX12_init 30 = .ok (.newarray .int, 2) := by decide +kernel
theorem dX12_init_32 : decode cX12_init 32 = .ok (.putfield 19, 3) := by decide +kernel
theorem dX12_init_35 : decode cX12_init 35 = .ok (.aload_n 0, 1) := by decide +kernel
theorem dX12_init_36 : decode cX12_init 36 = .ok (.bipush 88, 2) := by decide +kernel
theorem dX12_init_38 : decode cX12_init 38 = .ok (.newarray .int, 2) := by decide +kernel
theorem dX12_init_40 : decode cX12_init 40 = .ok (.putfield 22, 3) := by decide +kernel
theorem dX12_init_43 : decode cX12_init 43 = .ok (.aload_n 0, 1) := by decide +kernel
theorem dX12_init_44 : decode cX12_init 44 = .ok (.bipush 88, 2) := by decide +kernel
theorem dX12_init_46 : decode cX12_init 46 = .ok (.newarray .int, 2) := by decide +kernel
theorem dX12_init_48 : decode cX12_init 48 = .ok (.putfield 25, 3) := by decide +kernel
theorem dX12_init_51 : decode cX12_init 51 = .ok (.aload_n 0, 1) := by decide +kernel
theorem dX12_init_52 : decode cX12_init 52 = .ok (.bipush 12, 2) := by decide +kernel
theorem dX12_init_54 : decode cX12_init 54 = .ok (.newarray .int, 2) := by decide +kernel
theorem dX12_init_56 : decode cX12_init 56 = .ok (.putfield 28, 3) := by decide +kernel
theorem dX12_init_59 : decode cX12_init 59 = .ok (.aload_n 0, 1) := by decide +kernel
theorem dX12_init_60 : decode cX12_init 60 = .ok (.bipush 12, 2) := by decide +kernel
theorem dX12_init_62 : decode cX12_init 62 = .ok (.newarray .boolean, 2) := by decide +kernel
theorem dX12_init_64 : decode cX12_init 64 = .ok (.putfield 31, 3) := by decide +kernel
theorem dX12_init_67 : decode cX12_init 67 = .ok (.aload_n 0, 1) := by decide +kernel
theorem dX12_init_68 : decode cX12_init 68 = .ok (.sipush 160, 3) := by decide +kernel
theorem dX12_init_71 : decode cX12_init 71 = .ok (.newarray .int, 2) := by decide +kernel
theorem dX12_init_73 : decode cX12_init 73 = .ok (.putfield 35, 3) := by decide +kernel
theorem dX12_init_76 : decode cX12_init 76 = .ok (.aload_n 0, 1) := by decide +kernel
theorem dX12_init_77 : decode cX12_init 77 = .ok (.bipush 16, 2) := by decide +kernel
theorem dX12_init_79 : decode cX12_init 79 = .ok (.newarray .int, 2) := by decide +kernel
theorem dX12_init_81 : decode cX12_init 81 = .ok (.putfield 38, 3) := by decide +kernel
theorem dX12_init_84 : decode cX12_init 84 = .ok (.aload_n 0, 1) := by decide +kernel
theorem dX12_init_85 : decode cX12_init 85 = .ok (.bipush 16, 2) := by decide +kernel
theorem dX12_init_87 : decode cX12_init 87 = .ok (.newarray .int, 2) := by decide +kernel
theorem dX12_init_89 : decode cX12_init 89 = .ok (.putfield 41, 3) := by decide +kernel
theorem dX12_init_92 : decode cX12_init 92 = .ok (.aload_n 0, 1) := by decide +kernel
theorem dX12_init_93 : decode cX12_init 93 = .ok (.bipush 16, 2) := by decide +kernel
theorem dX12_init_95 : decode cX12_init 95 = .ok (.newarray .int, 2) := by decide +kernel
theorem dX12_init_97 : decode cX12_init 97 = .ok (.putfield 44, 3) := by decide +kernel
theorem dX12_init_100 : decode cX12_init 100 = .ok (.aload_n 0, 1) := by decide +kernel
theorem dX12_init_101 : decode cX12_init 101 = .ok (.sipush 2500, 3) := by decide +kernel
theorem dX12_init_104 : decode cX12_init 104 = .ok (.newarray .int, 2) := by decide +kernel
theorem dX12_init_106 : decode cX12_init 106 = .ok (.putfield 47, 3) := by decide +kernel
theorem dX12_init_109 : decode cX12_init 109 = .ok (.aload_n 0, 1) := by decide +kernel
theorem dX12_init_110 : decode cX12_init 110 = .ok (.bipush 6, 2) := by decide +kernel
theorem dX12_init_112 : decode cX12_init 112 = .ok (.newarray .int, 2) := by decide +kernel
theorem dX12_init_114 : decode cX12_init 114 = .ok (.putfield 50, 3) := by decide +kernel
theorem dX12_init_117 : decode cX12_init 117 = .ok (.aload_n 0, 1) := by decide +kernel
theorem dX12_init_118 : decode cX12_init 118 = .ok (.iconst 4, 1) := by decide +kernel
theorem dX12_init_119 : decode cX12_init 119 = .ok (.newarray .int, 2) := by decide +kernel
theorem dX12_init_121 : decode cX12_init 121 = .ok (.putfield 53, 3) := by decide +kernel
theorem dX12_init_124 : decode cX12_init 124 = .ok (.aload_n 0, 1) := by decide +kernel
theorem dX12_init_125 : decode cX12_init 125 = .ok (.bipush 8, 2) := by decide +kernel
theorem dX12_init_127 : decode cX12_init 127 = .ok (.newarray .int, 2) := by decide +kernel
theorem dX12_init_129 : decode cX12_init 129 = .ok (.putfield 56, 3) := by decide +kernel
theorem dX12_init_132 : decode cX12_init 132 = .ok (.aload_n 0, 1) := by decide +kernel
theorem dX12_init_133 : decode cX12_init 133 = .ok (.bipush 8, 2) := by decide +kernel
theorem dX12_init_135 : decode cX12_init 135 = .ok (.newarray .int, 2) := by decide +kernel
theorem dX12_init_137 : decode cX12_init 137 = .ok (.putfield 59, 3) := by decide +kernel
theorem dX12_init_140 : decode cX12_init 140 = .ok (.aload_n 0, 1) := by decide +kernel
theorem dX12_init_141 : decode cX12_init 141 = .ok (.bipush 8, 2) := by decide +kernel
theorem dX12_init_143 : decode cX12_init 143 = .ok (.newarray .int, 2) := by decide +kernel
theorem dX12_init_145 : decode cX12_init 145 = .ok (.putfield 62, 3) := by decide +kernel
theorem dX12_init_148 : decode cX12_init 148 = .ok (.aload_n 0, 1) := by decide +kernel
theorem dX12_init_149 : decode cX12_init 149 = .ok (.bipush 8, 2) := by decide +kernel
theorem dX12_init_151 : decode cX12_init 151 = .ok (.newarray .int, 2) := by decide +kernel
theorem dX12_init_153 : decode cX12_init 153 = .ok (.putfield 65, 3) := by decide +kernel
theorem dX12_init_156 : decode cX12_init 156 = .ok (.aload_n 0, 1) := by decide +kernel
theorem dX12_init_157 : decode cX12_init 157 = .ok (.sipush 2048, 3) := by decide +kernel
theorem dX12_init_160 : decode cX12_init 160 = .ok (.newarray .int, 2) := by decide +kernel
theorem dX12_init_162 : decode cX12_init 162 = .ok (.putfield 68, 3) := by decide +kernel
theorem dX12_init_165 : decode cX12_init 165 = .ok (.iconst 0, 1) := by decide +kernel
theorem dX12_init_166 : decode cX12_init 166 = .ok (.istore_n 1, 1) := by decide +kernel
theorem dX12_init_167 : decode cX12_init 167 = .ok (.iload_n 1, 1) := by decide +kernel
theorem dX12_init_168 : decode cX12_init 168 = .ok (.iconst 4, 1) := by decide +kernel
theorem dX12_init_169 : decode cX12_init 169 = .ok (.if_icmp .ge 16, 3) := by decide +kernel
theorem dX12_init_172 : decode cX12_init 172 = .ok (.aload_n 0, 1) := by decide +kernel
theorem dX12_init_173 : decode cX12_init 173 = .ok (.getfield 13, 3) := by decide +kernel
theorem dX12_init_176 : decode cX12_init 176 = .ok (.iload_n 1, 1) := by decide +kernel
theorem dX12_init_177 : decode cX12_init 177 = .ok (.iconst 1, 1) := by decide +kernel
theorem dX12_init_178 : decode cX12_init 178 = .ok (.iastore, 1) := by decide +kernel
theorem dX12_init_179 : decode cX12_init 179 = .ok (.iinc 1 1, 3) := by decide +kernel
theorem dX12_init_182 : decode cX12_init 182 = .ok (.goto (-15), 3) := by decide +kernel
theorem dX12_init_185 : decode cX12_init 185 = .ok (.aload_n 0, 1) := by decide +kernel
theorem dX12_init_186 : decode cX12_init 186 = .ok (.getfield 41, 3) := by decide +kernel
theorem dX12_init_189 : decode cX12_init 189 = .ok (.invokestatic 71, 3) := by decide +kernel
theorem dX12_init_192 : decode cX12_init 192 = .ok (.return_, 1) := by decide +kernel
theorem dX12_firstRules_0 : decode cX12_firstRules 0 = .ok (.iconst 0, 1) := by decide +kernel
theorem dX12_firstRules_1 : decode cX12_firstRules 1 = .ok (.istore_n 1, 1) := by decide +kernel
theorem dX12_firstRules_2 : decode cX12_firstRules 2 = .ok (.iload_n 1, 1) := by decide +kernel
theorem dX12_firstRules_3 : decode cX12_firstRules 3 = .ok (.bipush 16, 2) := by decide +kernel
theorem dX12_firstRules_5 : decode cX12_firstRules 5 = .ok (.if_icmp .ge 31, 3) := by decide +kernel
theorem dX12_firstRules_8 : decode cX12_firstRules 8 = .ok (.aload_n 0, 1) := by decide +kernel
theorem dX12_firstRules_9 : decode cX12_firstRules 9 = .ok (.iload_n 1, 1) := by decide +kernel
theorem dX12_firstRules_10 : decode cX12_firstRules 10 = .ok (.iload_n 1, 1) := by decide +kernel
theorem dX12_firstRules_11 : decode cX12_firstRules 11 = .ok (.iconst 1, 1) := by decide +kernel
theorem dX12_firstRules_12 : decode cX12_firstRules 12 = .ok (.if_icmp .ne 7, 3) := by decide +kernel
theorem dX12_firstRules_15 : decode cX12_firstRules 15 = .ok (.iconst 2, 1) := by decide +kernel
theorem dX12_firstRules_16 : decode cX12_firstRules 16 = .ok (.goto 13, 3) := by decide +kernel
theorem dX12_firstRules_19 : decode cX12_firstRules 19 = .ok (.iload_n 1, 1) := by decide +kernel
theorem dX12_firstRules_20 : decode cX12_firstRules 20 = .ok (.iconst 3, 1) := by decide +kernel
theorem dX12_firstRules_21 : decode cX12_firstRules 21 = .ok (.if_icmp .ne 7, 3) := by decide +kernel
theorem dX12_firstRules_24 : decode cX12_firstRules 24 = .ok (.iconst 1, 1) := by decide +kernel
theorem dX12_firstRules_25 : decode cX12_firstRules 25 = .ok (.goto 4, 3) := by decide +kernel
theorem dX12_firstRules_28 : decode cX12_firstRules 28 = .ok (.iconst 0, 1) := by decide +kernel
theorem dX12_firstRules_29 : decode cX12_firstRules 29 = .ok (.iastore, 1) := by decide +kernel
theorem dX12_firstRules_30 : decode cX12_firstRules 30 = .ok (.iinc 1 1, 3) := by decide +kernel
theorem dX12_firstRules_33 : decode cX12_firstRules 33 = .ok (.goto (-31), 3) := by decide +kernel
theorem dX12_firstRules_36 : decode cX12_firstRules 36 = .ok (.return_, 1) := by decide +kernel
theorem dX12_in_0 : decode cX12_in 0 = .ok (.iload_n 0, 1) := by decide +kernel
theorem dX12_in_1 : decode cX12_in 1 = .ok (.iload_n 1, 1) := by decide +kernel
theorem dX12_in_2 : decode cX12_in 2 = .ok (.if_icmp .lt 12, 3) := by decide +kernel
theorem dX12_in_5 : decode cX12_in 5 = .ok (.iload_n 0, 1) := by decide +kernel
theorem dX12_in_6 : decode cX12_in 6 = .ok (.iload_n 2, 1) := by decide +kernel
theorem dX12_in_7 : decode cX12_in 7 = .ok (.if_icmp .gt 7, 3) := by decide +kernel
theorem dX12_in_10 : decode cX12_in 10 = .ok (.iconst 1, 1) := by decide +kernel
theorem dX12_in_11 : decode cX12_in 11 = .ok (.goto 4, 3) := by decide +kernel
theorem dX12_in_14 : decode cX12_in 14 = .ok (.iconst 0, 1) := by decide +kernel
theorem dX12_in_15 : decode cX12_in 15 = .ok (.ireturn, 1) := by decide +kernel
theorem dX12_isFour_0 : decode cX12_isFour 0 = .ok (.iload_n 0, 1) := by decide +kernel
theorem dX12_isFour_1 : decode cX12_isFour 1 = .ok (.iconst 0, 1) := by decide +kernel
theorem dX12_isFour_2 : decode cX12_isFour 2 = .ok (.iconst 3, 1) := by decide +kernel
theorem dX12_isFour_3 : decode cX12_isFour 3 = .ok (.invokestatic 75, 3) := by decide +kernel
theorem dX12_isFour_6 : decode cX12_isFour 6 = .ok (.ireturn, 1) := by decide +kernel
theorem dX12_worth_0 : decode cX12_worth 0 = .ok (.iload_n 1, 1) := by decide +kernel
theorem dX12_worth_1 : decode cX12_worth 1 = .ok (.invokestatic 79, 3) := by decide +kernel
theorem dX12_worth_4 : decode cX12_worth 4 = .ok (.ifCond .eq 10, 3) := by decide +kernel
theorem dX12_worth_7 : decode cX12_worth 7 = .ok (.iload_n 2, 1) := by decide +kernel
theorem dX12_worth_8 : decode cX12_worth 8 = .ok (.invokestatic 79, 3) := by decide +kernel
theorem dX12_worth_11 : decode cX12_worth 11 = .ok (.ifCond .ne 6, 3) := by decide +kernel
theorem dX12_worth_14 : decode cX12_worth 14 = .ok (.bipush (-2), 2) := by decide +kernel
theorem dX12_worth_16 : decode cX12_worth 16 = .ok (.ireturn, 1) := by decide +kernel
theorem dX12_worth_17 : decode cX12_worth 17 = .ok (.iload_n 3, 1) := by decide +kernel
theorem dX12_worth_18 : decode cX12_worth 18 = .ok (.iconst 0, 1) := by decide +kernel
theorem dX12_worth_19 : decode cX12_worth 19 = .ok (.bipush 99, 2) := by decide +kernel
theorem dX12_worth_21 : decode cX12_worth 21 = .ok (.invokestatic 75, 3) := by decide +kernel
theorem dX12_worth_24 : decode cX12_worth 24 = .ok (.ifCond .ne 6, 3) := by decide +kernel
theorem dX12_worth_27 : decode cX12_worth 27 = .ok (.bipush (-3), 2) := by decide +kernel
theorem dX12_worth_29 : decode cX12_worth 29 = .ok (.ireturn, 1) := by decide +kernel
theorem dX12_worth_30 : decode cX12_worth 30 = .ok (.aload_n 0, 1) := by decide +kernel
theorem dX12_worth_31 : decode cX12_worth 31 = .ok (.getfield 7, 3) := by decide +kernel
theorem dX12_worth_34 : decode cX12_worth 34 = .ok (.iconst 4, 1) := by decide +kernel
theorem dX12_worth_35 : decode cX12_worth 35 = .ok (.iload_n 1, 1) := by decide +kernel
theorem dX12_worth_36 : decode cX12_worth 36 = .ok (.imul, 1) := by decide +kernel
theorem dX12_worth_37 : decode cX12_worth 37 = .ok (.iload_n 2, 1) := by decide +kernel
theorem dX12_worth_38 : decode cX12_worth 38 = .ok (.iadd, 1) := by decide +kernel
theorem dX12_worth_39 : decode cX12_worth 39 = .ok (.iaload, 1) := by decide +kernel
theorem dX12_worth_40 : decode cX12_worth 40 = .ok (.istore 4, 2) := by decide +kernel
theorem dX12_worth_42 : decode cX12_worth 42 = .ok (.aload_n 0, 1) := by decide +kernel
theorem dX12_worth_43 : decode cX12_worth 43 = .ok (.getfield 7, 3) := by decide +kernel
theorem dX12_worth_46 : decode cX12_worth 46 = .ok (.iconst 4, 1) := by decide +kernel
theorem dX12_worth_47 : decode cX12_worth 47 = .ok (.iload_n 1, 1) := by decide +kernel
theorem dX12_worth_48 : decode cX12_worth 48 = .ok (.imul, 1) := by decide +kernel
theorem dX12_worth_49 : decode cX12_worth 49 = .ok (.iload_n 2, 1) := by decide +kernel
theorem dX12_worth_50 : decode cX12_worth 50 = .ok (.iadd, 1) := by decide +kernel
theorem dX12_worth_51 : decode cX12_worth 51 = .ok (.iload_n 3, 1) := by decide +kernel
theorem dX12_worth_52 : decode cX12_worth 52 = .ok (.iastore, 1) := by decide +kernel
theorem dX12_worth_53 : decode cX12_worth 53 = .ok (.iload 4, 2) := by decide +kernel
theorem dX12_worth_55 : decode cX12_worth 55 = .ok (.ireturn, 1) := by decide +kernel
theorem dX12_need_0 : decode cX12_need 0 = .ok (.iload_n 1, 1) := by decide +kernel
theorem dX12_need_1 : decode cX12_need 1 = .ok (.invokestatic 79, 3) := by decide +kernel
theorem dX12_need_4 : decode cX12_need 4 = .ok (.ifCond .ne 6, 3) := by decide +kernel
theorem dX12_need_7 : decode cX12_need 7 = .ok (.bipush (-2), 2) := by decide +kernel
theorem dX12_need_9 : decode cX12_need 9 = .ok (.ireturn, 1) := by decide +kernel
theorem dX12_need_10 : decode cX12_need 10 = .ok (.iload_n 2, 1) := by decide +kernel
theorem dX12_need_11 : decode cX12_need 11 = .ok (.iconst 1, 1) := by decide +kernel
theorem dX12_need_12 : decode cX12_need 12 = .ok (.bipush 9, 2) := by decide +kernel
theorem dX12_need_14 : decode cX12_need 14 = .ok (.invokestatic 75, 3) := by decide +kernel
theorem dX12_need_17 : decode cX12_need 17 = .ok (.ifCond .ne 6, 3) := by decide +kernel
theorem dX12_need_20 : decode cX12_need 20 = .ok (.bipush (-3), 2) := by decide +kernel
theorem dX12_need_22 : decode cX12_need 22 = .ok (.ireturn, 1) := by decide +kernel
theorem dX12_need_23 : decode cX12_need 23 = .ok (.aload_n 0, 1) := by decide +kernel
theorem dX12_need_24 : decode cX12_need 24 = .ok (.getfield 13, 3) := by decide +kernel
theorem dX12_need_27 : decode cX12_need 27 = .ok (.iload_n 1, 1) := by decide +kernel
theorem dX12_need_28 : decode cX12_need 28 = .ok (.iaload, 1) := by decide +kernel
theorem dX12_need_29 : decode cX12_need 29 = .ok (.istore_n 3, 1) := by decide +kernel
theorem dX12_need_30 : decode cX12_need 30 = .ok (.aload_n 0, 1) := by decide +kernel
theorem dX12_need_31 : decode cX12_need 31 = .ok (.getfield 13, 3) := by decide +kernel
theorem dX12_need_34 : decode cX12_need 34 = .ok (.iload_n 1, 1) := by decide +kernel
theorem dX12_need_35 : decode cX12_need 35 = .ok (.iload_n 2, 1) := by decide +kernel
theorem dX12_need_36 : decode cX12_need 36 = .ok (.iastore, 1) := by decide +kernel
theorem dX12_need_37 : decode cX12_need 37 = .ok (.iload_n 3, 1) := by decide +kernel
theorem dX12_need_38 : decode cX12_need 38 = .ok (.ireturn, 1) := by decide +kernel
theorem dX12_coming_0 : decode cX12_coming 0 = .ok (.iload_n 1, 1) := by decide +kernel
theorem dX12_coming_1 : decode cX12_coming 1 = .ok (.iconst (-1), 1) := by decide +kernel
theorem dX12_coming_2 : decode cX12_coming 2 = .ok (.iconst 3, 1) := by decide +kernel
theorem dX12_coming_3 : decode cX12_coming 3 = .ok (.invokestatic 75, 3) := by decide +kernel
theorem dX12_coming_6 : decode cX12_coming 6 = .ok (.ifCond .ne 6, 3) := by decide +kernel
theorem dX12_coming_9 : decode cX12_coming 9 = .ok (.bipush (-2), 2) := by decide +kernel
theorem dX12_coming_11 : decode cX12_coming 11 = .ok (.ireturn, 1) := by decide +kernel
theorem dX12_coming_12 : decode cX12_coming 12 = .ok (.aload_n 0, 1) := by decide +kernel
theorem dX12_coming_13 : decode cX12_coming 13 = .ok (.getfield 83, 3) := by decide +kernel
theorem dX12_coming_16 : decode cX12_coming 16 = .ok (.bipush 24, 2) := by decide +kernel
theorem dX12_coming_18 : decode cX12_coming 18 = .ok (.if_icmp .ne 6, 3) := by decide +kernel
theorem dX12_coming_21 : decode cX12_coming 21 = .ok (.bipush (-5), 2) := by decide +kernel
theorem dX12_coming_23 : decode cX12_coming 23 = .ok (.ireturn, 1) := by decide +kernel
theorem dX12_coming_24 : decode cX12_coming 24 = .ok (.aload_n 0, 1) := by decide +kernel
theorem dX12_coming_25 : decode cX12_coming 25 = .ok (.getfield 16, 3) := by decide +kernel
theorem dX12_coming_28 : decode cX12_coming 28 = .ok (.aload_n 0, 1) := by decide +kernel
theorem dX12_coming_29 : decode cX12_coming 29 = .ok (.getfield 83, 3) := by decide +kernel
theorem dX12_coming_32 : decode cX12_coming 32 = .ok (.iload_n 1, 1) := by decide +kernel
theorem dX12_coming_33 : decode cX12_coming 33 = .ok (.iastore, 1) := by decide +kernel
theorem dX12_coming_34 : decode cX12_coming 34 = .ok (.aload_n 0, 1) := by decide +kernel
theorem dX12_coming_35 : decode cX12_coming 35 = .ok (.dup, 1) := by decide +kernel
theorem dX12_coming_36 : decode cX12_coming 36 = .ok (.getfield 83, 3) := by decide +kernel
theorem dX12_coming_39 : decode cX12_coming 39 = .ok (.iconst 1, 1) := by decide +kernel
theorem dX12_coming_40 : decode cX12_coming 40 = .ok (.iadd, 1) := by decide +kernel
theorem dX12_coming_41 : decode cX12_coming 41 = .ok (.putfield 83, 3) := by decide +kernel
theorem dX12_coming_44 : decode cX12_coming 44 = .ok (.aload_n 0, 1) := by decide +kernel
theorem dX12_coming_45 : decode cX12_coming 45 = .ok (.getfield 83, 3) := by decide +kernel
theorem dX12_coming_48 : decode cX12_coming 48 = .ok (.ireturn, 1) := by decide +kernel
theorem dX12_joining_0 : decode cX12_joining 0 = .ok (.iload_n 1, 1) := by decide +kernel
theorem dX12_joining_1 : decode cX12_joining 1 = .ok (.iconst (-1), 1) := by decide +kernel
theorem dX12_joining_2 : decode cX12_joining 2 = .ok (.iconst 3, 1) := by decide +kernel
theorem dX12_joining_3 : decode cX12_joining 3 = .ok (.invokestatic 75, 3) := by decide +kernel
theorem dX12_joining_6 : decode cX12_joining 6 = .ok (.ifCond .ne 6, 3) := by decide +kernel
theorem dX12_joining_9 : decode cX12_joining 9 = .ok (.bipush (-2), 2) := by decide +kernel
theorem dX12_joining_11 : decode cX12_joining 11 = .ok (.ireturn, 1) := by decide +kernel
theorem dX12_joining_12 : decode cX12_joining 12 = .ok (.aload_n 0, 1) := by decide +kernel
theorem dX12_joining_13 : decode cX12_joining 13 = .ok (.getfield 87, 3) := by decide +kernel
theorem dX12_joining_16 : decode cX12_joining 16 = .ok (.bipush 24, 2) := by decide +kernel
theorem dX12_joining_18 : decode cX12_joining 18 = .ok (.if_icmp .ne 6, 3) := by decide +kernel
theorem dX12_joining_21 : decode cX12_joining 21 = .ok (.bipush (-5), 2) := by decide +kernel
theorem dX12_joining_23 : decode cX12_joining 23 = .ok (.ireturn, 1) := by decide +kernel
theorem dX12_joining_24 : decode cX12_joining 24 = .ok (.aload_n 0, 1) := by decide +kernel
theorem dX12_joining_25 : decode cX12_joining 25 = .ok (.getfield 19, 3) := by decide +kernel
theorem dX12_joining_28 : decode cX12_joining 28 = .ok (.aload_n 0, 1) := by decide +kernel
theorem dX12_joining_29 : decode cX12_joining 29 = .ok (.getfield 87, 3) := by decide +kernel
theorem dX12_joining_32 : decode cX12_joining 32 = .ok (.iload_n 1, 1) := by decide +kernel
theorem dX12_joining_33 : decode cX12_joining 33 = .ok (.iastore, 1) := by decide +kernel
theorem dX12_joining_34 : decode cX12_joining 34 = .ok (.aload_n 0, 1) := by decide +kernel
theorem dX12_joining_35 : decode cX12_joining 35 = .ok (.dup, 1) := by decide +kernel
theorem dX12_joining_36 : decode cX12_joining 36 = .ok (.getfield 87, 3) := by decide +kernel
theorem dX12_joining_39 : decode cX12_joining 39 = .ok (.iconst 1, 1) := by decide +kernel
theorem dX12_joining_40 : decode cX12_joining 40 = .ok (.iadd, 1) := by decide +kernel
theorem dX12_joining_41 : decode cX12_joining 41 = .ok (.putfield 87, 3) := by decide +kernel
theorem dX12_joining_44 : decode cX12_joining 44 = .ok (.aload_n 0, 1) := by decide +kernel
theorem dX12_joining_45 : decode cX12_joining 45 = .ok (.getfield 87, 3) := by decide +kernel
theorem dX12_joining_48 : decode cX12_joining 48 = .ok (.ireturn, 1) := by decide +kernel
theorem dX12_add_0 : decode cX12_add 0 = .ok (.aload_n 0, 1) := by decide +kernel
theorem dX12_add_1 : decode cX12_add 1 = .ok (.getfield 22, 3) := by decide +kernel
theorem dX12_add_4 : decode cX12_add 4 = .ok (.bipush 84, 2) := by decide +kernel
theorem dX12_add_6 : decode cX12_add 6 = .ok (.iaload, 1) := by decide +kernel
theorem dX12_add_7 : decode cX12_add 7 = .ok (.istore_n 2, 1) := by decide +kernel
theorem dX12_add_8 : decode cX12_add 8 = .ok (.aload_n 0, 1) := by decide +kernel
theorem dX12_add_9 : decode cX12_add 9 = .ok (.getfield 22, 3) := by decide +kernel
theorem dX12_add_12 : decode cX12_add 12 = .ok (.iconst 0, 1) := by decide +kernel
theorem dX12_add_13 : decode cX12_add 13 = .ok (.iload_n 2, 1) := by decide +kernel
theorem dX12_add_14 : decode cX12_add 14 = .ok (.iadd, 1) := by decide +kernel
theorem dX12_add_15 : decode cX12_add 15 = .ok (.iload_n 1, 1) := by decide +kernel
theorem dX12_add_16 : decode cX12_add 16 = .ok (.iastore, 1) := by decide +kernel
theorem dX12_add_17 : decode cX12_add 17 = .ok (.aload_n 0, 1) := by decide +kernel
theorem dX12_add_18 : decode cX12_add 18 = .ok (.getfield 22, 3) := by decide +kernel
theorem dX12_add_21 : decode cX12_add 21 = .ok (.bipush 12, 2) := by decide +kernel
theorem dX12_add_23 : decode cX12_add 23 = .ok (.iload_n 2, 1) := by decide +kernel
theorem dX12_add_24 : decode cX12_add 24 = .ok (.iadd, 1) := by decide +kernel
theorem dX12_add_25 : decode cX12_add 25 = .ok (.aload_n 0, 1) := by decide +kernel
theorem dX12_add_26 : decode cX12_add 26 = .ok (.getfield 22, 3) := by decide +kernel
theorem dX12_add_29 : decode cX12_add 29 = .ok (.bipush 85, 2) := by decide +kernel
theorem dX12_add_31 : decode cX12_add 31 = .ok (.iaload, 1) := by decide +kernel
theorem dX12_add_32 : decode cX12_add 32 = .ok (.iastore, 1) := by decide +kernel
theorem dX12_add_33 : decode cX12_add 33 = .ok (.aload_n 0, 1) := by decide +kernel
theorem dX12_add_34 : decode cX12_add 34 = .ok (.getfield 22, 3) := by decide +kernel
theorem dX12_add_37 : decode cX12_add 37 = .ok (.bipush 24, 2) := by decide +kernel
theorem dX12_add_39 : decode cX12_add 39 = .ok (.iload_n 2, 1) := by decide +kernel
theorem dX12_add_40 : decode cX12_add 40 = .ok (.iadd, 1) := by decide +kernel
theorem dX12_add_41 : decode cX12_add 41 = .ok (.iconst 0, 1) := by decide +kernel
theorem dX12_add_42 : decode cX12_add 42 = .ok (.iastore, 1) := by decide +kernel
theorem dX12_add_43 : decode cX12_add 43 = .ok (.aload_n 0, 1) := by decide +kernel
theorem dX12_add_44 : decode cX12_add 44 = .ok (.getfield 22, 3) := by decide +kernel
theorem dX12_add_47 : decode cX12_add 47 = .ok (.bipush 36, 2) := by decide +kernel
theorem dX12_add_49 : decode cX12_add 49 = .ok (.iload_n 2, 1) := by decide +kernel
theorem dX12_add_50 : decode cX12_add 50 = .ok (.iadd, 1) := by decide +kernel
theorem dX12_add_51 : decode cX12_add 51 = .ok (.iconst 0, 1) := by decide +kernel
theorem dX12_add_52 : decode cX12_add 52 = .ok (.iastore, 1) := by decide +kernel
theorem dX12_add_53 : decode cX12_add 53 = .ok (.aload_n 0, 1) := by decide +kernel
theorem dX12_add_54 : decode cX12_add 54 = .ok (.getfield 22, 3) := by decide +kernel
theorem dX12_add_57 : decode cX12_add 57 = .ok (.bipush 48, 2) := by decide +kernel
theorem dX12_add_59 : decode cX12_add 59 = .ok (.iload_n 2, 1) := by decide +kernel
theorem dX12_add_60 : decode cX12_add 60 = .ok (.iadd, 1) := by decide +kernel
theorem dX12_add_61 : decode cX12_add 61 = .ok (.iconst 0, 1) := by decide +kernel
theorem dX12_add_62 : decode cX12_add 62 = .ok (.iastore, 1) := by decide +kernel
theorem dX12_add_63 : decode cX12_add 63 = .ok (.aload_n 0, 1) := by decide +kernel
theorem dX12_add_64 : decode cX12_add 64 = .ok (.getfield 22, 3) := by decide +kernel
theorem dX12_add_67 : decode cX12_add 67 = .ok (.bipush 85, 2) := by decide +kernel
theorem dX12_add_69 : decode cX12_add 69 = .ok (.dup2, 1) := by decide +kernel
theorem dX12_add_70 : decode cX12_add 70 = .ok (.iaload, 1) := by decide +kernel
theorem dX12_add_71 : decode cX12_add 71 = .ok (.iconst 1, 1) := by decide +kernel
theorem dX12_add_72 : decode cX12_add 72 = .ok (.iadd, 1) := by decide +kernel
theorem dX12_add_73 : decode cX12_add 73 = .ok (.iastore, 1) := by decide +kernel
theorem dX12_add_74 : decode cX12_add 74 = .ok (.aload_n 0, 1) := by decide +kernel
theorem dX12_add_75 : decode cX12_add 75 = .ok (.getfield 22, 3) := by decide +kernel
theorem dX12_add_78 : decode cX12_add 78 = .ok (.bipush 84, 2) := by decide +kernel
theorem dX12_add_80 : decode cX12_add 80 = .ok (.dup2, 1) := by decide +kernel
theorem dX12_add_81 : decode cX12_add 81 = .ok (.iaload, 1) := by decide +kernel
theorem dX12_add_82 : decode cX12_add 82 = .ok (.iconst 1, 1) := by decide +kernel
theorem dX12_add_83 : decode cX12_add 83 = .ok (.iadd, 1) := by decide +kernel
theorem dX12_add_84 : decode cX12_add 84 = .ok (.iastore, 1) := by decide +kernel
theorem dX12_add_85 : decode cX12_add 85 = .ok (.return_, 1) := by decide +kernel
theorem dX12_join_0 : decode cX12_join 0 = .ok (.iload_n 1, 1) := by decide +kernel
theorem dX12_join_1 : decode cX12_join 1 = .ok (.invokestatic 79, 3) := by decide +kernel
theorem dX12_join_4 : decode cX12_join 4 = .ok (.ifCond .ne 6, 3) := by decide +kernel
theorem dX12_join_7 : decode cX12_join 7 = .ok (.bipush (-2), 2) := by decide +kernel
theorem dX12_join_9 : decode cX12_join 9 = .ok (.ireturn, 1) := by decide +kernel
theorem dX12_join_10 : decode cX12_join 10 = .ok (.aload_n 0, 1) := by decide +kernel
theorem dX12_join_11 : decode cX12_join 11 = .ok (.getfield 22, 3) := by decide +kernel
theorem dX12_join_14 : decode cX12_join 14 = .ok (.bipush 84, 2) := by decide +kernel
theorem dX12_join_16 : decode cX12_join 16 = .ok (.iaload, 1) := by decide +kernel
theorem dX12_join_17 : decode cX12_join 17 = .ok (.bipush 12, 2) := by decide +kernel
theorem dX12_join_19 : decode cX12_join 19 = .ok (.if_icmp .ne 6, 3) := by decide +kernel
theorem dX12_join_22 : decode cX12_join 22 = .ok (.bipush (-5), 2) := by decide +kernel
theorem dX12_join_24 : decode cX12_join 24 = .ok (.ireturn, 1) := by decide +kernel
theorem dX12_join_25 : decode cX12_join 25 = .ok (.aload_n 0, 1) := by decide +kernel
theorem dX12_join_26 : decode cX12_join 26 = .ok (.iload_n 1, 1) := by decide +kernel
theorem dX12_join_27 : decode cX12_join 27 = .ok (.invokevirtual 90, 3) := by decide +kernel
theorem dX12_join_30 : decode cX12_join 30 = .ok (.aload_n 0, 1) := by decide +kernel
theorem dX12_join_31 : decode cX12_join 31 = .ok (.getfield 22, 3) := by decide +kernel
theorem dX12_join_34 : decode cX12_join 34 = .ok (.bipush 84, 2) := by decide +kernel
theorem dX12_join_36 : decode cX12_join 36 = .ok (.iaload, 1) := by decide +kernel
theorem dX12_join_37 : decode cX12_join 37 = .ok (.ireturn, 1) := by decide +kernel
theorem dX12_isAhead_0 : decode cX12_isAhead 0 = .ok (.aload_n 0, 1) := by decide +kernel
theorem dX12_isAhead_1 : decode cX12_isAhead 1 = .ok (.getfield 41, 3) := by decide +kernel
theorem dX12_isAhead_4 : decode cX12_isAhead 4 = .ok (.iconst 0, 1) := by decide +kernel
theorem dX12_isAhead_5 : decode cX12_isAhead 5 = .ok (.iaload, 1) := by decide +kernel
theorem dX12_isAhead_6 : decode cX12_isAhead 6 = .ok (.iconst 1, 1) := by decide +kernel
theorem dX12_isAhead_7 : decode cX12_isAhead 7 = .ok (.if_icmp .ne 19, 3) := by decide +kernel
theorem dX12_isAhead_10 : decode cX12_isAhead 10 = .ok (.aload_n 0, 1) := by decide +kernel
theorem dX12_isAhead_11 : decode cX12_isAhead 11 = .ok (.getfield 13, 3) := by decide +kernel
theorem dX12_isAhead_14 : decode cX12_isAhead 14 = .ok (.aload_n 0, 1) := by decide +kernel
theorem dX12_isAhead_15 : decode cX12_isAhead 15 = .ok (.getfield 22, 3) := by decide +kernel
theorem dX12_isAhead_18 : decode cX12_isAhead 18 = .ok (.iconst 0, 1) := by decide +kernel
theorem dX12_isAhead_19 : decode cX12_isAhead 19 = .ok (.iload_n 1, 1) := by decide +kernel
theorem dX12_isAhead_20 : decode cX12_isAhead 20 = .ok (.iadd, 1) := by decide +kernel
theorem dX12_isAhead_21 : decode cX12_isAhead 21 = .ok (.iaload, 1) := by decide +kernel
theorem dX12_isAhead_22 : decode cX12_isAhead 22 = .ok (.iaload, 1) := by decide +kernel
theorem dX12_isAhead_23 : decode cX12_isAhead 23 = .ok (.goto 26, 3) := by decide +kernel
theorem dX12_isAhead_26 : decode cX12_isAhead 26 = .ok (.aload_n 0, 1) := by decide +kernel
theorem dX12_isAhead_27 : decode cX12_isAhead 27 = .ok (.getfield 41, 3) := by decide +kernel
theorem dX12_isAhead_30 : decode cX12_isAhead 30 = .ok (.iconst 0, 1) := by decide +kernel
theorem dX12_isAhead_31 : decode cX12_isAhead 31 = .ok (.iaload, 1) := by decide +kernel
theorem dX12_isAhead_32 : decode cX12_isAhead 32 = .ok (.iconst 2, 1) := by decide +kernel
theorem dX12_isAhead_33 : decode cX12_isAhead 33 = .ok (.if_icmp .ne 15, 3) := by decide +kernel
theorem dX12_isAhead_36 : decode cX12_isAhead 36 = .ok (.aload_n 0, 1) := by decide +kernel
theorem dX12_isAhead_37 : decode cX12_isAhead 37 = .ok (.getfield 22, 3) := by decide +kernel
theorem dX12_isAhead_40 : decode cX12_isAhead 40 = .ok (.bipush 24, 2) := by decide +kernel
theorem dX12_isAhead_42 : decode cX12_isAhead 42 = .ok (.iload_n 1, 1) := by decide +kernel
theorem dX12_isAhead_43 : decode cX12_isAhead 43 = .ok (.iadd, 1) := by decide +kernel
theorem dX12_isAhead_44 : decode cX12_isAhead 44 = .ok (.iaload, 1) := by decide +kernel
theorem dX12_isAhead_45 : decode cX12_isAhead 45 = .ok (.goto 4, 3) := by decide +kernel
theorem dX12_isAhead_48 : decode cX12_isAhead 48 = .ok (.iconst 0, 1) := by decide +kernel
theorem dX12_isAhead_49 : decode cX12_isAhead 49 = .ok (.istore_n 3, 1) := by decide +kernel
theorem dX12_isAhead_50 : decode cX12_isAhead 50 = .ok (.aload_n 0, 1) := by decide +kernel
theorem dX12_isAhead_51 : decode cX12_isAhead 51 = .ok (.getfield 41, 3) := by decide +kernel
theorem dX12_isAhead_54 : decode cX12_isAhead 54 = .ok (.iconst 0, 1) := by decide +kernel
theorem dX12_isAhead_55 : decode cX12_isAhead 55 = .ok (.iaload, 1) := by decide +kernel
theorem dX12_isAhead_56 : decode cX12_isAhead 56 = .ok (.iconst 1, 1) := by decide +kernel
theorem dX12_isAhead_57 : decode cX12_isAhead 57 = .ok (.if_icmp .ne 19, 3) := by decide +kernel
theorem dX12_isAhead_60 : decode cX12_isAhead 60 = .ok (.aload_n 0, 1) := by decide +kernel
theorem dX12_isAhead_61 : decode cX12_isAhead 61 = .ok (.getfield 13, 3) := by decide +kernel
theorem dX12_isAhead_64 : decode cX12_isAhead 64 = .ok (.aload_n 0, 1) := by decide +kernel
theorem dX12_isAhead_65 : decode cX12_isAhead 65 = .ok (.getfield 22, 3) := by decide +kernel
theorem dX12_isAhead_68 : decode cX12_isAhead 68 = .ok (.iconst 0, 1) := by decide +kernel
theorem dX12_isAhead_69 : decode cX12_isAhead 69 = .ok (.iload_n 2, 1) := by decide +kernel
theorem dX12_isAhead_70 : decode cX12_isAhead 70 = .ok (.iadd, 1) := by decide +kernel
theorem dX12_isAhead_71 : decode cX12_isAhead 71 = .ok (.iaload, 1) := by decide +kernel
theorem dX12_isAhead_72 : decode cX12_isAhead 72 = .ok (.iaload, 1) := by decide +kernel
theorem dX12_isAhead_73 : decode cX12_isAhead 73 = .ok (.goto 26, 3) := by decide +kernel
theorem dX12_isAhead_76 : decode cX12_isAhead 76 = .ok (.aload_n 0, 1) := by decide +kernel
theorem dX12_isAhead_77 : decode cX12_isAhead 77 = .ok (.getfield 41, 3) := by decide +kernel
theorem dX12_isAhead_80 : decode cX12_isAhead 80 = .ok (.iconst 0, 1) := by decide +kernel
theorem dX12_isAhead_81 : decode cX12_isAhead 81 = .ok (.iaload, 1) := by decide +kernel
theorem dX12_isAhead_82 : decode cX12_isAhead 82 = .ok (.iconst 2, 1) := by decide +kernel
theorem dX12_isAhead_83 : decode cX12_isAhead 83 = .ok (.if_icmp .ne 15, 3) := by decide +kernel
theorem dX12_isAhead_86 : decode cX12_isAhead 86 = .ok (.aload_n 0, 1) := by decide +kernel
theorem dX12_isAhead_87 : decode cX12_isAhead 87 = .ok (.getfield 22, 3) := by decide +kernel
theorem dX12_isAhead_90 : decode cX12_isAhead 90 = .ok (.bipush 24, 2) := by decide +kernel
theorem dX12_isAhead_92 : decode cX12_isAhead 92 = .ok (.iload_n 2, 1) := by decide +kernel
theorem dX12_isAhead_93 : decode cX12_isAhead 93 = .ok (.iadd, 1) := by decide +kernel
theorem dX12_isAhead_94 : decode cX12_isAhead 94 = .ok (.iaload, 1) := by decide +kernel
theorem dX12_isAhead_95 : decode cX12_isAhead 95 = .ok (.goto 4, 3) := by decide +kernel
theorem dX12_isAhead_98 : decode cX12_isAhead 98 = .ok (.iconst 0, 1) := by decide +kernel
theorem dX12_isAhead_99 : decode cX12_isAhead 99 = .ok (.istore 4, 2) := by decide +kernel
theorem dX12_isAhead_101 : decode cX12_isAhead 101 = .ok (.iload_n 3, 1) := by decide +kernel
theorem dX12_isAhead_102 : decode cX12_isAhead 102 = .ok (.iload 4, 2) := by decide +kernel
theorem dX12_isAhead_104 : decode cX12_isAhead 104 = .ok (.if_icmp .gt 30, 3) := by decide +kernel
theorem dX12_isAhead_107 : decode cX12_isAhead 107 = .ok (.iload_n 3, 1) := by decide +kernel
theorem dX12_isAhead_108 : decode cX12_isAhead 108 = .ok (.iload 4, 2) := by decide +kernel
theorem dX12_isAhead_110 : decode cX12_isAhead 110 = .ok (.if_icmp .ne 28, 3) := by decide +kernel
theorem dX12_isAhead_113 : decode cX12_isAhead 113 = .ok (.aload_n 0, 1) := by decide +kernel
theorem dX12_isAhead_114 : decode cX12_isAhead 114 = .ok (.getfield 22, 3) := by decide +kernel
theorem dX12_isAhead_117 : decode cX12_isAhead 117 = .ok (.bipush 12, 2) := by decide +kernel
theorem dX12_isAhead_119 : decode cX12_isAhead 119 = .ok (.iload_n 1, 1) := by decide +kernel
theorem dX12_isAhead_120 : decode cX12_isAhead 120 = .ok (.iadd, 1) := by decide +kernel
theorem dX12_isAhead_121 : decode cX12_isAhead 121 = .ok (.iaload, 1) := by decide +kernel
theorem dX12_isAhead_122 : decode cX12_isAhead 122 = .ok (.aload_n 0, 1) := by decide +kernel
theorem dX12_isAhead_123 : decode cX12_isAhead 123 = .ok (.getfield 22, 3) := by decide +kernel
theorem dX12_isAhead_126 : decode cX12_isAhead 126 = .ok (.bipush 12, 2) := by decide +kernel
theorem dX12_isAhead_128 : decode cX12_isAhead 128 = .ok (.iload_n 2, 1) := by decide +kernel
theorem dX12_isAhead_129 : decode cX12_isAhead 129 = .ok (.iadd, 1) := by decide +kernel
theorem dX12_isAhead_130 : decode cX12_isAhead 130 = .ok (.iaload, 1) := by decide +kernel
theorem dX12_isAhead_131 : decode cX12_isAhead 131 = .ok (.if_icmp .ge 7, 3) := by decide +kernel
theorem dX12_isAhead_134 : decode cX12_isAhead 134 = .ok (.iconst 1, 1) := by decide +kernel
theorem dX12_isAhead_135 : decode cX12_isAhead 135 = .ok (.goto 4, 3) := by decide +kernel
theorem dX12_isAhead_138 : decode cX12_isAhead 138 = .ok (.iconst 0, 1) := by decide +kernel
theorem dX12_isAhead_139 : decode cX12_isAhead 139 = .ok (.ireturn, 1) := by decide +kernel
