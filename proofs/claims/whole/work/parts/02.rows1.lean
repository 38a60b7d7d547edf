theorem dX5_init_39 : decode cX5_init 39 = .ok (.putfield 27, 3) := by decide +kernel
theorem dX5_init_42 : decode cX5_init 42 = .ok (.aload_n 0, 1) := by decide +kernel
theorem dX5_init_43 : decode cX5_init 43 = .ok (.bipush 8, 2) := by decide +kernel
theorem dX5_init_45 : decode cX5_init 45 = .ok (.newarray .int, 2) := by decide +kernel
theorem dX5_init_47 : decode cX5_init 47 = .ok (.putfield 31, 3) := by decide +kernel
theorem dX5_init_50 : decode cX5_init 50 = .ok (.iconst 0, 1) := by decide +kernel
theorem dX5_init_51 : decode cX5_init 51 = .ok (.istore_n 1, 1) := by decide +kernel
theorem dX5_init_52 : decode cX5_init 52 = .ok (.iload_n 1, 1) := by decide +kernel
theorem dX5_init_53 : decode cX5_init 53 = .ok (.iconst 4, 1) := by decide +kernel
theorem dX5_init_54 : decode cX5_init 54 = .ok (.if_icmp .ge 22, 3) := by decide +kernel
theorem dX5_init_57 : decode cX5_init 57 = .ok (.aload_n 0, 1) := by decide +kernel
theorem dX5_init_58 : decode cX5_init 58 = .ok (.getfield 23, 3) := by decide +kernel
theorem dX5_init_61 : decode cX5_init 61 = .ok (.iload_n 1, 1) := by decide +kernel
theorem dX5_init_62 : decode cX5_init 62 = .ok (.new 21, 3) := by decide +kernel
theorem dX5_init_65 : decode cX5_init 65 = .ok (.dup, 1) := by decide +kernel
theorem dX5_init_66 : decode cX5_init 66 = .ok (.invokespecial 34, 3) := by decide +kernel
theorem dX5_init_69 : decode cX5_init 69 = .ok (.aastore, 1) := by decide +kernel
theorem dX5_init_70 : decode cX5_init 70 = .ok (.iinc 1 1, 3) := by decide +kernel
theorem dX5_init_73 : decode cX5_init 73 = .ok (.goto (-21), 3) := by decide +kernel
theorem dX5_init_76 : decode cX5_init 76 = .ok (.return_, 1) := by decide +kernel
theorem dX5_rules_0 : decode cX5_rules 0 = .ok (.aload_n 0, 1) := by decide +kernel
theorem dX5_rules_1 : decode cX5_rules 1 = .ok (.iconst 0, 1) := by decide +kernel
theorem dX5_rules_2 : decode cX5_rules 2 = .ok (.putfield 35, 3) := by decide +kernel
theorem dX5_rules_5 : decode cX5_rules 5 = .ok (.iload_n 1, 1) := by decide +kernel
theorem dX5_rules_6 : decode cX5_rules 6 = .ok (.invokestatic 39, 3) := by decide +kernel
theorem dX5_rules_9 : decode cX5_rules 9 = .ok (.ifCond .ne 5, 3) := by decide +kernel
theorem dX5_rules_12 : decode cX5_rules 12 = .ok (.iconst (-1), 1) := by decide +kernel
theorem dX5_rules_13 : decode cX5_rules 13 = .ok (.ireturn, 1) := by decide +kernel
theorem dX5_rules_14 : decode cX5_rules 14 = .ok (.iload_n 2, 1) := by decide +kernel
theorem dX5_rules_15 : decode cX5_rules 15 = .ok (.iconst 0, 1) := by decide +kernel
theorem dX5_rules_16 : decode cX5_rules 16 = .ok (.iconst 2, 1) := by decide +kernel
theorem dX5_rules_17 : decode cX5_rules 17 = .ok (.invokestatic 43, 3) := by decide +kernel
theorem dX5_rules_20 : decode cX5_rules 20 = .ok (.ifCond .ne 6, 3) := by decide +kernel
theorem dX5_rules_23 : decode cX5_rules 23 = .ok (.bipush (-2), 2) := by decide +kernel
theorem dX5_rules_25 : decode cX5_rules 25 = .ok (.ireturn, 1) := by decide +kernel
theorem dX5_rules_26 : decode cX5_rules 26 = .ok (.aload_n 0, 1) := by decide +kernel
theorem dX5_rules_27 : decode cX5_rules 27 = .ok (.getfield 23, 3) := by decide +kernel
theorem dX5_rules_30 : decode cX5_rules 30 = .ok (.iload_n 1, 1) := by decide +kernel
theorem dX5_rules_31 : decode cX5_rules 31 = .ok (.aaload, 1) := by decide +kernel
theorem dX5_rules_32 : decode cX5_rules 32 = .ok (.astore 5, 2) := by decide +kernel
theorem dX5_rules_34 : decode cX5_rules 34 = .ok (.aload 5, 2) := by decide +kernel
theorem dX5_rules_36 : decode cX5_rules 36 = .ok (.iload_n 2, 1) := by decide +kernel
theorem dX5_rules_37 : decode cX5_rules 37 = .ok (.invokevirtual 47, 3) := by decide +kernel
theorem dX5_rules_40 : decode cX5_rules 40 = .ok (.istore 6, 2) := by decide +kernel
theorem dX5_rules_42 : decode cX5_rules 42 = .ok (.iload 6, 2) := by decide +kernel
theorem dX5_rules_44 : decode cX5_rules 44 = .ok (.ifCond .eq 10, 3) := by decide +kernel
theorem dX5_rules_47 : decode cX5_rules 47 = .ok (.aload_n 0, 1) := by decide +kernel
theorem dX5_rules_48 : decode cX5_rules 48 = .ok (.iload 6, 2) := by decide +kernel
theorem dX5_rules_50 : decode cX5_rules 50 = .ok (.invokevirtual 51, 3) := by decide +kernel
theorem dX5_rules_53 : decode cX5_rules 53 = .ok (.ireturn, 1) := by decide +kernel
theorem dX5_rules_54 : decode cX5_rules 54 = .ok (.iload 4, 2) := by decide +kernel
theorem dX5_rules_56 : decode cX5_rules 56 = .ok (.ifCond .ge 9, 3) := by decide +kernel
theorem dX5_rules_59 : decode cX5_rules 59 = .ok (.aload_n 0, 1) := by decide +kernel
theorem dX5_rules_60 : decode cX5_rules 60 = .ok (.iconst 4, 1) := by decide +kernel
theorem dX5_rules_61 : decode cX5_rules 61 = .ok (.invokevirtual 51, 3) := by decide +kernel
theorem dX5_rules_64 : decode cX5_rules 64 = .ok (.ireturn, 1) := by decide +kernel
theorem dX5_rules_65 : decode cX5_rules 65 = .ok (.aload 5, 2) := by decide +kernel
theorem dX5_rules_67 : decode cX5_rules 67 = .ok (.iload_n 3, 1) := by decide +kernel
theorem dX5_rules_68 : decode cX5_rules 68 = .ok (.iload 4, 2) := by decide +kernel
theorem dX5_rules_70 : decode cX5_rules 70 = .ok (.invokevirtual 54, 3) := by decide +kernel
theorem dX5_rules_73 : decode cX5_rules 73 = .ok (.ifCond .ne 9, 3) := by decide +kernel
theorem dX5_rules_76 : decode cX5_rules 76 = .ok (.aload_n 0, 1) := by decide +kernel
theorem dX5_rules_77 : decode cX5_rules 77 = .ok (.iconst 3, 1) := by decide +kernel
theorem dX5_rules_78 : decode cX5_rules 78 = .ok (.invokevirtual 51, 3) := by decide +kernel
theorem dX5_rules_81 : decode cX5_rules 81 = .ok (.ireturn, 1) := by decide +kernel
theorem dX5_rules_82 : decode cX5_rules 82 = .ok (.aload 5, 2) := by decide +kernel
theorem dX5_rules_84 : decode cX5_rules 84 = .ok (.iload_n 3, 1) := by decide +kernel
theorem dX5_rules_85 : decode cX5_rules 85 = .ok (.iload 4, 2) := by decide +kernel
theorem dX5_rules_87 : decode cX5_rules 87 = .ok (.invokestatic 58, 3) := by decide +kernel
theorem dX5_rules_90 : decode cX5_rules 90 = .ok (.istore 7, 2) := by decide +kernel
theorem dX5_rules_92 : decode cX5_rules 92 = .ok (.iload 7, 2) := by decide +kernel
theorem dX5_rules_94 : decode cX5_rules 94 = .ok (.iconst (-1), 1) := by decide +kernel
theorem dX5_rules_95 : decode cX5_rules 95 = .ok (.if_icmp .eq 9, 3) := by decide +kernel
theorem dX5_rules_98 : decode cX5_rules 98 = .ok (.bipush (-100), 2) := by decide +kernel
theorem dX5_rules_100 : decode cX5_rules 100 = .ok (.iload 7, 2) := by decide +kernel
theorem dX5_rules_102 : decode cX5_rules 102 = .ok (.isub, 1) := by decide +kernel
theorem dX5_rules_103 : decode cX5_rules 103 = .ok (.ireturn, 1) := by decide +kernel
theorem dX5_rules_104 : decode cX5_rules 104 = .ok (.aload 5, 2) := by decide +kernel
theorem dX5_rules_106 : decode cX5_rules 106 = .ok (.iload_n 3, 1) := by decide +kernel
theorem dX5_rules_107 : decode cX5_rules 107 = .ok (.iload 4, 2) := by decide +kernel
theorem dX5_rules_109 : decode cX5_rules 109 = .ok (.aload_n 0, 1) := by decide +kernel
theorem dX5_rules_110 : decode cX5_rules 110 = .ok (.getfield 12, 3) := by decide +kernel
theorem dX5_rules_113 : decode cX5_rules 113 = .ok (.invokestatic 64, 3) := by decide +kernel
theorem dX5_rules_116 : decode cX5_rules 116 = .ok (.aload_n 0, 1) := by decide +kernel
theorem dX5_rules_117 : decode cX5_rules 117 = .ok (.iconst 0, 1) := by decide +kernel
theorem dX5_rules_118 : decode cX5_rules 118 = .ok (.putfield 68, 3) := by decide +kernel
theorem dX5_rules_121 : decode cX5_rules 121 = .ok (.aload_n 0, 1) := by decide +kernel
theorem dX5_rules_122 : decode cX5_rules 122 = .ok (.getfield 12, 3) := by decide +kernel
theorem dX5_rules_125 : decode cX5_rules 125 = .ok (.getfield 71, 3) := by decide +kernel
theorem dX5_rules_128 : decode cX5_rules 128 = .ok (.ireturn, 1) := by decide +kernel
theorem dX5_ofRule_0 : decode cX5_ofRule 0 = .ok (.aload_n 0, 1) := by decide +kernel
theorem dX5_ofRule_1 : decode cX5_ofRule 1 = .ok (.getfield 12, 3) := by decide +kernel
theorem dX5_ofRule_4 : decode cX5_ofRule 4 = .ok (.iload_n 1, 1) := by decide +kernel
theorem dX5_ofRule_5 : decode cX5_ofRule 5 = .ok (.invokevirtual 74, 3) := by decide +kernel
theorem dX5_ofRule_8 : decode cX5_ofRule 8 = .ok (.ifCond .ne 5, 3) := by decide +kernel
theorem dX5_ofRule_11 : decode cX5_ofRule 11 = .ok (.iconst (-1), 1) := by decide +kernel
theorem dX5_ofRule_12 : decode cX5_ofRule 12 = .ok (.ireturn, 1) := by decide +kernel
theorem dX5_ofRule_13 : decode cX5_ofRule 13 = .ok (.aload_n 0, 1) := by decide +kernel
theorem dX5_ofRule_14 : decode cX5_ofRule 14 = .ok (.getfield 12, 3) := by decide +kernel
theorem dX5_ofRule_17 : decode cX5_ofRule 17 = .ok (.getfield 77, 3) := by decide +kernel
theorem dX5_ofRule_20 : decode cX5_ofRule 20 = .ok (.iload_n 1, 1) := by decide +kernel
theorem dX5_ofRule_21 : decode cX5_ofRule 21 = .ok (.aaload, 1) := by decide +kernel
theorem dX5_ofRule_22 : decode cX5_ofRule 22 = .ok (.astore_n 3, 1) := by decide +kernel
theorem dX5_ofRule_23 : decode cX5_ofRule 23 = .ok (.iload_n 2, 1) := by decide +kernel
theorem dX5_ofRule_24 : decode cX5_ofRule 24 = .ok (.tableswitch 83 0 6 #[44, 49, 54, 59, 64, 69, 74], 44) := by decide +kernel
theorem dX5_ofRule_68 : decode cX5_ofRule 68 = .ok (.aload_n 3, 1) := by decide +kernel
theorem dX5_ofRule_69 : decode cX5_ofRule 69 = .ok (.getfield 81, 3) := by decide +kernel
theorem dX5_ofRule_72 : decode cX5_ofRule 72 = .ok (.ireturn, 1) := by decide +kernel
theorem dX5_ofRule_73 : decode cX5_ofRule 73 = .ok (.aload_n 3, 1) := by decide +kernel
theorem dX5_ofRule_74 : decode cX5_ofRule 74 = .ok (.getfield 86, 3) := by decide +kernel
theorem dX5_ofRule_77 : decode cX5_ofRule 77 = .ok (.ireturn, 1) := by decide +kernel
theorem dX5_ofRule_78 : decode cX5_ofRule 78 = .ok (.aload_n 3, 1) := by decide +kernel
theorem dX5_ofRule_79 : decode cX5_ofRule 79 = .ok (.getfield 89, 3) := by decide +kernel
theorem dX5_ofRule_82 : decode cX5_ofRule 82 = .ok (.ireturn, 1) := by decide +kernel
theorem dX5_ofRule_83 : decode cX5_ofRule 83 = .ok (.aload_n 3, 1) := by decide +kernel
theorem dX5_ofRule_84 : decode cX5_ofRule 84 = .ok (.getfield 92, 3) := by decide +kernel
theorem dX5_ofRule_87 : decode cX5_ofRule 87 = .ok (.ireturn, 1) := by decide +kernel
theorem dX5_ofRule_88 : decode cX5_ofRule 88 = .ok (.aload_n 3, 1) := by decide +kernel
theorem dX5_ofRule_89 : decode cX5_ofRule 89 = .ok (.getfield 95, 3) := by decide +kernel
theorem dX5_ofRule_92 : decode cX5_ofRule 92 = .ok (.ireturn, 1) := by decide +kernel
theorem dX5_ofRule_93 : decode cX5_ofRule 93 = .ok (.aload_n 3, 1) := by decide +kernel
theorem dX5_ofRule_94 : decode cX5_ofRule 94 = .ok (.invokevirtual 98, 3) := by decide +kernel
theorem dX5_ofRule_97 : decode cX5_ofRule 97 = .ok (.ireturn, 1) := by decide +kernel
theorem dX5_ofRule_98 : decode cX5_ofRule 98 = .ok (.aload_n 0, 1) := by decide +kernel
theorem dX5_ofRule_99 : decode cX5_ofRule 99 = .ok (.getfield 12, 3) := by decide +kernel
theorem dX5_ofRule_102 : decode cX5_ofRule 102 = .ok (.iload_n 1, 1) := by decide +kernel
theorem dX5_ofRule_103 : decode cX5_ofRule 103 = .ok (.invokevirtual 102, 3) := by decide +kernel
theorem dX5_ofRule_106 : decode cX5_ofRule 106 = .ok (.ireturn, 1) := by decide +kernel
theorem dX5_ofRule_107 : decode cX5_ofRule 107 = .ok (.bipush (-2), 2) := by decide +kernel
theorem dX5_ofRule_109 : decode cX5_ofRule 109 = .ok (.ireturn, 1) := by decide +kernel
theorem dX5_number_0 : decode cX5_number 0 = .ok (.aload_n 0, 1) := by decide +kernel
theorem dX5_number_1 : decode cX5_number 1 = .ok (.getfield 12, 3) := by decide +kernel
theorem dX5_number_4 : decode cX5_number 4 = .ok (.iload_n 1, 1) := by decide +kernel
theorem dX5_number_5 : decode cX5_number 5 = .ok (.invokevirtual 74, 3) := by decide +kernel
theorem dX5_number_8 : decode cX5_number 8 = .ok (.ifCond .ne 5, 3) := by decide +kernel
theorem dX5_number_11 : decode cX5_number 11 = .ok (.iconst (-1), 1) := by decide +kernel
theorem dX5_number_12 : decode cX5_number 12 = .ok (.ireturn, 1) := by decide +kernel
theorem dX5_number_13 : decode cX5_number 13 = .ok (.iload_n 2, 1) := by decide +kernel
theorem dX5_number_14 : decode cX5_number 14 = .ok (.iconst 1, 1) := by decide +kernel
theorem dX5_number_15 : decode cX5_number 15 = .ok (.bipush 9, 2) := by decide +kernel
theorem dX5_number_17 : decode cX5_number 17 = .ok (.invokestatic 43, 3) := by decide +kernel
theorem dX5_number_20 : decode cX5_number 20 = .ok (.ifCond .ne 6, 3) := by decide +kernel
theorem dX5_number_23 : decode cX5_number 23 = .ok (.bipush (-2), 2) := by decide +kernel
theorem dX5_number_25 : decode cX5_number 25 = .ok (.ireturn, 1) := by decide +kernel
theorem dX5_number_26 : decode cX5_number 26 = .ok (.aload_n 0, 1) := by decide +kernel
theorem dX5_number_27 : decode cX5_number 27 = .ok (.getfield 12, 3) := by decide +kernel
theorem dX5_number_30 : decode cX5_number 30 = .ok (.getfield 77, 3) := by decide +kernel
theorem dX5_number_33 : decode cX5_number 33 = .ok (.iload_n 1, 1) := by decide +kernel
theorem dX5_number_34 : decode cX5_number 34 = .ok (.aaload, 1) := by decide +kernel
theorem dX5_number_35 : decode cX5_number 35 = .ok (.getfield 89, 3) := by decide +kernel
theorem dX5_number_38 : decode cX5_number 38 = .ok (.istore_n 3, 1) := by decide +kernel
theorem dX5_number_39 : decode cX5_number 39 = .ok (.aload_n 0, 1) := by decide +kernel
theorem dX5_number_40 : decode cX5_number 40 = .ok (.getfield 12, 3) := by decide +kernel
theorem dX5_number_43 : decode cX5_number 43 = .ok (.getfield 77, 3) := by decide +kernel
theorem dX5_number_46 : decode cX5_number 46 = .ok (.iload_n 1, 1) := by decide +kernel
theorem dX5_number_47 : decode cX5_number 47 = .ok (.aaload, 1) := by decide +kernel
theorem dX5_number_48 : decode cX5_number 48 = .ok (.iload_n 2, 1) := by decide +kernel
theorem dX5_number_49 : decode cX5_number 49 = .ok (.putfield 89, 3) := by decide +kernel
theorem dX5_number_52 : decode cX5_number 52 = .ok (.iload_n 3, 1) := by decide +kernel
theorem dX5_number_53 : decode cX5_number 53 = .ok (.ireturn, 1) := by decide +kernel
theorem dX5_insert_0 : decode cX5_insert 0 = .ok (.aload_n 0, 1) := by decide +kernel
theorem dX5_insert_1 : decode cX5_insert 1 = .ok (.getfield 12, 3) := by decide +kernel
theorem dX5_insert_4 : decode cX5_insert 4 = .ok (.getfield 71, 3) := by decide +kernel
theorem dX5_insert_7 : decode cX5_insert 7 = .ok (.ifCond .ne 6, 3) := by decide +kernel
theorem dX5_insert_10 : decode cX5_insert 10 = .ok (.bipush (-3), 2) := by decide +kernel
theorem dX5_insert_12 : decode cX5_insert 12 = .ok (.ireturn, 1) := by decide +kernel
theorem dX5_insert_13 : decode cX5_insert 13 = .ok (.iload_n 1, 1) := by decide +kernel
theorem dX5_insert_14 : decode cX5_insert 14 = .ok (.iconst 0, 1) := by decide +kernel
theorem dX5_insert_15 : decode cX5_insert 15 = .ok (.aload_n 0, 1) := by decide +kernel
theorem dX5_insert_16 : decode cX5_insert 16 = .ok (.getfield 12, 3) := by decide +kernel
theorem dX5_insert_19 : decode cX5_insert 19 = .ok (.getfield 71, 3) := by decide +kernel
theorem dX5_insert_22 : decode cX5_insert 22 = .ok (.invokestatic 43, 3) := by decide +kernel
theorem dX5_insert_25 : decode cX5_insert 25 = .ok (.ifCond .ne 6, 3) := by decide +kernel
theorem dX5_insert_28 : decode cX5_insert 28 = .ok (.bipush (-2), 2) := by decide +kernel
theorem dX5_insert_30 : decode cX5_insert 30 = .ok (.ireturn, 1) := by decide +kernel
theorem dX5_insert_31 : decode cX5_insert 31 = .ok (.iload_n 2, 1) := by decide +kernel
theorem dX5_insert_32 : decode cX5_insert 32 = .ok (.iconst 0, 1) := by decide +kernel
theorem dX5_insert_33 : decode cX5_insert 33 = .ok (.iconst 2, 1) := by decide +kernel
theorem dX5_insert_34 : decode cX5_insert 34 = .ok (.invokestatic 43, 3) := by decide +kernel
theorem dX5_insert_37 : decode cX5_insert 37 = .ok (.ifCond .eq 12, 3) := by decide +kernel
theorem dX5_insert_40 : decode cX5_insert 40 = .ok (.iload_n 3, 1) := by decide +kernel
theorem dX5_insert_41 : decode cX5_insert 41 = .ok (.iconst 0, 1) := by decide +kernel
theorem dX5_insert_42 : decode cX5_insert 42 = .ok (.iconst 2, 1) := by decide +kernel
theorem dX5_insert_43 : decode cX5_insert 43 = .ok (.invokestatic 43, 3) := by decide +kernel
theorem dX5_insert_46 : decode cX5_insert 46 = .ok (.ifCond .ne 6, 3) := by decide +kernel
theorem dX5_insert_49 : decode cX5_insert 49 = .ok (.bipush (-2), 2) := by decide +kernel
theorem dX5_insert_51 : decode cX5_insert 51 = .ok (.ireturn, 1) := by decide +kernel
theorem dX5_insert_52 : decode cX5_insert 52 = .ok (.iload 4, 2) := by decide +kernel
theorem dX5_insert_54 : decode cX5_insert 54 = .ok (.iconst 1, 1) := by decide +kernel
theorem dX5_insert_55 : decode cX5_insert 55 = .ok (.bipush 9, 2) := by decide +kernel
theorem dX5_insert_57 : decode cX5_insert 57 = .ok (.invokestatic 43, 3) := by decide +kernel
theorem dX5_insert_60 : decode cX5_insert 60 = .ok (.ifCond .ne 6, 3) := by decide +kernel
theorem dX5_insert_63 : decode cX5_insert 63 = .ok (.bipush (-2), 2) := by decide +kernel
theorem dX5_insert_65 : decode cX5_insert 65 = .ok (.ireturn, 1) := by decide +kernel
theorem dX5_insert_66 : decode cX5_insert 66 = .ok (.iload 5, 2) := by decide +kernel
theorem dX5_insert_68 : decode cX5_insert 68 = .ok (.iconst 0, 1) := by decide +kernel
theorem dX5_insert_69 : decode cX5_insert 69 = .ok (.bipush 25, 2) := by decide +kernel
theorem dX5_insert_71 : decode cX5_insert 71 = .ok (.invokestatic 43, 3) := by decide +kernel
theorem dX5_insert_74 : decode cX5_insert 74 = .ok (.ifCond .eq 15, 3) := by decide +kernel
theorem dX5_insert_77 : decode cX5_insert 77 = .ok (.iload 6, 2) := by decide +kernel
theorem dX5_insert_79 : decode cX5_insert 79 = .ok (.iload 5, 2) := by decide +kernel
theorem dX5_insert_81 : decode cX5_insert 81 = .ok (.bipush 25, 2) := by decide +kernel
theorem dX5_insert_83 : decode cX5_insert 83 = .ok (.invokestatic 43, 3) := by decide +kernel
theorem dX5_insert_86 : decode cX5_insert 86 = .ok (.ifCond .ne 6, 3) := by decide +kernel
theorem dX5_insert_89 : decode cX5_insert 89 = .ok (.bipush (-2), 2) := by decide +kernel
theorem dX5_insert_91 : decode cX5_insert 91 = .ok (.ireturn, 1) := by decide +kernel
theorem dX5_insert_92 : decode cX5_insert 92 = .ok (.aload_n 0, 1) := by decide +kernel
theorem dX5_insert_93 : decode cX5_insert 93 = .ok (.getfield 12, 3) := by decide +kernel
theorem dX5_insert_96 : decode cX5_insert 96 = .ok (.getfield 71, 3) := by decide +kernel
theorem dX5_insert_99 : decode cX5_insert 99 = .ok (.bipush 7, 2) := by decide +kernel
theorem dX5_insert_101 : decode cX5_insert 101 = .ok (.if_icmp .lt 6, 3) := by decide +kernel
theorem dX5_insert_104 : decode cX5_insert 104 = .ok (.bipush (-4), 2) := by decide +kernel
theorem dX5_insert_106 : decode cX5_insert 106 = .ok (.ireturn, 1) := by decide +kernel
theorem dX5_insert_107 : decode cX5_insert 107 = .ok (.aload_n 0, 1) := by decide +kernel
theorem dX5_insert_108 : decode cX5_insert 108 = .ok (.getfield 12, 3) := by decide +kernel
theorem dX5_insert_111 : decode cX5_insert 111 = .ok (.iload_n 1, 1) := by decide +kernel
theorem dX5_insert_112 : decode cX5_insert 112 = .ok (.invokevirtual 105, 3) := by decide +kernel
theorem dX5_insert_115 : decode cX5_insert 115 = .ok (.aload_n 0, 1) := by decide +kernel
theorem dX5_insert_116 : decode cX5_insert 116 = .ok (.getfield 12, 3) := by decide +kernel
theorem dX5_insert_119 : decode cX5_insert 119 = .ok (.getfield 77, 3) := by decide +kernel
theorem dX5_insert_122 : decode cX5_insert 122 = .ok (.iload_n 1, 1) := by decide +kernel
theorem dX5_insert_123 : decode cX5_insert 123 = .ok (.aaload, 1) := by decide +kernel
theorem dX5_insert_124 : decode cX5_insert 124 = .ok (.iload_n 2, 1) := by decide +kernel
theorem dX5_insert_125 : decode cX5_insert 125 = .ok (.iload_n 3, 1) := by decide +kernel
theorem dX5_insert_126 : decode cX5_insert 126 = .ok (.iload 4, 2) := by decide +kernel
theorem dX5_insert_128 : decode cX5_insert 128 = .ok (.iload 5, 2) := by decide +kernel
theorem dX5_insert_130 : decode cX5_insert 130 = .ok (.iload 6, 2) := by decide +kernel
theorem dX5_insert_132 : decode cX5_insert 132 = .ok (.invokevirtual 109, 3) := by decide +kernel
theorem dX5_insert_135 : decode cX5_insert 135 = .ok (.aload_n 0, 1) := by decide +kernel
theorem dX5_insert_136 : decode cX5_insert 136 = .ok (.getfield 12, 3) := by decide +kernel
theorem dX5_insert_139 : decode cX5_insert 139 = .ok (.getfield 71, 3) := by decide +kernel
theorem dX5_insert_142 : decode cX5_insert 142 = .ok (.ireturn, 1) := by decide +kernel
theorem dX5_remove_0 : decode cX5_remove 0 = .ok (.aload_n 0, 1) := by decide +kernel
theorem dX5_remove_1 : decode cX5_remove 1 = .ok (.getfield 12, 3) := by decide +kernel
theorem dX5_remove_4 : decode cX5_remove 4 = .ok (.iload_n 1, 1) := by decide +kernel
theorem dX5_remove_5 : decode cX5_remove 5 = .ok (.invokevirtual 74, 3) := by decide +kernel
theorem dX5_remove_8 : decode cX5_remove 8 = .ok (.ifCond .ne 5, 3) := by decide +kernel
theorem dX5_remove_11 : decode cX5_remove 11 = .ok (.iconst (-1), 1) := by decide +kernel
theorem dX5_remove_12 : decode cX5_remove 12 = .ok (.ireturn, 1) := by decide +kernel
theorem dX5_remove_13 : decode cX5_remove 13 = .ok (.aload_n 0, 1) := by decide +kernel
theorem dX5_remove_14 : decode cX5_remove 14 = .ok (.getfield 12, 3) := by decide +kernel
theorem dX5_remove_17 : decode cX5_remove 17 = .ok (.getfield 71, 3) := by decide +kernel
theorem dX5_remove_20 : decode cX5_remove 20 = .ok (.iconst 1, 1) := by decide +kernel
theorem dX5_remove_21 : decode cX5_remove 21 = .ok (.if_icmp .ne 6, 3) := by decide +kernel
theorem dX5_remove_24 : decode cX5_remove 24 = .ok (.bipush (-3), 2) := by decide +kernel
theorem dX5_remove_26 : decode cX5_remove 26 = .ok (.ireturn, 1) := by decide +kernel
theorem dX5_remove_27 : decode cX5_remove 27 = .ok (.aload_n 0, 1) := by decide +kernel
theorem dX5_remove_28 : decode cX5_remove 28 = .ok (.getfield 12, 3) := by decide +kernel
theorem dX5_remove_31 : decode cX5_remove 31 = .ok (.iload_n 1, 1) := by decide +kernel
theorem dX5_remove_32 : decode cX5_remove 32 = .ok (.invokevirtual 113, 3) := by decide +kernel
theorem dX5_remove_35 : decode cX5_remove 35 = .ok (.aload_n 0, 1) := by decide +kernel
theorem dX5_remove_36 : decode cX5_remove 36 = .ok (.getfield 12, 3) := by decide +kernel
theorem dX5_remove_39 : decode cX5_remove 39 = .ok (.getfield 71, 3) := by decide +kernel
theorem dX5_remove_42 : decode cX5_remove 42 = .ok (.ireturn, 1) := by decide +kernel
theorem dX5_swap_0 : decode cX5_swap 0 = .ok (.aload_n 0, 1) := by decide +kernel
theorem dX5_swap_1 : decode cX5_swap 1 = .ok (.getfield 12, 3) := by decide +kernel
theorem dX5_swap_4 : decode cX5_swap 4 = .ok (.iload_n 1, 1) := by decide +kernel
theorem dX5_swap_5 : decode cX5_swap 5 = .ok (.invokevirtual 116, 3) := by decide +kernel
theorem dX5_swap_8 : decode cX5_swap 8 = .ok (.ifCond .ne 5, 3) := by decide +kernel
theorem dX5_swap_11 : decode cX5_swap 11 = .ok (.iconst (-1), 1) := by decide +kernel
theorem dX5_swap_12 : decode cX5_swap 12 = .ok (.ireturn, 1) := by decide +kernel
theorem dX5_swap_13 : decode cX5_swap 13 = .ok (.aload_n 0, 1) := by decide +kernel
theorem dX5_swap_14 : decode cX5_swap 14 = .ok (.getfield 12, 3) := by decide +kernel
theorem dX5_swap_17 : decode cX5_swap 17 = .ok (.iload_n 1, 1) := by decide +kernel
theorem dX5_swap_18 : decode cX5_swap 18 = .ok (.invokevirtual 119, 3) := by decide +kernel
theorem dX5_swap_21 : decode cX5_swap 21 = .ok (.iload_n 1, 1) := by decide +kernel
theorem dX5_swap_22 : decode cX5_swap 22 = .ok (.ireturn, 1) := by decide +kernel
theorem dX5_winner_0 : decode cX5_winner 0 = .ok (.iload_n 1, 1) := by decide +kernel
theorem dX5_winner_1 : decode cX5_winner 1 = .ok (.invokestatic 122, 3) := by decide +kernel
theorem dX5_winner_4 : decode cX5_winner 4 = .ok (.ifCond .ne 6, 3) := by decide +kernel
theorem dX5_winner_7 : decode cX5_winner 7 = .ok (.bipush (-2), 2) := by decide +kernel
theorem dX5_winner_9 : decode cX5_winner 9 = .ok (.ireturn, 1) := by decide +kernel
theorem dX5_winner_10 : decode cX5_winner 10 = .ok (.aload_n 0, 1) := by decide +kernel
theorem dX5_winner_11 : decode cX5_winner 11 = .ok (.getfield 12, 3) := by decide +kernel
theorem dX5_winner_14 : decode cX5_winner 14 = .ok (.getfield 71, 3) := by decide +kernel
theorem dX5_winner_17 : decode cX5_winner 17 = .ok (.ifCond .ne 6, 3) := by decide +kernel
theorem dX5_winner_20 : decode cX5_winner 20 = .ok (.bipush (-3), 2) := by decide +kernel
theorem dX5_winner_22 : decode cX5_winner 22 = .ok (.ireturn, 1) := by decide +kernel
theorem dX5_winner_23 : decode cX5_winner 23 = .ok (.aload_n 0, 1) := by decide +kernel
theorem dX5_winner_24 : decode cX5_winner 24 = .ok (.getfield 12, 3) := by decide +kernel
theorem dX5_winner_27 : decode cX5_winner 27 = .ok (.iload_n 1, 1) := by decide +kernel
theorem dX5_winner_28 : decode cX5_winner 28 = .ok (.invokevirtual 125, 3) := by decide +kernel
theorem dX5_winner_31 : decode cX5_winner 31 = .ok (.ireturn, 1) := by decide +kernel
theorem dX5_ask_0 : decode cX5_ask 0 = .ok (.iload_n 1, 1) := by decide +kernel
theorem dX5_ask_1 : decode cX5_ask 1 = .ok (.invokestatic 122, 3) := by decide +kernel
theorem dX5_ask_4 : decode cX5_ask 4 = .ok (.ifCond .ne 6, 3) := by decide +kernel
theorem dX5_ask_7 : decode cX5_ask 7 = .ok (.bipush (-2), 2) := by decide +kernel
theorem dX5_ask_9 : decode cX5_ask 9 = .ok (.ireturn, 1) := by decide +kernel
theorem dX5_ask_10 : decode cX5_ask 10 = .ok (.iload_n 2, 1) := by decide +kernel
theorem dX5_ask_11 : decode cX5_ask 11 = .ok (.iconst 0, 1) := by decide +kernel
theorem dX5_ask_12 : decode cX5_ask 12 = .ok (.iconst 1, 1) := by decide +kernel
theorem dX5_ask_13 : decode cX5_ask 13 = .ok (.invokestatic 43, 3) := by decide +kernel
theorem dX5_ask_16 : decode cX5_ask 16 = .ok (.ifCond .ne 17, 3) := by decide +kernel
theorem dX5_ask_19 : decode cX5_ask 19 = .ok (.iload_n 2, 1) := by decide +kernel
theorem dX5_ask_20 : decode cX5_ask 20 = .ok (.bipush 10, 2) := by decide +kernel
theorem dX5_ask_22 : decode cX5_ask 22 = .ok (.bipush 17, 2) := by decide +kernel
theorem dX5_ask_24 : decode cX5_ask 24 = .ok (.invokestatic 43, 3) := by decide +kernel
theorem dX5_ask_27 : decode cX5_ask 27 = .ok (.ifCond .ne 6, 3) := by decide +kernel
theorem dX5_ask_30 : decode cX5_ask 30 = .ok (.bipush (-2), 2) := by decide +kernel
theorem dX5_ask_32 : decode cX5_ask 32 = .ok (.ireturn, 1) := by decide +kernel
theorem dX5_ask_33 : decode cX5_ask 33 = .ok (.aload_n 0, 1) := by decide +kernel
theorem dX5_ask_34 : decode cX5_ask 34 = .ok (.getfield 12, 3) := by decide +kernel
theorem dX5_ask_37 : decode cX5_ask 37 = .ok (.getfield 71, 3) := by decide +kernel
theorem dX5_ask_40 : decode cX5_ask 40 = .ok (.ifCond .ne 6, 3) := by decide +kernel
theorem dX5_ask_43 : decode cX5_ask 43 = .ok (.bipush (-3), 2) := by decide +kernel
theorem dX5_ask_45 : decode cX5_ask 45 = .ok (.ireturn, 1) := by decide +kernel
theorem dX5_ask_46 : decode cX5_ask 46 = .ok (.aload_n 0, 1) := by decide +kernel
theorem dX5_ask_47 : decode cX5_ask 47 = .ok (.getfield 12, 3) := by decide +kernel
theorem dX5_ask_50 : decode cX5_ask 50 = .ok (.getfield 128, 3) := by decide +kernel
theorem dX5_ask_53 : decode cX5_ask 53 = .ok (.astore_n 3, 1) := by decide +kernel
theorem dX5_ask_54 : decode cX5_ask 54 = .ok (.aload_n 3, 1) := by decide +kernel
theorem dX5_ask_55 : decode cX5_ask 55 = .ok (.aload_n 0, 1) := by decide +kernel
theorem dX5_ask_56 : decode cX5_ask 56 = .ok (.getfield 12, 3) := by decide +kernel
theorem dX5_ask_59 : decode cX5_ask 59 = .ok (.iload_n 1, 1) := by decide +kernel
theorem dX5_ask_60 : decode cX5_ask 60 = .ok (.iconst (-1), 1) := by decide +kernel
theorem dX5_ask_61 : decode cX5_ask 61 = .ok (.invokevirtual 132, 3) := by decide +kernel
theorem dX5_ask_64 : decode cX5_ask 64 = .ok (.iload_n 2, 1) := by decide +kernel
theorem dX5_ask_65 : decode cX5_ask 65 = .ok (.ifCond .ne 8, 3) := by decide +kernel
theorem dX5_ask_68 : decode cX5_ask 68 = .ok (.aload_n 3, 1) := by decide +kernel
theorem dX5_ask_69 : decode cX5_ask 69 = .ok (.getfield 138, 3) := by decide +kernel
theorem dX5_ask_72 : decode cX5_ask 72 = .ok (.ireturn, 1) := by decide +kernel
theorem dX5_ask_73 : decode cX5_ask 73 = .ok (.iload_n 2, 1) := by decide +kernel
theorem dX5_ask_74 : decode cX5_ask 74 = .ok (.iconst 1, 1) := by decide +kernel
theorem dX5_ask_75 : decode cX5_ask 75 = .ok (.if_icmp .ne 8, 3) := by decide +kernel
theorem dX5_ask_78 : decode cX5_ask 78 = .ok (.aload_n 3, 1) := by decide +kernel
theorem dX5_ask_79 : decode cX5_ask 79 = .ok (.getfield 141, 3) := by decide +kernel
theorem dX5_ask_82 : decode cX5_ask 82 = .ok (.ireturn, 1) := by decide +kernel
theorem dX5_ask_83 : decode cX5_ask 83 = .ok (.aload_n 3, 1) := by decide +kernel
theorem dX5_ask_84 : decode cX5_ask 84 = .ok (.iload_n 2, 1) := by decide +kernel
theorem dX5_ask_85 : decode cX5_ask 85 = .ok (.bipush 10, 2) := by decide +kernel
theorem dX5_ask_87 : decode cX5_ask 87 = .ok (.isub, 1) := by decide +kernel
theorem dX5_ask_88 : decode cX5_ask 88 = .ok (.invokevirtual 144, 3) := by decide +kernel
theorem dX5_ask_91 : decode cX5_ask 91 = .ok (.ireturn, 1) := by decide +kernel
theorem dX5_day_0 : decode cX5_day 0 = .ok (.aload_n 0, 1) := by decide +kernel
theorem dX5_day_1 : decode cX5_day 1 = .ok (.iconst 0, 1) := by decide +kernel
theorem dX5_day_2 : decode cX5_day 2 = .ok (.putfield 35, 3) := by decide +kernel
theorem dX5_day_5 : decode cX5_day 5 = .ok (.iload_n 1, 1) := by decide +kernel
theorem dX5_day_6 : decode cX5_day 6 = .ok (.invokestatic 39, 3) := by decide +kernel
theorem dX5_day_9 : decode cX5_day 9 = .ok (.ifCond .ne 5, 3) := by decide +kernel
theorem dX5_day_12 : decode cX5_day 12 = .ok (.iconst (-1), 1) := by decide +kernel
theorem dX5_day_13 : decode cX5_day 13 = .ok (.ireturn, 1) := by decide +kernel
theorem dX5_day_14 : decode cX5_day 14 = .ok (.iload_n 2, 1) := by decide +kernel
theorem dX5_day_15 : decode cX5_day 15 = .ok (.iconst 0, 1) := by decide +kernel
theorem dX5_day_16 : decode cX5_day 16 = .ok (.iconst 2, 1) := by decide +kernel
theorem dX5_day_17 : decode cX5_day 17 = .ok (.invokestatic 43, 3) := by decide +kernel
theorem dX5_day_20 : decode cX5_day 20 = .ok (.ifCond .eq 14, 3) := by decide +kernel
theorem dX5_day_23 : decode cX5_day 23 = .ok (.iload 4, 2) := by decide +kernel
theorem dX5_day_25 : decode cX5_day 25 = .ok (.iconst 0, 1) := by decide +kernel
theorem dX5_day_26 : decode cX5_day 26 = .ok (.bipush 20, 2) := by decide +kernel
theorem dX5_day_28 : decode cX5_day 28 = .ok (.invokestatic 43, 3) := by decide +kernel
theorem dX5_day_31 : decode cX5_day 31 = .ok (.ifCond .ne 6, 3) := by decide +kernel
theorem dX5_day_34 : decode cX5_day 34 = .ok (.bipush (-2), 2) := by decide +kernel
theorem dX5_day_36 : decode cX5_day 36 = .ok (.ireturn, 1) := by decide +kernel
theorem dX5_day_37 : decode cX5_day 37 = .ok (.iload 5, 2) := by decide +kernel
theorem dX5_day_39 : decode cX5_day 39 = .ok (.iconst 0, 1) := by decide +kernel
theorem dX5_day_40 : decode cX5_day 40 = .ok (.iconst 4, 1) := by decide +kernel
theorem dX5_day_41 : decode cX5_day 41 = .ok (.invokestatic 43, 3) := by decide +kernel
theorem dX5_day_44 : decode cX5_day 44 = .ok (.ifCond .ne 18, 3) := by decide +kernel
theorem dX5_day_47 : decode cX5_day 47 = .ok (.iload 5, 2) := by decide +kernel
theorem dX5_day_49 : decode cX5_day 49 = .ok (.bipush 10, 2) := by decide +kernel
theorem dX5_day_51 : decode cX5_day 51 = .ok (.bipush 35, 2) := by decide +kernel
theorem dX5_day_53 : decode cX5_day 53 = .ok (.invokestatic 43, 3) := by decide +kernel
theorem dX5_day_56 : decode cX5_day 56 = .ok (.ifCond .ne 6, 3) := by decide +kernel
theorem dX5_day_59 : decode cX5_day 59 = .ok (.bipush (-2), 2) := by decide +kernel
theorem dX5_day_61 : decode cX5_day 61 = .ok (.ireturn, 1) := by decide +kernel
theorem dX5_day_62 : decode cX5_day 62 = .ok (.aload_n 0, 1) := by decide +kernel
theorem dX5_day_63 : decode cX5_day 63 = .ok (.getfield 23, 3) := by decide +kernel
theorem dX5_day_66 : decode cX5_day 66 = .ok (.iload_n 1, 1) := by decide +kernel
theorem dX5_day_67 : decode cX5_day 67 = .ok (.aaload, 1) := by decide +kernel
theorem dX5_day_68 : decode cX5_day 68 = .ok (.astore 6, 2) := by decide +kernel
theorem dX5_day_70 : decode cX5_day 70 = .ok (.aload 6, 2) := by decide +kernel
theorem dX5_day_72 : decode cX5_day 72 = .ok (.iload_n 2, 1) := by decide +kernel
theorem dX5_day_73 : decode cX5_day 73 = .ok (.invokevirtual 47, 3) := by decide +kernel
theorem dX5_day_76 : decode cX5_day 76 = .ok (.istore 7, 2) := by decide +kernel
theorem dX5_day_78 : decode cX5_day 78 = .ok (.iload 7, 2) := by decide +kernel
theorem dX5_day_80 : decode cX5_day 80 = .ok (.ifCond .eq 10, 3) := by decide +kernel
theorem dX5_day_83 : decode cX5_day 83 = .ok (.aload_n 0, 1) := by decide +kernel
theorem dX5_day_84 : decode cX5_day 84 = .ok (.iload 7, 2) := by decide +kernel
theorem dX5_day_86 : decode cX5_day 86 = .ok (.invokevirtual 51, 3) := by decide +kernel
theorem dX5_day_89 : decode cX5_day 89 = .ok (.ireturn, 1) := by decide +kernel
theorem dX5_day_90 : decode cX5_day 90 = .ok (.aload 6, 2) := by decide +kernel
theorem dX5_day_92 : decode cX5_day 92 = .ok (.iload_n 3, 1) := by decide +kernel
theorem dX5_day_93 : decode cX5_day 93 = .ok (.iconst 2, 1) := by decide +kernel
theorem dX5_day_94 : decode cX5_day 94 = .ok (.iload 4, 2) := by decide +kernel
theorem dX5_day_96 : decode cX5_day 96 = .ok (.imul, 1) := by decide +kernel
theorem dX5_day_97 : decode cX5_day 97 = .ok (.invokevirtual 54, 3) := by decide +kernel
theorem dX5_day_100 : decode cX5_day 100 = .ok (.ifCond .ne 9, 3) := by decide +kernel
theorem dX5_day_103 : decode cX5_day 103 = .ok (.aload_n 0, 1) := by decide +kernel
theorem dX5_day_104 : decode cX5_day 104 = .ok (.iconst 3, 1) := by decide +kernel
theorem dX5_day_105 : decode cX5_day 105 = .ok (.invokevirtual 51, 3) := by decide +kernel
theorem dX5_day_108 : decode cX5_day 108 = .ok (.ireturn, 1) := by decide +kernel
theorem dX5_day_109 : decode cX5_day 109 = .ok (.aload_n 0, 1) := by decide +kernel
theorem dX5_day_110 : decode cX5_day 110 = .ok (.getfield 12, 3) := by decide +kernel
theorem dX5_day_113 : decode cX5_day 113 = .ok (.getfield 71, 3) := by decide +kernel
theorem dX5_day_116 : decode cX5_day 116 = .ok (.ifCond .ne 6, 3) := by decide +kernel
theorem dX5_day_119 : decode cX5_day 119 = .ok (.bipush (-3), 2) := by decide +kernel
theorem dX5_day_121 : decode cX5_day 121 = .ok (.ireturn, 1) := by decide +kernel
theorem dX5_day_122 : decode cX5_day 122 = .ok (.aload 6, 2) := by decide +kernel
theorem dX5_day_124 : decode cX5_day 124 = .ok (.iload_n 3, 1) := by decide +kernel
theorem dX5_day_125 : decode cX5_day 125 = .ok (.iload 4, 2) := by decide +kernel
theorem dX5_day_127 : decode cX5_day 127 = .ok (.invokestatic 147, 3) := by decide +kernel
theorem dX5_day_130 : decode cX5_day 130 = .ok (.ifCond .ne 6, 3) := by decide +kernel
theorem dX5_day_133 : decode cX5_day 133 = .ok (.bipush (-2), 2) := by decide +kernel
theorem dX5_day_135 : decode cX5_day 135 = .ok (.ireturn, 1) := by decide +kernel
theorem dX5_day_136 : decode cX5_day 136 = .ok (.aload_n 0, 1) := by decide +kernel
theorem dX5_day_137 : decode cX5_day 137 = .ok (.getfield 18, 3) := by decide +kernel
theorem dX5_day_140 : decode cX5_day 140 = .ok (.aload_n 0, 1) := by decide +kernel
theorem dX5_day_141 : decode cX5_day 141 = .ok (.getfield 12, 3) := by decide +kernel
theorem dX5_day_144 : decode cX5_day 144 = .ok (.invokevirtual 151, 3) := by decide +kernel
theorem dX5_day_147 : decode cX5_day 147 = .ok (.aload_n 0, 1) := by decide +kernel
theorem dX5_day_148 : decode cX5_day 148 = .ok (.aload 6, 2) := by decide +kernel
theorem dX5_day_150 : decode cX5_day 150 = .ok (.iload_n 3, 1) := by decide +kernel
theorem dX5_day_151 : decode cX5_day 151 = .ok (.iload 4, 2) := by decide +kernel
theorem dX5_day_153 : decode cX5_day 153 = .ok (.invokevirtual 155, 3) := by decide +kernel
theorem dX5_day_156 : decode cX5_day 156 = .ok (.istore 8, 2) := by decide +kernel
theorem dX5_day_158 : decode cX5_day 158 = .ok (.iload 5, 2) := by decide +kernel
theorem dX5_day_160 : decode cX5_day 160 = .ok (.iconst 1, 1) := by decide +kernel
theorem dX5_day_161 : decode cX5_day 161 = .ok (.if_icmp .ne 6, 3) := by decide +kernel
theorem dX5_day_164 : decode cX5_day 164 = .ok (.iload 8, 2) := by decide +kernel
theorem dX5_day_166 : decode cX5_day 166 = .ok (.ireturn, 1) := by decide +kernel
theorem dX5_day_167 : decode cX5_day 167 = .ok (.iload 8, 2) := by decide +kernel
theorem dX5_day_169 : decode cX5_day 169 = .ok (.bipush (-9), 2) := by decide +kernel
theorem dX5_day_171 : decode cX5_day 171 = .ok (.if_icmp .eq 9, 3) := by decide +kernel
theorem dX5_day_174 : decode cX5_day 174 = .ok (.bipush (-100), 2) := by decide +kernel
theorem dX5_day_176 : decode cX5_day 176 = .ok (.iload 8, 2) := by decide +kernel
theorem dX5_day_178 : decode cX5_day 178 = .ok (.isub, 1) := by decide +kernel
theorem dX5_day_179 : decode cX5_day 179 = .ok (.ireturn, 1) := by decide +kernel
theorem dX5_day_180 : decode cX5_day 180 = .ok (.aload_n 0, 1) := by decide +kernel
theorem dX5_day_181 : decode cX5_day 181 = .ok (.iload 5, 2) := by decide +kernel
theorem dX5_day_183 : decode cX5_day 183 = .ok (.invokevirtual 158, 3) := by decide +kernel
theorem dX5_day_186 : decode cX5_day 186 = .ok (.ireturn, 1) := by decide +kernel
theorem dX5_ofRun_0 : decode cX5_ofRun 0 = .ok (.iload_n 1, 1) := by decide +kernel
theorem dX5_ofRun_1 : decode cX5_ofRun 1 = .ok (.iconst 0, 1) := by decide +kernel
theorem dX5_ofRun_2 : decode cX5_ofRun 2 = .ok (.aload_n 0, 1) := by decide +kernel
theorem dX5_ofRun_3 : decode cX5_ofRun 3 = .ok (.invokevirtual 161, 3) := by decide +kernel
theorem dX5_ofRun_6 : decode cX5_ofRun 6 = .ok (.iconst 1, 1) := by decide +kernel
theorem dX5_ofRun_7 : decode cX5_ofRun 7 = .ok (.isub, 1) := by decide +kernel
theorem dX5_ofRun_8 : decode cX5_ofRun 8 = .ok (.invokestatic 43, 3) := by decide +kernel
theorem dX5_ofRun_11 : decode cX5_ofRun 11 = .ok (.ifCond .ne 5, 3) := by decide +kernel
theorem dX5_ofRun_14 : decode cX5_ofRun 14 = .ok (.iconst (-1), 1) := by decide +kernel
theorem dX5_ofRun_15 : decode cX5_ofRun 15 = .ok (.ireturn, 1) := by decide +kernel
theorem dX5_ofRun_16 : decode cX5_ofRun 16 = .ok (.aload_n 0, 1) := by decide +kernel
theorem dX5_ofRun_17 : decode cX5_ofRun 17 = .ok (.getfield 12, 3) := by decide +kernel
theorem dX5_ofRun_20 : decode cX5_ofRun 20 = .ok (.iload_n 1, 1) := by decide +kernel
theorem dX5_ofRun_21 : decode cX5_ofRun 21 = .ok (.invokevirtual 164, 3) := by decide +kernel
theorem dX5_ofRun_24 : decode cX5_ofRun 24 = .ok (.istore_n 3, 1) := by decide +kernel
theorem dX5_ofRun_25 : decode cX5_ofRun 25 = .ok (.iload_n 2, 1) := by decide +kernel
theorem dX5_ofRun_26 : decode cX5_ofRun 26 = .ok (.tableswitch 50 0 2 #[26, 28, 41], 26) := by decide +kernel
theorem dX5_ofRun_52 : decode cX5_ofRun 52 = .ok (.iload_n 3, 1) := by decide +kernel
theorem dX5_ofRun_53 : decode cX5_ofRun 53 = .ok (.ireturn, 1) := by decide +kernel
theorem dX5_ofRun_54 : decode cX5_ofRun 54 = .ok (.aload_n 0, 1) := by decide +kernel
theorem dX5_ofRun_55 : decode cX5_ofRun 55 = .ok (.getfield 12, 3) := by decide +kernel
theorem dX5_ofRun_58 : decode cX5_ofRun 58 = .ok (.iload_n 1, 1) := by decide +kernel
theorem dX5_ofRun_59 : decode cX5_ofRun 59 = .ok (.iconst 1, 1) := by decide +kernel
theorem dX5_ofRun_60 : decode cX5_ofRun 60 = .ok (.iadd, 1) := by decide +kernel
theorem dX5_ofRun_61 : decode cX5_ofRun 61 = .ok (.invokevirtual 164, 3) := by decide +kernel
theorem dX5_ofRun_64 : decode cX5_ofRun 64 = .ok (.iload_n 3, 1) := by decide +kernel
theorem dX5_ofRun_65 : decode cX5_ofRun 65 = .ok (.isub, 1) := by decide +kernel
theorem dX5_ofRun_66 : decode cX5_ofRun 66 = .ok (.ireturn, 1) := by decide +kernel
theorem dX5_ofRun_67 : decode cX5_ofRun 67 = .ok (.aload_n 0, 1) := by decide +kernel
theorem dX5_ofRun_68 : decode cX5_ofRun 68 = .ok (.getfield 12, 3) := by decide +kernel
theorem dX5_ofRun_71 : decode cX5_ofRun 71 = .ok (.iload_n 3, 1) := by decide +kernel
theorem dX5_ofRun_72 : decode cX5_ofRun 72 = .ok (.invokevirtual 125, 3) := by decide +kernel
theorem dX5_ofRun_75 : decode cX5_ofRun 75 = .ok (.ireturn, 1) := by decide +kernel
theorem dX5_ofRun_76 : decode cX5_ofRun 76 = .ok (.bipush (-2), 2) := by decide +kernel
theorem dX5_ofRun_78 : decode cX5_ofRun 78 = .ok (.ireturn, 1) := by decide +kernel
theorem dX5_whole_0 : decode cX5_whole 0 = .ok (.iload_n 1, 1) := by decide +kernel
theorem dX5_whole_1 : decode cX5_whole 1 = .ok (.iconst 0, 1) := by decide +kernel
theorem dX5_whole_2 : decode cX5_whole 2 = .ok (.iconst 4, 1) := by decide +kernel
theorem dX5_whole_3 : decode cX5_whole 3 = .ok (.invokestatic 43, 3) := by decide +kernel
theorem dX5_whole_6 : decode cX5_whole 6 = .ok (.ifCond .ne 6, 3) := by decide +kernel
theorem dX5_whole_9 : decode cX5_whole 9 = .ok (.bipush (-2), 2) := by decide +kernel
theorem dX5_whole_11 : decode cX5_whole 11 = .ok (.ireturn, 1) := by decide +kernel
theorem dX5_whole_12 : decode cX5_whole 12 = .ok (.aload_n 0, 1) := by decide +kernel
theorem dX5_whole_13 : decode cX5_whole 13 = .ok (.getfield 12, 3) := by decide +kernel
theorem dX5_whole_16 : decode cX5_whole 16 = .ok (.getfield 71, 3) := by decide +kernel
theorem dX5_whole_19 : decode cX5_whole 19 = .ok (.ifCond .ne 6, 3) := by decide +kernel
theorem dX5_whole_22 : decode cX5_whole 22 = .ok (.bipush (-3), 2) := by decide +kernel
theorem dX5_whole_24 : decode cX5_whole 24 = .ok (.ireturn, 1) := by decide +kernel
theorem dX5_whole_25 : decode cX5_whole 25 = .ok (.iload_n 1, 1) := by decide +kernel
theorem dX5_whole_26 : decode cX5_whole 26 = .ok (.tableswitch 62 0 3 #[30, 38, 46, 54], 30) := by decide +kernel
theorem dX5_whole_56 : decode cX5_whole 56 = .ok (.aload_n 0, 1) := by decide +kernel
theorem dX5_whole_57 : decode cX5_whole 57 = .ok (.getfield 12, 3) := by decide +kernel
theorem dX5_whole_60 : decode cX5_whole 60 = .ok (.invokevirtual 167, 3) := by decide +kernel
theorem dX5_whole_63 : decode cX5_whole 63 = .ok (.ireturn, 1) := by decide +kernel
theorem dX5_whole_64 : decode cX5_whole 64 = .ok (.aload_n 0, 1) := by decide +kernel
theorem dX5_whole_65 : decode cX5_whole 65 = .ok (.getfield 12, 3) := by decide +kernel
theorem dX5_whole_68 : decode cX5_whole 68 = .ok (.invokevirtual 170, 3) := by decide +kernel
theorem dX5_whole_71 : decode cX5_whole 71 = .ok (.ireturn, 1) := by decide +kernel
theorem dX5_whole_72 : decode cX5_whole 72 = .ok (.aload_n 0, 1) := by decide +kernel
theorem dX5_whole_73 : decode cX5_whole 73 = .ok (.getfield 12, 3) := by decide +kernel
theorem dX5_whole_76 : decode cX5_whole 76 = .ok (.invokevirtual 173, 3) := by decide +kernel
theorem dX5_whole_79 : decode cX5_whole 79 = .ok (.ireturn, 1) := by decide +kernel
theorem dX5_whole_80 : decode cX5_whole 80 = .ok (.aload_n 0, 1) := by decide +kernel
theorem dX5_whole_81 : decode cX5_whole 81 = .ok (.getfield 12, 3) := by decide +kernel
theorem dX5_whole_84 : decode cX5_whole 84 = .ok (.invokevirtual 176, 3) := by decide +kernel
theorem dX5_whole_87 : decode cX5_whole 87 = .ok (.ireturn, 1) := by decide +kernel
theorem dX5_whole_88 : decode cX5_whole 88 = .ok (.aload_n 0, 1) := by decide +kernel
theorem dX5_whole_89 : decode cX5_whole 89 = .ok (.getfield 12, 3) := by decide +kernel
theorem dX5_whole_92 : decode cX5_whole 92 = .ok (.invokevirtual 179, 3) := by decide +kernel
theorem dX5_whole_95 : decode cX5_whole 95 = .ok (.ireturn, 1) := by decide +kernel
theorem dX5_reading_0 : decode cX5_reading 0 = .ok (.aload_n 0, 1) := by decide +kernel
theorem dX5_reading_1 : decode cX5_reading 1 = .ok (.getfield 12, 3) := by decide +kernel
theorem dX5_reading_4 : decode cX5_reading 4 = .ok (.getfield 71, 3) := by decide +kernel
theorem dX5_reading_7 : decode cX5_reading 7 = .ok (.ifCond .ne 6, 3) := by decide +kernel
theorem dX5_reading_10 : decode cX5_reading 10 = .ok (.bipush (-3), 2) := by decide +kernel
theorem dX5_reading_12 : decode cX5_reading 12 = .ok (.ireturn, 1) := by decide +kernel
theorem dX5_reading_13 : decode cX5_reading 13 = .ok (.iload_n 1, 1) := by decide +kernel
theorem dX5_reading_14 : decode cX5_reading 14 = .ok (.invokestatic 122, 3) := by decide +kernel
theorem dX5_reading_17 : decode cX5_reading 17 = .ok (.ifCond .ne 6, 3) := by decide +kernel
theorem dX5_reading_20 : decode cX5_reading 20 = .ok (.bipush (-2), 2) := by decide +kernel
theorem dX5_reading_22 : decode cX5_reading 22 = .ok (.ireturn, 1) := by decide +kernel
theorem dX5_reading_23 : decode cX5_reading 23 = .ok (.iload_n 2, 1) := by decide +kernel
theorem dX5_reading_24 : decode cX5_reading 24 = .ok (.iconst 0, 1) := by decide +kernel
theorem dX5_reading_25 : decode cX5_reading 25 = .ok (.sipush 200, 3) := by decide +kernel
theorem dX5_reading_28 : decode cX5_reading 28 = .ok (.invokestatic 43, 3) := by decide +kernel
theorem dX5_reading_31 : decode cX5_reading 31 = .ok (.ifCond .ne 12, 3) := by decide +kernel
theorem dX5_reading_34 : decode cX5_reading 34 = .ok (.iload_n 2, 1) := by decide +kernel
theorem dX5_reading_35 : decode cX5_reading 35 = .ok (.bipush (-9), 2) := by decide +kernel
theorem dX5_reading_37 : decode cX5_reading 37 = .ok (.if_icmp .eq 6, 3) := by decide +kernel
theorem dX5_reading_40 : decode cX5_reading 40 = .ok (.bipush (-2), 2) := by decide +kernel
theorem dX5_reading_42 : decode cX5_reading 42 = .ok (.ireturn, 1) := by decide +kernel
theorem dX5_reading_43 : decode cX5_reading 43 = .ok (.aload_n 0, 1) := by decide +kernel
theorem dX5_reading_44 : decode cX5_reading 44 = .ok (.getfield 68, 3) := by decide +kernel
theorem dX5_reading_47 : decode cX5_reading 47 = .ok (.bipush 8, 2) := by decide +kernel
theorem dX5_reading_49 : decode cX5_reading 49 = .ok (.if_icmp .lt 6, 3) := by decide +kernel
theorem dX5_reading_52 : decode cX5_reading 52 = .ok (.bipush (-4), 2) := by decide +kernel
theorem dX5_reading_54 : decode cX5_reading 54 = .ok (.ireturn, 1) := by decide +kernel
theorem dX5_reading_55 : decode cX5_reading 55 = .ok (.aload_n 0, 1) := by decide +kernel
theorem dX5_reading_56 : decode cX5_reading 56 = .ok (.getfield 68, 3) := by decide +kernel
theorem dX5_reading_59 : decode cX5_reading 59 = .ok (.istore_n 3, 1) := by decide +kernel
theorem dX5_reading_60 : decode cX5_reading 60 = .ok (.aload_n 0, 1) := by decide +kernel
theorem dX5_reading_61 : decode cX5_reading 61 = .ok (.getfield 27, 3) := by decide +kernel
theorem dX5_reading_64 : decode cX5_reading 64 = .ok (.iload_n 3, 1) := by decide +kernel
theorem dX5_reading_65 : decode cX5_reading 65 = .ok (.iload_n 1, 1) := by decide +kernel
theorem dX5_reading_66 : decode cX5_reading 66 = .ok (.iastore, 1) := by decide +kernel
theorem dX5_reading_67 : decode cX5_reading 67 = .ok (.aload_n 0, 1) := by decide +kernel
theorem dX5_reading_68 : decode cX5_reading 68 = .ok (.getfield 31, 3) := by decide +kernel
theorem dX5_reading_71 : decode cX5_reading 71 = .ok (.iload_n 3, 1) := by decide +kernel
theorem dX5_reading_72 : decode cX5_reading 72 = .ok (.iload_n 2, 1) := by decide +kernel
theorem dX5_reading_73 : decode cX5_reading 73 = .ok (.iastore, 1) := by decide +kernel
theorem dX5_reading_74 : decode cX5_reading 74 = .ok (.aload_n 0, 1) := by decide +kernel
theorem dX5_reading_75 : decode cX5_reading 75 = .ok (.iload_n 3, 1) := by decide +kernel
theorem dX5_reading_76 : decode cX5_reading 76 = .ok (.iconst 1, 1) := by decide +kernel
theorem dX5_reading_77 : decode cX5_reading 77 = .ok (.iadd, 1) := by decide +kernel
theorem dX5_reading_78 : decode cX5_reading 78 = .ok (.putfield 68, 3) := by decide +kernel
theorem dX5_reading_81 : decode cX5_reading 81 = .ok (.iload_n 3, 1) := by decide +kernel
theorem dX5_reading_82 : decode cX5_reading 82 = .ok (.ireturn, 1) := by decide +kernel
theorem dX5_back_0 : decode cX5_back 0 = .ok (.iload_n 1, 1) := by decide +kernel
theorem dX5_back_1 : decode cX5_back 1 = .ok (.iconst 0, 1) := by decide +kernel
theorem dX5_back_2 : decode cX5_back 2 = .ok (.aload_n 0, 1) := by decide +kernel
theorem dX5_back_3 : decode cX5_back 3 = .ok (.getfield 68, 3) := by decide +kernel
theorem dX5_back_6 : decode cX5_back 6 = .ok (.invokestatic 43, 3) := by decide +kernel
theorem dX5_back_9 : decode cX5_back 9 = .ok (.ifCond .ne 6, 3) := by decide +kernel
theorem dX5_back_12 : decode cX5_back 12 = .ok (.bipush (-2), 2) := by decide +kernel
theorem dX5_back_14 : decode cX5_back 14 = .ok (.ireturn, 1) := by decide +kernel
theorem dX5_back_15 : decode cX5_back 15 = .ok (.aload_n 0, 1) := by decide +kernel
theorem dX5_back_16 : decode cX5_back 16 = .ok (.dup, 1) := by decide +kernel
theorem dX5_back_17 : decode cX5_back 17 = .ok (.getfield 68, 3) := by decide +kernel
theorem dX5_back_20 : decode cX5_back 20 = .ok (.iload_n 1, 1) := by decide +kernel
theorem dX5_back_21 : decode cX5_back 21 = .ok (.isub, 1) := by decide +kernel
theorem dX5_back_22 : decode cX5_back 22 = .ok (.putfield 68, 3) := by decide +kernel
theorem dX5_back_25 : decode cX5_back 25 = .ok (.aload_n 0, 1) := by decide +kernel
theorem dX5_back_26 : decode cX5_back 26 = .ok (.getfield 68, 3) := by decide +kernel
theorem dX5_back_29 : decode cX5_back 29 = .ok (.ireturn, 1) := by decide +kernel
theorem dX5_kinds_0 : decode cX5_kinds 0 = .ok (.aload_n 0, 1) := by decide +kernel
theorem dX5_kinds_1 : decode cX5_kinds 1 = .ok (.getfield 12, 3) := by decide +kernel
theorem dX5_kinds_4 : decode cX5_kinds 4 = .ok (.iload_n 1, 1) := by decide +kernel
theorem dX5_kinds_5 : decode cX5_kinds 5 = .ok (.invokevirtual 74, 3) := by decide +kernel
theorem dX5_kinds_8 : decode cX5_kinds 8 = .ok (.ifCond .ne 5, 3) := by decide +kernel
theorem dX5_kinds_11 : decode cX5_kinds 11 = .ok (.iconst (-1), 1) := by decide +kernel
theorem dX5_kinds_12 : decode cX5_kinds 12 = .ok (.ireturn, 1) := by decide +kernel
theorem dX5_kinds_13 : decode cX5_kinds 13 = .ok (.aload_n 0, 1) := by decide +kernel
theorem dX5_kinds_14 : decode cX5_kinds 14 = .ok (.getfield 12, 3) := by decide +kernel
theorem dX5_kinds_17 : decode cX5_kinds 17 = .ok (.getfield 77, 3) := by decide +kernel
theorem dX5_kinds_20 : decode cX5_kinds 20 = .ok (.iload_n 1, 1) := by decide +kernel
theorem dX5_kinds_21 : decode cX5_kinds 21 = .ok (.aaload, 1) := by decide +kernel
theorem dX5_kinds_22 : decode cX5_kinds 22 = .ok (.astore_n 2, 1) := by decide +kernel
theorem dX5_kinds_23 : decode cX5_kinds 23 = .ok (.aload_n 2, 1) := by decide +kernel
theorem dX5_kinds_24 : decode cX5_kinds 24 = .ok (.getfield 81, 3) := by decide +kernel
theorem dX5_kinds_27 : decode cX5_kinds 27 = .ok (.istore_n 3, 1) := by decide +kernel
theorem dX5_kinds_28 : decode cX5_kinds 28 = .ok (.iconst 0, 1) := by decide +kernel
theorem dX5_kinds_29 : decode cX5_kinds 29 = .ok (.istore 4, 2) := by decide +kernel
theorem dX5_kinds_31 : decode cX5_kinds 31 = .ok (.iconst 0, 1) := by decide +kernel
theorem dX5_kinds_32 : decode cX5_kinds 32 = .ok (.istore 5, 2) := by decide +kernel
theorem dX5_kinds_34 : decode cX5_kinds 34 = .ok (.iload 5, 2) := by decide +kernel
theorem dX5_kinds_36 : decode cX5_kinds 36 = .ok (.iconst 2, 1) := by decide +kernel
theorem dX5_kinds_37 : decode cX5_kinds 37 = .ok (.if_icmp .gt 31, 3) := by decide +kernel
theorem dX5_kinds_40 : decode cX5_kinds 40 = .ok (.aload_n 2, 1) := by decide +kernel
theorem dX5_kinds_41 : decode cX5_kinds 41 = .ok (.iload 5, 2) := by decide +kernel
theorem dX5_kinds_43 : decode cX5_kinds 43 = .ok (.putfield 81, 3) := by decide +kernel
theorem dX5_kinds_46 : decode cX5_kinds 46 = .ok (.aload_n 0, 1) := by decide +kernel
theorem dX5_kinds_47 : decode cX5_kinds 47 = .ok (.invokevirtual 182, 3) := by decide +kernel
theorem dX5_kinds_50 : decode cX5_kinds 50 = .ok (.ifCond .eq 12, 3) := by decide +kernel
theorem dX5_kinds_53 : decode cX5_kinds 53 = .ok (.iload 4, 2) := by decide +kernel
theorem dX5_kinds_55 : decode cX5_kinds 55 = .ok (.iconst 1, 1) := by decide +kernel
theorem dX5_kinds_56 : decode cX5_kinds 56 = .ok (.iload 5, 2) := by decide +kernel
theorem dX5_kinds_58 : decode cX5_kinds 58 = .ok (.ishl, 1) := by decide +kernel
theorem dX5_kinds_59 : decode cX5_kinds 59 = .ok (.ior, 1) := by decide +kernel
theorem dX5_kinds_60 : decode cX5_kinds 60 = .ok (.istore 4, 2) := by decide +kernel
theorem dX5_kinds_62 : decode cX5_kinds 62 = .ok (.iinc 5 1, 3) := by decide +kernel
theorem dX5_kinds_65 : decode cX5_kinds 65 = .ok (.goto (-31), 3) := by decide +kernel
theorem dX5_kinds_68 : decode cX5_kinds 68 = .ok (.aload_n 2, 1) := by decide +kernel
theorem dX5_kinds_69 : decode cX5_kinds 69 = .ok (.iload_n 3, 1) := by decide +kernel
theorem dX5_kinds_70 : decode cX5_kinds 70 = .ok (.putfield 81, 3) := by decide +kernel
theorem dX5_kinds_73 : decode cX5_kinds 73 = .ok (.iload 4, 2) := by decide +kernel
theorem dX5_kinds_75 : decode cX5_kinds 75 = .ok (.ireturn, 1) := by decide +kernel
theorem dX5_numbers_0 : decode cX5_numbers 0 = .ok (.aload_n 0, 1) := by decide +kernel
theorem dX5_numbers_1 : decode cX5_numbers 1 = .ok (.getfield 12, 3) := by decide +kernel
theorem dX5_numbers_4 : decode cX5_numbers 4 = .ok (.iload_n 1, 1) := by decide +kernel
theorem dX5_numbers_5 : decode cX5_numbers 5 = .ok (.invokevirtual 74, 3) := by decide +kernel
theorem dX5_numbers_8 : decode cX5_numbers 8 = .ok (.ifCond .ne 5, 3) := by decide +kernel
theorem dX5_numbers_11 : decode cX5_numbers 11 = .ok (.iconst (-1), 1) := by decide +kernel
theorem dX5_numbers_12 : decode cX5_numbers 12 = .ok (.ireturn, 1) := by decide +kernel
theorem dX5_numbers_13 : decode cX5_numbers 13 = .ok (.aload_n 0, 1) := by decide +kernel
theorem dX5_numbers_14 : decode cX5_numbers 14 = .ok (.getfield 12, 3) := by decide +kernel
theorem dX5_numbers_17 : decode cX5_numbers 17 = .ok (.getfield 77, 3) := by decide +kernel
theorem dX5_numbers_20 : decode cX5_numbers 20 = .ok (.iload_n 1, 1) := by decide +kernel
theorem dX5_numbers_21 : decode cX5_numbers 21 = .ok (.aaload, 1) := by decide +kernel
theorem dX5_numbers_22 : decode cX5_numbers 22 = .ok (.astore_n 2, 1) := by decide +kernel
theorem dX5_numbers_23 : decode cX5_numbers 23 = .ok (.aload_n 2, 1) := by decide +kernel
theorem dX5_numbers_24 : decode cX5_numbers 24 = .ok (.getfield 89, 3) := by decide +kernel
theorem dX5_numbers_27 : decode cX5_numbers 27 = .ok (.istore_n 3, 1) := by decide +kernel
theorem dX5_numbers_28 : decode cX5_numbers 28 = .ok (.iconst 0, 1) := by decide +kernel
theorem dX5_numbers_29 : decode cX5_numbers 29 = .ok (.istore 4, 2) := by decide +kernel
theorem dX5_numbers_31 : decode cX5_numbers 31 = .ok (.iconst 1, 1) := by decide +kernel
theorem dX5_numbers_32 : decode cX5_numbers 32 = .ok (.istore 5, 2) := by decide +kernel
theorem dX5_numbers_34 : decode cX5_numbers 34 = .ok (.iload 5, 2) := by decide +kernel
theorem dX5_numbers_36 : decode cX5_numbers 36 = .ok (.bipush 9, 2) := by decide +kernel
theorem dX5_numbers_38 : decode cX5_numbers 38 = .ok (.if_icmp .gt 31, 3) := by decide +kernel
theorem dX5_numbers_41 : decode cX5_numbers 41 = .ok (.aload_n 2, 1) := by decide +kernel
theorem dX5_numbers_42 : decode cX5_numbers 42 = .ok (.iload 5, 2) := by decide +kernel
theorem dX5_numbers_44 : decode cX5_numbers 44 = .ok (.putfield 89, 3) := by decide +kernel
theorem dX5_numbers_47 : decode cX5_numbers 47 = .ok (.aload_n 0, 1) := by decide +kernel
theorem dX5_numbers_48 : decode cX5_numbers 48 = .ok (.invokevirtual 182, 3) := by decide +kernel
theorem dX5_numbers_51 : decode cX5_numbers 51 = .ok (.ifCond .eq 12, 3) := by decide +kernel
theorem dX5_numbers_54 : decode cX5_numbers 54 = .ok (.iload 4, 2) := by decide +kernel
theorem dX5_numbers_56 : decode cX5_numbers 56 = .ok (.iconst 1, 1) := by decide +kernel
theorem dX5_numbers_57 : decode cX5_numbers 57 = .ok (.iload 5, 2) := by decide +kernel
theorem dX5_numbers_59 : decode cX5_numbers 59 = .ok (.ishl, 1) := by decide +kernel
theorem dX5_numbers_60 : decode cX5_numbers 60 = .ok (.ior, 1) := by decide +kernel
theorem dX5_numbers_61 : decode cX5_numbers 61 = .ok (.istore 4, 2) := by decide +kernel
theorem dX5_numbers_63 : decode cX5_numbers 63 = .ok (.iinc 5 1, 3) := by decide +kernel
theorem dX5_numbers_66 : decode cX5_numbers 66 = .ok (.goto (-32), 3) := by decide +kernel
theorem dX5_numbers_69 : decode cX5_numbers 69 = .ok (.aload_n 2, 1) := by decide +kernel
theorem dX5_numbers_70 : decode cX5_numbers 70 = .ok (.iload_n 3, 1) := by decide +kernel
theorem dX5_numbers_71 : decode cX5_numbers 71 = .ok (.putfield 89, 3) := by decide +kernel
theorem dX5_numbers_74 : decode cX5_numbers 74 = .ok (.iload 4, 2) := by decide +kernel
theorem dX5_numbers_76 : decode cX5_numbers 76 = .ok (.ireturn, 1) := by decide +kernel
theorem dX5_odds_0 : decode cX5_odds 0 = .ok (.iload_n 1, 1) := by decide +kernel
theorem dX5_odds_1 : decode cX5_odds 1 = .ok (.iconst 0, 1) := by decide +kernel
theorem dX5_odds_2 : decode cX5_odds 2 = .ok (.sipush 200, 3) := by decide +kernel
theorem dX5_odds_5 : decode cX5_odds 5 = .ok (.invokestatic 43, 3) := by decide +kernel
theorem dX5_odds_8 : decode cX5_odds 8 = .ok (.ifCond .eq 12, 3) := by decide +kernel
theorem dX5_odds_11 : decode cX5_odds 11 = .ok (.iload_n 2, 1) := by decide +kernel
theorem dX5_odds_12 : decode cX5_odds 12 = .ok (.iconst 0, 1) := by decide +kernel
theorem dX5_odds_13 : decode cX5_odds 13 = .ok (.iconst 1, 1) := by decide +kernel
theorem dX5_odds_14 : decode cX5_odds 14 = .ok (.invokestatic 43, 3) := by decide +kernel
theorem dX5_odds_17 : decode cX5_odds 17 = .ok (.ifCond .ne 7, 3) := by decide +kernel
theorem dX5_odds_20 : decode cX5_odds 20 = .ok (.ldc2_w 186, 3) := by decide +kernel
theorem dX5_odds_23 : decode cX5_odds 23 = .ok (.lreturn, 1) := by decide +kernel
theorem dX5_odds_24 : decode cX5_odds 24 = .ok (.aload_n 0, 1) := by decide +kernel
theorem dX5_odds_25 : decode cX5_odds 25 = .ok (.getfield 12, 3) := by decide +kernel
theorem dX5_odds_28 : decode cX5_odds 28 = .ok (.getfield 71, 3) := by decide +kernel
theorem dX5_odds_31 : decode cX5_odds 31 = .ok (.ifCond .ne 7, 3) := by decide +kernel
theorem dX5_odds_34 : decode cX5_odds 34 = .ok (.ldc2_w 186, 3) := by decide +kernel
theorem dX5_odds_37 : decode cX5_odds 37 = .ok (.lreturn, 1) := by decide +kernel
theorem dX5_odds_38 : decode cX5_odds 38 = .ok (.aload_n 0, 1) := by decide +kernel
theorem dX5_odds_39 : decode cX5_odds 39 = .ok (.getfield 12, 3) := by decide +kernel
theorem dX5_odds_42 : decode cX5_odds 42 = .ok (.iload_n 1, 1) := by decide +kernel
theorem dX5_odds_43 : decode cX5_odds 43 = .ok (.invokevirtual 188, 3) := by decide +kernel
theorem dX5_odds_46 : decode cX5_odds 46 = .ok (.istore_n 3, 1) := by decide +kernel
theorem dX5_odds_47 : decode cX5_odds 47 = .ok (.iload_n 3, 1) := by decide +kernel
theorem dX5_odds_48 : decode cX5_odds 48 = .ok (.bipush 26, 2) := by decide +kernel
theorem dX5_odds_50 : decode cX5_odds 50 = .ok (.invokestatic 191, 3) := by decide +kernel
theorem dX5_odds_53 : decode cX5_odds 53 = .ok (.istore 4, 2) := by decide +kernel
theorem dX5_odds_55 : decode cX5_odds 55 = .ok (.iload_n 2, 1) := by decide +kernel
theorem dX5_odds_56 : decode cX5_odds 56 = .ok (.ifCond .ne 11, 3) := by decide +kernel
theorem dX5_odds_59 : decode cX5_odds 59 = .ok (.iload_n 3, 1) := by decide +kernel
theorem dX5_odds_60 : decode cX5_odds 60 = .ok (.iload 4, 2) := by decide +kernel
theorem dX5_odds_62 : decode cX5_odds 62 = .ok (.idiv, 1) := by decide +kernel
theorem dX5_odds_63 : decode cX5_odds 63 = .ok (.i2l, 1) := by decide +kernel
theorem dX5_odds_64 : decode cX5_odds 64 = .ok (.goto 9, 3) := by decide +kernel
theorem dX5_odds_67 : decode cX5_odds 67 = .ok (.bipush 26, 2) := by decide +kernel
theorem dX5_odds_69 : decode cX5_odds 69 = .ok (.iload 4, 2) := by decide +kernel
theorem dX5_odds_71 : decode cX5_odds 71 = .ok (.idiv, 1) := by decide +kernel
theorem dX5_odds_72 : decode cX5_odds 72 = .ok (.i2l, 1) := by decide +kernel
theorem dX5_odds_73 : decode cX5_odds 73 = .ok (.lreturn, 1) := by decide +kernel
theorem dX5_sheet_0 : decode cX5_sheet 0 = .ok (.aload_n 0, 1) := by decide +kernel
theorem dX5_sheet_1 : decode cX5_sheet 1 = .ok (.iconst 0, 1) := by decide +kernel
theorem dX5_sheet_2 : decode cX5_sheet 2 = .ok (.putfield 35, 3) := by decide +kernel
theorem dX5_sheet_5 : decode cX5_sheet 5 = .ok (.iload_n 1, 1) := by decide +kernel
theorem dX5_sheet_6 : decode cX5_sheet 6 = .ok (.invokestatic 39, 3) := by decide +kernel
theorem dX5_sheet_9 : decode cX5_sheet 9 = .ok (.ifCond .ne 5, 3) := by decide +kernel
theorem dX5_sheet_12 : decode cX5_sheet 12 = .ok (.iconst (-1), 1) := by decide +kernel
theorem dX5_sheet_13 : decode cX5_sheet 13 = .ok (.ireturn, 1) := by decide +kernel
theorem dX5_sheet_14 : decode cX5_sheet 14 = .ok (.iload_n 2, 1) := by decide +kernel
theorem dX5_sheet_15 : decode cX5_sheet 15 = .ok (.iconst 0, 1) := by decide +kernel
theorem dX5_sheet_16 : decode cX5_sheet 16 = .ok (.iconst 2, 1) := by decide +kernel
theorem dX5_sheet_17 : decode cX5_sheet 17 = .ok (.invokestatic 43, 3) := by decide +kernel
theorem dX5_sheet_20 : decode cX5_sheet 20 = .ok (.ifCond .eq 9, 3) := by decide +kernel
theorem dX5_sheet_23 : decode cX5_sheet 23 = .ok (.iload_n 3, 1) := by decide +kernel
theorem dX5_sheet_24 : decode cX5_sheet 24 = .ok (.bipush 60, 2) := by decide +kernel
theorem dX5_sheet_26 : decode cX5_sheet 26 = .ok (.if_icmp .le 6, 3) := by decide +kernel
theorem dX5_sheet_29 : decode cX5_sheet 29 = .ok (.bipush (-2), 2) := by decide +kernel
theorem dX5_sheet_31 : decode cX5_sheet 31 = .ok (.ireturn, 1) := by decide +kernel
theorem dX5_sheet_32 : decode cX5_sheet 32 = .ok (.iload_n 3, 1) := by decide +kernel
theorem dX5_sheet_33 : decode cX5_sheet 33 = .ok (.ifCond .ge 9, 3) := by decide +kernel
theorem dX5_sheet_36 : decode cX5_sheet 36 = .ok (.aload_n 0, 1) := by decide +kernel
theorem dX5_sheet_37 : decode cX5_sheet 37 = .ok (.iconst 4, 1) := by decide +kernel
theorem dX5_sheet_38 : decode cX5_sheet 38 = .ok (.invokevirtual 51, 3) := by decide +kernel
theorem dX5_sheet_41 : decode cX5_sheet 41 = .ok (.ireturn, 1) := by decide +kernel
theorem dX5_sheet_42 : decode cX5_sheet 42 = .ok (.aload_n 0, 1) := by decide +kernel
theorem dX5_sheet_43 : decode cX5_sheet 43 = .ok (.getfield 23, 3) := by decide +kernel
theorem dX5_sheet_46 : decode cX5_sheet 46 = .ok (.iload_n 1, 1) := by decide +kernel
theorem dX5_sheet_47 : decode cX5_sheet 47 = .ok (.aaload, 1) := by decide +kernel
theorem dX5_sheet_48 : decode cX5_sheet 48 = .ok (.iload_n 2, 1) := by decide +kernel
theorem dX5_sheet_49 : decode cX5_sheet 49 = .ok (.iload_n 3, 1) := by decide +kernel
theorem dX5_sheet_50 : decode cX5_sheet 50 = .ok (.invokevirtual 195, 3) := by decide +kernel
theorem dX5_sheet_53 : decode cX5_sheet 53 = .ok (.iconst 1, 1) := by decide +kernel
theorem dX5_sheet_54 : decode cX5_sheet 54 = .ok (.ireturn, 1) := by decide +kernel
theorem dX5_lose_0 : decode cX5_lose 0 = .ok (.iload_n 1, 1) := by decide +kernel
theorem dX5_lose_1 : decode cX5_lose 1 = .ok (.invokestatic 39, 3) := by decide +kernel
theorem dX5_lose_4 : decode cX5_lose 4 = .ok (.ifCond .ne 5, 3) := by decide +kernel
theorem dX5_lose_7 : decode cX5_lose 7 = .ok (.iconst (-1), 1) := by decide +kernel
theorem dX5_lose_8 : decode cX5_lose 8 = .ok (.ireturn, 1) := by decide +kernel
theorem dX5_lose_9 : decode cX5_lose 9 = .ok (.aload_n 0, 1) := by decide +kernel
theorem dX5_lose_10 : decode cX5_lose 10 = .ok (.getfield 23, 3) := by decide +kernel
theorem dX5_lose_13 : decode cX5_lose 13 = .ok (.iload_n 1, 1) := by decide +kernel
theorem dX5_lose_14 : decode cX5_lose 14 = .ok (.aaload, 1) := by decide +kernel
theorem dX5_lose_15 : decode cX5_lose 15 = .ok (.invokevirtual 199, 3) := by decide +kernel
theorem dX5_lose_18 : decode cX5_lose 18 = .ok (.ifCond .eq 7, 3) := by decide +kernel
theorem dX5_lose_21 : decode cX5_lose 21 = .ok (.iconst 0, 1) := by decide +kernel
theorem dX5_lose_22 : decode cX5_lose 22 = .ok (.goto 4, 3) := by decide +kernel
theorem dX5_lose_25 : decode cX5_lose 25 = .ok (.iconst 1, 1) := by decide +kernel
theorem dX5_lose_26 : decode cX5_lose 26 = .ok (.istore_n 2, 1) := by decide +kernel
theorem dX5_lose_27 : decode cX5_lose 27 = .ok (.aload_n 0, 1) := by decide +kernel
theorem dX5_lose_28 : decode cX5_lose 28 = .ok (.getfield 23, 3) := by decide +kernel
theorem dX5_lose_31 : decode cX5_lose 31 = .ok (.iload_n 1, 1) := by decide +kernel
theorem dX5_lose_32 : decode cX5_lose 32 = .ok (.aaload, 1) := by decide +kernel
theorem dX5_lose_33 : decode cX5_lose 33 = .ok (.invokevirtual 202, 3) := by decide +kernel
theorem dX5_lose_36 : decode cX5_lose 36 = .ok (.iload_n 2, 1) := by decide +kernel
theorem dX5_lose_37 : decode cX5_lose 37 = .ok (.ireturn, 1) := by decide +kernel
theorem dX5_put_0 : decode cX5_put 0 = .ok (.aload_n 0, 1) := by decide +kernel
theorem dX5_put_1 : decode cX5_put 1 = .ok (.iconst 0, 1) := by decide +kernel
theorem dX5_put_2 : decode cX5_put 2 = .ok (.putfield 35, 3) := by decide +kernel
theorem dX5_put_5 : decode cX5_put 5 = .ok (.iload_n 1, 1) := by decide +kernel
theorem dX5_put_6 : decode cX5_put 6 = .ok (.invokestatic 39, 3) := by decide +kernel
theorem dX5_put_9 : decode cX5_put 9 = .ok (.ifCond .ne 5, 3) := by decide +kernel
theorem dX5_put_12 : decode cX5_put 12 = .ok (.iconst (-1), 1) := by decide +kernel
theorem dX5_put_13 : decode cX5_put 13 = .ok (.ireturn, 1) := by decide +kernel
theorem dX5_put_14 : decode cX5_put 14 = .ok (.aload_n 0, 1) := by decide +kernel
theorem dX5_put_15 : decode cX5_put 15 = .ok (.getfield 23, 3) := by decide +kernel
theorem dX5_put_18 : decode cX5_put 18 = .ok (.iload_n 1, 1) := by decide +kernel
theorem dX5_put_19 : decode cX5_put 19 = .ok (.aaload, 1) := by decide +kernel
theorem dX5_put_20 : decode cX5_put 20 = .ok (.astore 4, 2) := by decide +kernel
theorem dX5_put_22 : decode cX5_put 22 = .ok (.aload 4, 2) := by decide +kernel
theorem dX5_put_24 : decode cX5_put 24 = .ok (.invokevirtual 199, 3) := by decide +kernel
theorem dX5_put_27 : decode cX5_put 27 = .ok (.ifCond .eq 9, 3) := by decide +kernel
theorem dX5_put_30 : decode cX5_put 30 = .ok (.aload_n 0, 1) := by decide +kernel
theorem dX5_put_31 : decode cX5_put 31 = .ok (.iconst 1, 1) := by decide +kernel
theorem dX5_put_32 : decode cX5_put 32 = .ok (.invokevirtual 51, 3) := by decide +kernel
theorem dX5_put_35 : decode cX5_put 35 = .ok (.ireturn, 1) := by decide +kernel
theorem dX5_put_36 : decode cX5_put 36 = .ok (.aload 4, 2) := by decide +kernel
theorem dX5_put_38 : decode cX5_put 38 = .ok (.iload_n 2, 1) := by decide +kernel
theorem dX5_put_39 : decode cX5_put 39 = .ok (.iconst 1, 1) := by decide +kernel
theorem dX5_put_40 : decode cX5_put 40 = .ok (.invokevirtual 54, 3) := by decide +kernel
theorem dX5_put_43 : decode cX5_put 43 = .ok (.ifCond .ne 9, 3) := by decide +kernel
theorem dX5_put_46 : decode cX5_put 46 = .ok (.aload_n 0, 1) := by decide +kernel
theorem dX5_put_47 : decode cX5_put 47 = .ok (.iconst 3, 1) := by decide +kernel
theorem dX5_put_48 : decode cX5_put 48 = .ok (.invokevirtual 51, 3) := by decide +kernel
theorem dX5_put_51 : decode cX5_put 51 = .ok (.ireturn, 1) := by decide +kernel
theorem dX5_put_52 : decode cX5_put 52 = .ok (.aload 4, 2) := by decide +kernel
theorem dX5_put_54 : decode cX5_put 54 = .ok (.iload_n 2, 1) := by decide +kernel
theorem dX5_put_55 : decode cX5_put 55 = .ok (.iload_n 3, 1) := by decide +kernel
theorem dX5_put_56 : decode cX5_put 56 = .ok (.invokevirtual 205, 3) := by decide +kernel
theorem dX5_put_59 : decode cX5_put 59 = .ok (.iconst 1, 1) := by decide +kernel
theorem dX5_put_60 : decode cX5_put 60 = .ok (.ireturn, 1) := by decide +kernel
theorem dX5_cell_0 : decode cX5_cell 0 = .ok (.aload_n 0, 1) := by decide +kernel
theorem dX5_cell_1 : decode cX5_cell 1 = .ok (.iconst 0, 1) := by decide +kernel
theorem dX5_cell_2 : decode cX5_cell 2 = .ok (.putfield 35, 3) := by decide +kernel
theorem dX5_cell_5 : decode cX5_cell 5 = .ok (.iload_n 1, 1) := by decide +kernel
theorem dX5_cell_6 : decode cX5_cell 6 = .ok (.invokestatic 39, 3) := by decide +kernel
theorem dX5_cell_9 : decode cX5_cell 9 = .ok (.ifCond .eq 12, 3) := by decide +kernel
theorem dX5_cell_12 : decode cX5_cell 12 = .ok (.iload_n 3, 1) := by decide +kernel
theorem dX5_cell_13 : decode cX5_cell 13 = .ok (.iconst 0, 1) := by decide +kernel
theorem dX5_cell_14 : decode cX5_cell 14 = .ok (.iconst 2, 1) := by decide +kernel
theorem dX5_cell_15 : decode cX5_cell 15 = .ok (.invokestatic 43, 3) := by decide +kernel
theorem dX5_cell_18 : decode cX5_cell 18 = .ok (.ifCond .ne 7, 3) := by decide +kernel
theorem dX5_cell_21 : decode cX5_cell 21 = .ok (.ldc2_w 186, 3) := by decide +kernel
theorem dX5_cell_24 : decode cX5_cell 24 = .ok (.lreturn, 1) := by decide +kernel
theorem dX5_cell_25 : decode cX5_cell 25 = .ok (.aload_n 0, 1) := by decide +kernel
theorem dX5_cell_26 : decode cX5_cell 26 = .ok (.getfield 23, 3) := by decide +kernel
theorem dX5_cell_29 : decode cX5_cell 29 = .ok (.iload_n 1, 1) := by decide +kernel
theorem dX5_cell_30 : decode cX5_cell 30 = .ok (.aaload, 1) := by decide +kernel
theorem dX5_cell_31 : decode cX5_cell 31 = .ok (.astore 4, 2) := by decide +kernel
theorem dX5_cell_33 : decode cX5_cell 33 = .ok (.aload_n 0, 1) := by decide +kernel
theorem dX5_cell_34 : decode cX5_cell 34 = .ok (.aload 4, 2) := by decide +kernel
theorem dX5_cell_36 : decode cX5_cell 36 = .ok (.iload_n 3, 1) := by decide +kernel
theorem dX5_cell_37 : decode cX5_cell 37 = .ok (.invokevirtual 47, 3) := by decide +kernel
theorem dX5_cell_40 : decode cX5_cell 40 = .ok (.putfield 35, 3) := by decide +kernel
theorem dX5_cell_43 : decode cX5_cell 43 = .ok (.aload_n 0, 1) := by decide +kernel
theorem dX5_cell_44 : decode cX5_cell 44 = .ok (.getfield 35, 3) := by decide +kernel
theorem dX5_cell_47 : decode cX5_cell 47 = .ok (.ifCond .ne 18, 3) := by decide +kernel
theorem dX5_cell_50 : decode cX5_cell 50 = .ok (.aload 4, 2) := by decide +kernel
theorem dX5_cell_52 : decode cX5_cell 52 = .ok (.iload_n 2, 1) := by decide +kernel
theorem dX5_cell_53 : decode cX5_cell 53 = .ok (.iconst 1, 1) := by decide +kernel
theorem dX5_cell_54 : decode cX5_cell 54 = .ok (.invokevirtual 54, 3) := by decide +kernel
theorem dX5_cell_57 : decode cX5_cell 57 = .ok (.ifCond .ne 8, 3) := by decide +kernel
theorem dX5_cell_60 : decode cX5_cell 60 = .ok (.aload_n 0, 1) := by decide +kernel
theorem dX5_cell_61 : decode cX5_cell 61 = .ok (.iconst 3, 1) := by decide +kernel
theorem dX5_cell_62 : decode cX5_cell 62 = .ok (.putfield 35, 3) := by decide +kernel
theorem dX5_cell_65 : decode cX5_cell 65 = .ok (.aload_n 0, 1) := by decide +kernel
theorem dX5_cell_66 : decode cX5_cell 66 = .ok (.getfield 35, 3) := by decide +kernel
theorem dX5_cell_69 : decode cX5_cell 69 = .ok (.ifCond .ne 13, 3) := by decide +kernel
theorem dX5_cell_72 : decode cX5_cell 72 = .ok (.aload 4, 2) := by decide +kernel
theorem dX5_cell_74 : decode cX5_cell 74 = .ok (.iload_n 2, 1) := by decide +kernel
theorem dX5_cell_75 : decode cX5_cell 75 = .ok (.invokevirtual 208, 3) := by decide +kernel
theorem dX5_cell_78 : decode cX5_cell 78 = .ok (.i2l, 1) := by decide +kernel
theorem dX5_cell_79 : decode cX5_cell 79 = .ok (.goto 6, 3) := by decide +kernel
theorem dX5_cell_82 : decode cX5_cell 82 = .ok (.ldc2_w 186, 3) := by decide +kernel
theorem dX5_cell_85 : decode cX5_cell 85 = .ok (.lreturn, 1) := by decide +kernel
theorem dX5_copy_0 : decode cX5_copy 0 = .ok (.aload_n 0, 1) := by decide +kernel
theorem dX5_copy_1 : decode cX5_copy 1 = .ok (.iconst 0, 1) := by decide +kernel
theorem dX5_copy_2 : decode cX5_copy 2 = .ok (.putfield 35, 3) := by decide +kernel
theorem dX5_copy_5 : decode cX5_copy 5 = .ok (.iload_n 1, 1) := by decide +kernel
theorem dX5_copy_6 : decode cX5_copy 6 = .ok (.invokestatic 39, 3) := by decide +kernel
theorem dX5_copy_9 : decode cX5_copy 9 = .ok (.ifCond .eq 10, 3) := by decide +kernel
theorem dX5_copy_12 : decode cX5_copy 12 = .ok (.iload_n 3, 1) := by decide +kernel
theorem dX5_copy_13 : decode cX5_copy 13 = .ok (.invokestatic 39, 3) := by decide +kernel
theorem dX5_copy_16 : decode cX5_copy 16 = .ok (.ifCond .ne 5, 3) := by decide +kernel
theorem dX5_copy_19 : decode cX5_copy 19 = .ok (.iconst (-1), 1) := by decide +kernel
theorem dX5_copy_20 : decode cX5_copy 20 = .ok (.ireturn, 1) := by decide +kernel
theorem dX5_copy_21 : decode cX5_copy 21 = .ok (.aload_n 0, 1) := by decide +kernel
theorem dX5_copy_22 : decode cX5_copy 22 = .ok (.getfield 23, 3) := by decide +kernel
theorem dX5_copy_25 : decode cX5_copy 25 = .ok (.iload_n 1, 1) := by decide +kernel
theorem dX5_copy_26 : decode cX5_copy 26 = .ok (.aaload, 1) := by decide +kernel
theorem dX5_copy_27 : decode cX5_copy 27 = .ok (.astore 6, 2) := by decide +kernel
theorem dX5_copy_29 : decode cX5_copy 29 = .ok (.aload_n 0, 1) := by decide +kernel
theorem dX5_copy_30 : decode cX5_copy 30 = .ok (.getfield 23, 3) := by decide +kernel
theorem dX5_copy_33 : decode cX5_copy 33 = .ok (.iload_n 3, 1) := by decide +kernel
theorem dX5_copy_34 : decode cX5_copy 34 = .ok (.aaload, 1) := by decide +kernel
theorem dX5_copy_35 : decode cX5_copy 35 = .ok (.astore 7, 2) := by decide +kernel
theorem dX5_copy_37 : decode cX5_copy 37 = .ok (.aload 6, 2) := by decide +kernel
theorem dX5_copy_39 : decode cX5_copy 39 = .ok (.invokevirtual 199, 3) := by decide +kernel
theorem dX5_copy_42 : decode cX5_copy 42 = .ok (.ifCond .ne 11, 3) := by decide +kernel
theorem dX5_copy_45 : decode cX5_copy 45 = .ok (.aload 7, 2) := by decide +kernel
theorem dX5_copy_47 : decode cX5_copy 47 = .ok (.invokevirtual 199, 3) := by decide +kernel
theorem dX5_copy_50 : decode cX5_copy 50 = .ok (.ifCond .eq 9, 3) := by decide +kernel
theorem dX5_copy_53 : decode cX5_copy 53 = .ok (.aload_n 0, 1) := by decide +kernel
theorem dX5_copy_54 : decode cX5_copy 54 = .ok (.iconst 1, 1) := by decide +kernel
theorem dX5_copy_55 : decode cX5_copy 55 = .ok (.invokevirtual 51, 3) := by decide +kernel
theorem dX5_copy_58 : decode cX5_copy 58 = .ok (.ireturn, 1) := by decide +kernel
theorem dX5_copy_59 : decode cX5_copy 59 = .ok (.aload 6, 2) := by decide +kernel
theorem dX5_copy_61 : decode cX5_copy 61 = .ok (.getfield 211, 3) := by decide +kernel
theorem dX5_copy_64 : decode cX5_copy 64 = .ok (.aload 7, 2) := by decide +kernel
theorem dX5_copy_66 : decode cX5_copy 66 = .ok (.getfield 211, 3) := by decide +kernel
theorem dX5_copy_69 : decode cX5_copy 69 = .ok (.if_icmp .eq 9, 3) := by decide +kernel
theorem dX5_copy_72 : decode cX5_copy 72 = .ok (.aload_n 0, 1) := by decide +kernel
theorem dX5_copy_73 : decode cX5_copy 73 = .ok (.iconst 2, 1) := by decide +kernel
theorem dX5_copy_74 : decode cX5_copy 74 = .ok (.invokevirtual 51, 3) := by decide +kernel
theorem dX5_copy_77 : decode cX5_copy 77 = .ok (.ireturn, 1) := by decide +kernel
theorem dX5_copy_78 : decode cX5_copy 78 = .ok (.aload 6, 2) := by decide +kernel
theorem dX5_copy_80 : decode cX5_copy 80 = .ok (.iload_n 2, 1) := by decide +kernel
theorem dX5_copy_81 : decode cX5_copy 81 = .ok (.iload 5, 2) := by decide +kernel
theorem dX5_copy_83 : decode cX5_copy 83 = .ok (.invokevirtual 54, 3) := by decide +kernel
theorem dX5_copy_86 : decode cX5_copy 86 = .ok (.ifCond .eq 15, 3) := by decide +kernel
theorem dX5_copy_89 : decode cX5_copy 89 = .ok (.aload 7, 2) := by decide +kernel
theorem dX5_copy_91 : decode cX5_copy 91 = .ok (.iload 4, 2) := by decide +kernel
theorem dX5_copy_93 : decode cX5_copy 93 = .ok (.iload 5, 2) := by decide +kernel
theorem dX5_copy_95 : decode cX5_copy 95 = .ok (.invokevirtual 54, 3) := by decide +kernel
theorem dX5_copy_98 : decode cX5_copy 98 = .ok (.ifCond .ne 9, 3) := by decide +kernel
theorem dX5_copy_101 : decode cX5_copy 101 = .ok (.aload_n 0, 1) := by decide +kernel
theorem dX5_copy_102 : decode cX5_copy 102 = .ok (.iconst 3, 1) := by decide +kernel
theorem dX5_copy_103 : decode cX5_copy 103 = .ok (.invokevirtual 51, 3) := by decide +kernel
theorem dX5_copy_106 : decode cX5_copy 106 = .ok (.ireturn, 1) := by decide +kernel
theorem dX5_copy_107 : decode cX5_copy 107 = .ok (.aload 6, 2) := by decide +kernel
theorem dX5_copy_109 : decode cX5_copy 109 = .ok (.getfield 214, 3) := by decide +kernel
theorem dX5_copy_112 : decode cX5_copy 112 = .ok (.iload_n 2, 1) := by decide +kernel
theorem dX5_copy_113 : decode cX5_copy 113 = .ok (.aload 7, 2) := by decide +kernel
theorem dX5_copy_115 : decode cX5_copy 115 = .ok (.getfield 214, 3) := by decide +kernel
theorem dX5_copy_118 : decode cX5_copy 118 = .ok (.iload 4, 2) := by decide +kernel
theorem dX5_copy_120 : decode cX5_copy 120 = .ok (.iload 5, 2) := by decide +kernel
theorem dX5_copy_122 : decode cX5_copy 122 = .ok (.invokestatic 217, 3) := by decide +kernel
theorem dX5_copy_125 : decode cX5_copy 125 = .ok (.iload 5, 2) := by decide +kernel
theorem dX5_copy_127 : decode cX5_copy 127 = .ok (.ireturn, 1) := by decide +kernel
theorem dX5_tell_0 : decode cX5_tell 0 = .ok (.aload_n 0, 1) := by decide +kernel
theorem dX5_tell_1 : decode cX5_tell 1 = .ok (.getfield 12, 3) := by decide +kernel
theorem dX5_tell_4 : decode cX5_tell 4 = .ok (.iload_n 1, 1) := by decide +kernel
theorem dX5_tell_5 : decode cX5_tell 5 = .ok (.invokevirtual 74, 3) := by decide +kernel
theorem dX5_tell_8 : decode cX5_tell 8 = .ok (.ifCond .ne 5, 3) := by decide +kernel
theorem dX5_tell_11 : decode cX5_tell 11 = .ok (.iconst (-1), 1) := by decide +kernel
theorem dX5_tell_12 : decode cX5_tell 12 = .ok (.ireturn, 1) := by decide +kernel
theorem dX5_tell_13 : decode cX5_tell 13 = .ok (.aload_n 0, 1) := by decide +kernel
theorem dX5_tell_14 : decode cX5_tell 14 = .ok (.getfield 12, 3) := by decide +kernel
theorem dX5_tell_17 : decode cX5_tell 17 = .ok (.getfield 77, 3) := by decide +kernel
theorem dX5_tell_20 : decode cX5_tell 20 = .ok (.iload_n 1, 1) := by decide +kernel
theorem dX5_tell_21 : decode cX5_tell 21 = .ok (.aaload, 1) := by decide +kernel
theorem dX5_tell_22 : decode cX5_tell 22 = .ok (.astore_n 2, 1) := by decide +kernel
theorem dX5_tell_23 : decode cX5_tell 23 = .ok (.aload_n 2, 1) := by decide +kernel
