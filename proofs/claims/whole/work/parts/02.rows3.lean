theorem dX6_readRule_231 : decode cX6_readRule 231 = .ok (.goto 4, 3) := by decide +kernel
theorem dX6_readRule_234 : decode cX6_readRule 234 = .ok (.iconst 0, 1) := by decide +kernel
theorem dX6_readRule_235 : decode cX6_readRule 235 = .ok (.ireturn, 1) := by decide +kernel
theorem dX6_readNumber_0 : decode cX6_readNumber 0 = .ok (.aload_n 0, 1) := by decide +kernel
theorem dX6_readNumber_1 : decode cX6_readNumber 1 = .ok (.getfield 71, 3) := by decide +kernel
theorem dX6_readNumber_4 : decode cX6_readNumber 4 = .ok (.iload_n 1, 1) := by decide +kernel
theorem dX6_readNumber_5 : decode cX6_readNumber 5 = .ok (.if_icmp .ge 21, 3) := by decide +kernel
theorem dX6_readNumber_8 : decode cX6_readNumber 8 = .ok (.aload_n 0, 1) := by decide +kernel
theorem dX6_readNumber_9 : decode cX6_readNumber 9 = .ok (.getfield 16, 3) := by decide +kernel
theorem dX6_readNumber_12 : decode cX6_readNumber 12 = .ok (.aload_n 0, 1) := by decide +kernel
theorem dX6_readNumber_13 : decode cX6_readNumber 13 = .ok (.getfield 71, 3) := by decide +kernel
theorem dX6_readNumber_16 : decode cX6_readNumber 16 = .ok (.iaload, 1) := by decide +kernel
theorem dX6_readNumber_17 : decode cX6_readNumber 17 = .ok (.iload_n 3, 1) := by decide +kernel
theorem dX6_readNumber_18 : decode cX6_readNumber 18 = .ok (.iload 4, 2) := by decide +kernel
theorem dX6_readNumber_20 : decode cX6_readNumber 20 = .ok (.invokestatic 43, 3) := by decide +kernel
theorem dX6_readNumber_23 : decode cX6_readNumber 23 = .ok (.ifCond .ne 5, 3) := by decide +kernel
theorem dX6_readNumber_26 : decode cX6_readNumber 26 = .ok (.iconst 0, 1) := by decide +kernel
theorem dX6_readNumber_27 : decode cX6_readNumber 27 = .ok (.ireturn, 1) := by decide +kernel
theorem dX6_readNumber_28 : decode cX6_readNumber 28 = .ok (.aload_n 0, 1) := by decide +kernel
theorem dX6_readNumber_29 : decode cX6_readNumber 29 = .ok (.getfield 22, 3) := by decide +kernel
theorem dX6_readNumber_32 : decode cX6_readNumber 32 = .ok (.iload_n 2, 1) := by decide +kernel
theorem dX6_readNumber_33 : decode cX6_readNumber 33 = .ok (.aload_n 0, 1) := by decide +kernel
theorem dX6_readNumber_34 : decode cX6_readNumber 34 = .ok (.getfield 16, 3) := by decide +kernel
theorem dX6_readNumber_37 : decode cX6_readNumber 37 = .ok (.aload_n 0, 1) := by decide +kernel
theorem dX6_readNumber_38 : decode cX6_readNumber 38 = .ok (.getfield 71, 3) := by decide +kernel
theorem dX6_readNumber_41 : decode cX6_readNumber 41 = .ok (.iaload, 1) := by decide +kernel
theorem dX6_readNumber_42 : decode cX6_readNumber 42 = .ok (.iload 5, 2) := by decide +kernel
theorem dX6_readNumber_44 : decode cX6_readNumber 44 = .ok (.isub, 1) := by decide +kernel
theorem dX6_readNumber_45 : decode cX6_readNumber 45 = .ok (.iastore, 1) := by decide +kernel
theorem dX6_readNumber_46 : decode cX6_readNumber 46 = .ok (.aload_n 0, 1) := by decide +kernel
theorem dX6_readNumber_47 : decode cX6_readNumber 47 = .ok (.dup, 1) := by decide +kernel
theorem dX6_readNumber_48 : decode cX6_readNumber 48 = .ok (.getfield 71, 3) := by decide +kernel
theorem dX6_readNumber_51 : decode cX6_readNumber 51 = .ok (.iconst 1, 1) := by decide +kernel
theorem dX6_readNumber_52 : decode cX6_readNumber 52 = .ok (.iadd, 1) := by decide +kernel
theorem dX6_readNumber_53 : decode cX6_readNumber 53 = .ok (.putfield 71, 3) := by decide +kernel
theorem dX6_readNumber_56 : decode cX6_readNumber 56 = .ok (.iconst 1, 1) := by decide +kernel
theorem dX6_readNumber_57 : decode cX6_readNumber 57 = .ok (.ireturn, 1) := by decide +kernel
theorem dX6_firstOf_0 : decode cX6_firstOf 0 = .ok (.iload_n 2, 1) := by decide +kernel
theorem dX6_firstOf_1 : decode cX6_firstOf 1 = .ok (.istore 4, 2) := by decide +kernel
theorem dX6_firstOf_3 : decode cX6_firstOf 3 = .ok (.iload 4, 2) := by decide +kernel
theorem dX6_firstOf_5 : decode cX6_firstOf 5 = .ok (.aload_n 0, 1) := by decide +kernel
theorem dX6_firstOf_6 : decode cX6_firstOf 6 = .ok (.getfield 47, 3) := by decide +kernel
theorem dX6_firstOf_9 : decode cX6_firstOf 9 = .ok (.if_icmp .ge 25, 3) := by decide +kernel
theorem dX6_firstOf_12 : decode cX6_firstOf 12 = .ok (.iload 4, 2) := by decide +kernel
theorem dX6_firstOf_14 : decode cX6_firstOf 14 = .ok (.iload_n 3, 1) := by decide +kernel
theorem dX6_firstOf_15 : decode cX6_firstOf 15 = .ok (.if_icmp .eq 13, 3) := by decide +kernel
theorem dX6_firstOf_18 : decode cX6_firstOf 18 = .ok (.aload_n 0, 1) := by decide +kernel
theorem dX6_firstOf_19 : decode cX6_firstOf 19 = .ok (.iload 4, 2) := by decide +kernel
theorem dX6_firstOf_21 : decode cX6_firstOf 21 = .ok (.iload_n 1, 1) := by decide +kernel
theorem dX6_firstOf_22 : decode cX6_firstOf 22 = .ok (.invokevirtual 94, 3) := by decide +kernel
theorem dX6_firstOf_25 : decode cX6_firstOf 25 = .ok (.ifCond .ne 9, 3) := by decide +kernel
theorem dX6_firstOf_28 : decode cX6_firstOf 28 = .ok (.iinc 4 1, 3) := by decide +kernel
theorem dX6_firstOf_31 : decode cX6_firstOf 31 = .ok (.goto (-28), 3) := by decide +kernel
theorem dX6_firstOf_34 : decode cX6_firstOf 34 = .ok (.iload 4, 2) := by decide +kernel
theorem dX6_firstOf_36 : decode cX6_firstOf 36 = .ok (.ireturn, 1) := by decide +kernel
theorem dX6_asks_0 : decode cX6_asks 0 = .ok (.iload_n 1, 1) := by decide +kernel
theorem dX6_asks_1 : decode cX6_asks 1 = .ok (.istore_n 3, 1) := by decide +kernel
theorem dX6_asks_2 : decode cX6_asks 2 = .ok (.aload_n 0, 1) := by decide +kernel
theorem dX6_asks_3 : decode cX6_asks 3 = .ok (.iconst 0, 1) := by decide +kernel
theorem dX6_asks_4 : decode cX6_asks 4 = .ok (.putfield 97, 3) := by decide +kernel
theorem dX6_asks_7 : decode cX6_asks 7 = .ok (.aload_n 0, 1) := by decide +kernel
theorem dX6_asks_8 : decode cX6_asks 8 = .ok (.iconst 0, 1) := by decide +kernel
theorem dX6_asks_9 : decode cX6_asks 9 = .ok (.putfield 100, 3) := by decide +kernel
theorem dX6_asks_12 : decode cX6_asks 12 = .ok (.aload_n 0, 1) := by decide +kernel
theorem dX6_asks_13 : decode cX6_asks 13 = .ok (.iload_n 3, 1) := by decide +kernel
theorem dX6_asks_14 : decode cX6_asks 14 = .ok (.iconst 0, 1) := by decide +kernel
theorem dX6_asks_15 : decode cX6_asks 15 = .ok (.iload_n 2, 1) := by decide +kernel
theorem dX6_asks_16 : decode cX6_asks 16 = .ok (.invokevirtual 103, 3) := by decide +kernel
theorem dX6_asks_19 : decode cX6_asks 19 = .ok (.istore 4, 2) := by decide +kernel
theorem dX6_asks_21 : decode cX6_asks 21 = .ok (.iload 4, 2) := by decide +kernel
theorem dX6_asks_23 : decode cX6_asks 23 = .ok (.aload_n 0, 1) := by decide +kernel
theorem dX6_asks_24 : decode cX6_asks 24 = .ok (.getfield 47, 3) := by decide +kernel
theorem dX6_asks_27 : decode cX6_asks 27 = .ok (.if_icmp .ge 73, 3) := by decide +kernel
theorem dX6_asks_30 : decode cX6_asks 30 = .ok (.aload_n 0, 1) := by decide +kernel
theorem dX6_asks_31 : decode cX6_asks 31 = .ok (.iload 4, 2) := by decide +kernel
theorem dX6_asks_33 : decode cX6_asks 33 = .ok (.invokevirtual 107, 3) := by decide +kernel
theorem dX6_asks_36 : decode cX6_asks 36 = .ok (.iconst 2, 1) := by decide +kernel
theorem dX6_asks_37 : decode cX6_asks 37 = .ok (.if_icmp .ne 63, 3) := by decide +kernel
theorem dX6_asks_40 : decode cX6_asks 40 = .ok (.aload_n 0, 1) := by decide +kernel
theorem dX6_asks_41 : decode cX6_asks 41 = .ok (.getfield 25, 3) := by decide +kernel
theorem dX6_asks_44 : decode cX6_asks 44 = .ok (.aload_n 0, 1) := by decide +kernel
theorem dX6_asks_45 : decode cX6_asks 45 = .ok (.getfield 97, 3) := by decide +kernel
theorem dX6_asks_48 : decode cX6_asks 48 = .ok (.iload 4, 2) := by decide +kernel
theorem dX6_asks_50 : decode cX6_asks 50 = .ok (.iastore, 1) := by decide +kernel
theorem dX6_asks_51 : decode cX6_asks 51 = .ok (.aload_n 0, 1) := by decide +kernel
theorem dX6_asks_52 : decode cX6_asks 52 = .ok (.dup, 1) := by decide +kernel
theorem dX6_asks_53 : decode cX6_asks 53 = .ok (.getfield 97, 3) := by decide +kernel
theorem dX6_asks_56 : decode cX6_asks 56 = .ok (.iconst 1, 1) := by decide +kernel
theorem dX6_asks_57 : decode cX6_asks 57 = .ok (.iadd, 1) := by decide +kernel
theorem dX6_asks_58 : decode cX6_asks 58 = .ok (.putfield 97, 3) := by decide +kernel
theorem dX6_asks_61 : decode cX6_asks 61 = .ok (.aload_n 0, 1) := by decide +kernel
theorem dX6_asks_62 : decode cX6_asks 62 = .ok (.dup, 1) := by decide +kernel
theorem dX6_asks_63 : decode cX6_asks 63 = .ok (.getfield 100, 3) := by decide +kernel
theorem dX6_asks_66 : decode cX6_asks 66 = .ok (.aload_n 0, 1) := by decide +kernel
theorem dX6_asks_67 : decode cX6_asks 67 = .ok (.iload 4, 2) := by decide +kernel
theorem dX6_asks_69 : decode cX6_asks 69 = .ok (.invokevirtual 110, 3) := by decide +kernel
theorem dX6_asks_72 : decode cX6_asks 72 = .ok (.iadd, 1) := by decide +kernel
theorem dX6_asks_73 : decode cX6_asks 73 = .ok (.putfield 100, 3) := by decide +kernel
theorem dX6_asks_76 : decode cX6_asks 76 = .ok (.iload_n 3, 1) := by decide +kernel
theorem dX6_asks_77 : decode cX6_asks 77 = .ok (.aload_n 0, 1) := by decide +kernel
theorem dX6_asks_78 : decode cX6_asks 78 = .ok (.iload 4, 2) := by decide +kernel
theorem dX6_asks_80 : decode cX6_asks 80 = .ok (.invokevirtual 54, 3) := by decide +kernel
theorem dX6_asks_83 : decode cX6_asks 83 = .ok (.iadd, 1) := by decide +kernel
theorem dX6_asks_84 : decode cX6_asks 84 = .ok (.istore_n 3, 1) := by decide +kernel
theorem dX6_asks_85 : decode cX6_asks 85 = .ok (.aload_n 0, 1) := by decide +kernel
theorem dX6_asks_86 : decode cX6_asks 86 = .ok (.iload_n 3, 1) := by decide +kernel
theorem dX6_asks_87 : decode cX6_asks 87 = .ok (.iload 4, 2) := by decide +kernel
theorem dX6_asks_89 : decode cX6_asks 89 = .ok (.iconst 1, 1) := by decide +kernel
theorem dX6_asks_90 : decode cX6_asks 90 = .ok (.iadd, 1) := by decide +kernel
theorem dX6_asks_91 : decode cX6_asks 91 = .ok (.iload_n 2, 1) := by decide +kernel
theorem dX6_asks_92 : decode cX6_asks 92 = .ok (.invokevirtual 103, 3) := by decide +kernel
theorem dX6_asks_95 : decode cX6_asks 95 = .ok (.istore 4, 2) := by decide +kernel
theorem dX6_asks_97 : decode cX6_asks 97 = .ok (.goto (-76), 3) := by decide +kernel
theorem dX6_asks_100 : decode cX6_asks 100 = .ok (.iload 4, 2) := by decide +kernel
theorem dX6_asks_102 : decode cX6_asks 102 = .ok (.aload_n 0, 1) := by decide +kernel
theorem dX6_asks_103 : decode cX6_asks 103 = .ok (.getfield 47, 3) := by decide +kernel
theorem dX6_asks_106 : decode cX6_asks 106 = .ok (.if_icmp .ge 35, 3) := by decide +kernel
theorem dX6_asks_109 : decode cX6_asks 109 = .ok (.aload_n 0, 1) := by decide +kernel
theorem dX6_asks_110 : decode cX6_asks 110 = .ok (.iload 4, 2) := by decide +kernel
theorem dX6_asks_112 : decode cX6_asks 112 = .ok (.invokevirtual 107, 3) := by decide +kernel
theorem dX6_asks_115 : decode cX6_asks 115 = .ok (.ifCond .ne 26, 3) := by decide +kernel
theorem dX6_asks_118 : decode cX6_asks 118 = .ok (.aload_n 0, 1) := by decide +kernel
theorem dX6_asks_119 : decode cX6_asks 119 = .ok (.dup, 1) := by decide +kernel
theorem dX6_asks_120 : decode cX6_asks 120 = .ok (.getfield 100, 3) := by decide +kernel
theorem dX6_asks_123 : decode cX6_asks 123 = .ok (.aload_n 0, 1) := by decide +kernel
theorem dX6_asks_124 : decode cX6_asks 124 = .ok (.iload 4, 2) := by decide +kernel
theorem dX6_asks_126 : decode cX6_asks 126 = .ok (.invokevirtual 110, 3) := by decide +kernel
theorem dX6_asks_129 : decode cX6_asks 129 = .ok (.iadd, 1) := by decide +kernel
theorem dX6_asks_130 : decode cX6_asks 130 = .ok (.putfield 100, 3) := by decide +kernel
theorem dX6_asks_133 : decode cX6_asks 133 = .ok (.aload_n 0, 1) := by decide +kernel
theorem dX6_asks_134 : decode cX6_asks 134 = .ok (.iconst 0, 1) := by decide +kernel
theorem dX6_asks_135 : decode cX6_asks 135 = .ok (.putfield 97, 3) := by decide +kernel
theorem dX6_asks_138 : decode cX6_asks 138 = .ok (.goto 44, 3) := by decide +kernel
theorem dX6_asks_141 : decode cX6_asks 141 = .ok (.aload_n 0, 1) := by decide +kernel
theorem dX6_asks_142 : decode cX6_asks 142 = .ok (.getfield 25, 3) := by decide +kernel
theorem dX6_asks_145 : decode cX6_asks 145 = .ok (.aload_n 0, 1) := by decide +kernel
theorem dX6_asks_146 : decode cX6_asks 146 = .ok (.getfield 97, 3) := by decide +kernel
theorem dX6_asks_149 : decode cX6_asks 149 = .ok (.iload 4, 2) := by decide +kernel
theorem dX6_asks_151 : decode cX6_asks 151 = .ok (.aload_n 0, 1) := by decide +kernel
theorem dX6_asks_152 : decode cX6_asks 152 = .ok (.getfield 47, 3) := by decide +kernel
theorem dX6_asks_155 : decode cX6_asks 155 = .ok (.if_icmp .ge 8, 3) := by decide +kernel
theorem dX6_asks_158 : decode cX6_asks 158 = .ok (.iload 4, 2) := by decide +kernel
theorem dX6_asks_160 : decode cX6_asks 160 = .ok (.goto 5, 3) := by decide +kernel
theorem dX6_asks_163 : decode cX6_asks 163 = .ok (.bipush 7, 2) := by decide +kernel
theorem dX6_asks_165 : decode cX6_asks 165 = .ok (.iastore, 1) := by decide +kernel
theorem dX6_asks_166 : decode cX6_asks 166 = .ok (.aload_n 0, 1) := by decide +kernel
theorem dX6_asks_167 : decode cX6_asks 167 = .ok (.dup, 1) := by decide +kernel
theorem dX6_asks_168 : decode cX6_asks 168 = .ok (.getfield 97, 3) := by decide +kernel
theorem dX6_asks_171 : decode cX6_asks 171 = .ok (.iconst 1, 1) := by decide +kernel
theorem dX6_asks_172 : decode cX6_asks 172 = .ok (.iadd, 1) := by decide +kernel
theorem dX6_asks_173 : decode cX6_asks 173 = .ok (.putfield 97, 3) := by decide +kernel
theorem dX6_asks_176 : decode cX6_asks 176 = .ok (.aload_n 0, 1) := by decide +kernel
theorem dX6_asks_177 : decode cX6_asks 177 = .ok (.bipush (-9), 2) := by decide +kernel
theorem dX6_asks_179 : decode cX6_asks 179 = .ok (.putfield 100, 3) := by decide +kernel
theorem dX6_asks_182 : decode cX6_asks 182 = .ok (.return_, 1) := by decide +kernel
theorem dX6_winnerOf_0 : decode cX6_winnerOf 0 = .ok (.aload_n 0, 1) := by decide +kernel
theorem dX6_winnerOf_1 : decode cX6_winnerOf 1 = .ok (.iload_n 1, 1) := by decide +kernel
theorem dX6_winnerOf_2 : decode cX6_winnerOf 2 = .ok (.iconst 0, 1) := by decide +kernel
theorem dX6_winnerOf_3 : decode cX6_winnerOf 3 = .ok (.bipush (-9), 2) := by decide +kernel
theorem dX6_winnerOf_5 : decode cX6_winnerOf 5 = .ok (.invokevirtual 103, 3) := by decide +kernel
theorem dX6_winnerOf_8 : decode cX6_winnerOf 8 = .ok (.istore_n 2, 1) := by decide +kernel
theorem dX6_winnerOf_9 : decode cX6_winnerOf 9 = .ok (.iload_n 2, 1) := by decide +kernel
theorem dX6_winnerOf_10 : decode cX6_winnerOf 10 = .ok (.aload_n 0, 1) := by decide +kernel
theorem dX6_winnerOf_11 : decode cX6_winnerOf 11 = .ok (.getfield 47, 3) := by decide +kernel
theorem dX6_winnerOf_14 : decode cX6_winnerOf 14 = .ok (.if_icmp .ge 7, 3) := by decide +kernel
theorem dX6_winnerOf_17 : decode cX6_winnerOf 17 = .ok (.iload_n 2, 1) := by decide +kernel
theorem dX6_winnerOf_18 : decode cX6_winnerOf 18 = .ok (.goto 5, 3) := by decide +kernel
theorem dX6_winnerOf_21 : decode cX6_winnerOf 21 = .ok (.bipush (-9), 2) := by decide +kernel
theorem dX6_winnerOf_23 : decode cX6_winnerOf 23 = .ok (.ireturn, 1) := by decide +kernel
theorem dX6_wins_0 : decode cX6_wins 0 = .ok (.iconst 0, 1) := by decide +kernel
theorem dX6_wins_1 : decode cX6_wins 1 = .ok (.istore_n 2, 1) := by decide +kernel
theorem dX6_wins_2 : decode cX6_wins 2 = .ok (.iconst 0, 1) := by decide +kernel
theorem dX6_wins_3 : decode cX6_wins 3 = .ok (.istore_n 3, 1) := by decide +kernel
theorem dX6_wins_4 : decode cX6_wins 4 = .ok (.iload_n 3, 1) := by decide +kernel
theorem dX6_wins_5 : decode cX6_wins 5 = .ok (.bipush 26, 2) := by decide +kernel
theorem dX6_wins_7 : decode cX6_wins 7 = .ok (.if_icmp .ge 26, 3) := by decide +kernel
theorem dX6_wins_10 : decode cX6_wins 10 = .ok (.iload_n 2, 1) := by decide +kernel
theorem dX6_wins_11 : decode cX6_wins 11 = .ok (.aload_n 0, 1) := by decide +kernel
theorem dX6_wins_12 : decode cX6_wins 12 = .ok (.iload_n 3, 1) := by decide +kernel
theorem dX6_wins_13 : decode cX6_wins 13 = .ok (.invokevirtual 113, 3) := by decide +kernel
theorem dX6_wins_16 : decode cX6_wins 16 = .ok (.iload_n 1, 1) := by decide +kernel
theorem dX6_wins_17 : decode cX6_wins 17 = .ok (.if_icmp .ne 7, 3) := by decide +kernel
theorem dX6_wins_20 : decode cX6_wins 20 = .ok (.iconst 1, 1) := by decide +kernel
theorem dX6_wins_21 : decode cX6_wins 21 = .ok (.goto 4, 3) := by decide +kernel
theorem dX6_wins_24 : decode cX6_wins 24 = .ok (.iconst 0, 1) := by decide +kernel
theorem dX6_wins_25 : decode cX6_wins 25 = .ok (.iadd, 1) := by decide +kernel
theorem dX6_wins_26 : decode cX6_wins 26 = .ok (.istore_n 2, 1) := by decide +kernel
theorem dX6_wins_27 : decode cX6_wins 27 = .ok (.iinc 3 1, 3) := by decide +kernel
theorem dX6_wins_30 : decode cX6_wins 30 = .ok (.goto (-26), 3) := by decide +kernel
theorem dX6_wins_33 : decode cX6_wins 33 = .ok (.iload_n 2, 1) := by decide +kernel
theorem dX6_wins_34 : decode cX6_wins 34 = .ok (.ireturn, 1) := by decide +kernel
theorem dX6_ofRule_0 : decode cX6_ofRule 0 = .ok (.aload_n 0, 1) := by decide +kernel
theorem dX6_ofRule_1 : decode cX6_ofRule 1 = .ok (.iload_n 1, 1) := by decide +kernel
theorem dX6_ofRule_2 : decode cX6_ofRule 2 = .ok (.invokevirtual 116, 3) := by decide +kernel
theorem dX6_ofRule_5 : decode cX6_ofRule 5 = .ok (.ifCond .ne 5, 3) := by decide +kernel
theorem dX6_ofRule_8 : decode cX6_ofRule 8 = .ok (.iconst (-1), 1) := by decide +kernel
theorem dX6_ofRule_9 : decode cX6_ofRule 9 = .ok (.ireturn, 1) := by decide +kernel
theorem dX6_ofRule_10 : decode cX6_ofRule 10 = .ok (.iload_n 2, 1) := by decide +kernel
theorem dX6_ofRule_11 : decode cX6_ofRule 11 = .ok (.iconst 0, 1) := by decide +kernel
theorem dX6_ofRule_12 : decode cX6_ofRule 12 = .ok (.iconst 4, 1) := by decide +kernel
theorem dX6_ofRule_13 : decode cX6_ofRule 13 = .ok (.invokestatic 43, 3) := by decide +kernel
theorem dX6_ofRule_16 : decode cX6_ofRule 16 = .ok (.ifCond .eq 14, 3) := by decide +kernel
theorem dX6_ofRule_19 : decode cX6_ofRule 19 = .ok (.aload_n 0, 1) := by decide +kernel
theorem dX6_ofRule_20 : decode cX6_ofRule 20 = .ok (.getfield 19, 3) := by decide +kernel
theorem dX6_ofRule_23 : decode cX6_ofRule 23 = .ok (.iconst 5, 1) := by decide +kernel
theorem dX6_ofRule_24 : decode cX6_ofRule 24 = .ok (.iload_n 1, 1) := by decide +kernel
theorem dX6_ofRule_25 : decode cX6_ofRule 25 = .ok (.imul, 1) := by decide +kernel
theorem dX6_ofRule_26 : decode cX6_ofRule 26 = .ok (.iload_n 2, 1) := by decide +kernel
theorem dX6_ofRule_27 : decode cX6_ofRule 27 = .ok (.iadd, 1) := by decide +kernel
theorem dX6_ofRule_28 : decode cX6_ofRule 28 = .ok (.iaload, 1) := by decide +kernel
theorem dX6_ofRule_29 : decode cX6_ofRule 29 = .ok (.ireturn, 1) := by decide +kernel
theorem dX6_ofRule_30 : decode cX6_ofRule 30 = .ok (.iload_n 2, 1) := by decide +kernel
theorem dX6_ofRule_31 : decode cX6_ofRule 31 = .ok (.iconst 5, 1) := by decide +kernel
theorem dX6_ofRule_32 : decode cX6_ofRule 32 = .ok (.if_icmp .ne 11, 3) := by decide +kernel
theorem dX6_ofRule_35 : decode cX6_ofRule 35 = .ok (.aload_n 0, 1) := by decide +kernel
theorem dX6_ofRule_36 : decode cX6_ofRule 36 = .ok (.iload_n 1, 1) := by decide +kernel
theorem dX6_ofRule_37 : decode cX6_ofRule 37 = .ok (.invokevirtual 110, 3) := by decide +kernel
theorem dX6_ofRule_40 : decode cX6_ofRule 40 = .ok (.goto 19, 3) := by decide +kernel
theorem dX6_ofRule_43 : decode cX6_ofRule 43 = .ok (.iload_n 2, 1) := by decide +kernel
theorem dX6_ofRule_44 : decode cX6_ofRule 44 = .ok (.bipush 6, 2) := by decide +kernel
theorem dX6_ofRule_46 : decode cX6_ofRule 46 = .ok (.if_icmp .ne 11, 3) := by decide +kernel
theorem dX6_ofRule_49 : decode cX6_ofRule 49 = .ok (.aload_n 0, 1) := by decide +kernel
theorem dX6_ofRule_50 : decode cX6_ofRule 50 = .ok (.iload_n 1, 1) := by decide +kernel
theorem dX6_ofRule_51 : decode cX6_ofRule 51 = .ok (.invokevirtual 119, 3) := by decide +kernel
theorem dX6_ofRule_54 : decode cX6_ofRule 54 = .ok (.goto 5, 3) := by decide +kernel
theorem dX6_ofRule_57 : decode cX6_ofRule 57 = .ok (.bipush (-2), 2) := by decide +kernel
theorem dX6_ofRule_59 : decode cX6_ofRule 59 = .ok (.ireturn, 1) := by decide +kernel
theorem dX6_number_0 : decode cX6_number 0 = .ok (.aload_n 0, 1) := by decide +kernel
theorem dX6_number_1 : decode cX6_number 1 = .ok (.iload_n 1, 1) := by decide +kernel
theorem dX6_number_2 : decode cX6_number 2 = .ok (.invokevirtual 116, 3) := by decide +kernel
theorem dX6_number_5 : decode cX6_number 5 = .ok (.ifCond .ne 5, 3) := by decide +kernel
theorem dX6_number_8 : decode cX6_number 8 = .ok (.iconst (-1), 1) := by decide +kernel
theorem dX6_number_9 : decode cX6_number 9 = .ok (.ireturn, 1) := by decide +kernel
theorem dX6_number_10 : decode cX6_number 10 = .ok (.iload_n 2, 1) := by decide +kernel
theorem dX6_number_11 : decode cX6_number 11 = .ok (.iconst 1, 1) := by decide +kernel
theorem dX6_number_12 : decode cX6_number 12 = .ok (.bipush 9, 2) := by decide +kernel
theorem dX6_number_14 : decode cX6_number 14 = .ok (.invokestatic 43, 3) := by decide +kernel
theorem dX6_number_17 : decode cX6_number 17 = .ok (.ifCond .ne 6, 3) := by decide +kernel
theorem dX6_number_20 : decode cX6_number 20 = .ok (.bipush (-2), 2) := by decide +kernel
theorem dX6_number_22 : decode cX6_number 22 = .ok (.ireturn, 1) := by decide +kernel
theorem dX6_number_23 : decode cX6_number 23 = .ok (.aload_n 0, 1) := by decide +kernel
theorem dX6_number_24 : decode cX6_number 24 = .ok (.iload_n 1, 1) := by decide +kernel
theorem dX6_number_25 : decode cX6_number 25 = .ok (.invokevirtual 54, 3) := by decide +kernel
theorem dX6_number_28 : decode cX6_number 28 = .ok (.istore_n 3, 1) := by decide +kernel
theorem dX6_number_29 : decode cX6_number 29 = .ok (.aload_n 0, 1) := by decide +kernel
theorem dX6_number_30 : decode cX6_number 30 = .ok (.getfield 19, 3) := by decide +kernel
theorem dX6_number_33 : decode cX6_number 33 = .ok (.iconst 5, 1) := by decide +kernel
theorem dX6_number_34 : decode cX6_number 34 = .ok (.iload_n 1, 1) := by decide +kernel
theorem dX6_number_35 : decode cX6_number 35 = .ok (.imul, 1) := by decide +kernel
theorem dX6_number_36 : decode cX6_number 36 = .ok (.iconst 2, 1) := by decide +kernel
theorem dX6_number_37 : decode cX6_number 37 = .ok (.iadd, 1) := by decide +kernel
theorem dX6_number_38 : decode cX6_number 38 = .ok (.iload_n 2, 1) := by decide +kernel
theorem dX6_number_39 : decode cX6_number 39 = .ok (.iastore, 1) := by decide +kernel
theorem dX6_number_40 : decode cX6_number 40 = .ok (.iload_n 3, 1) := by decide +kernel
theorem dX6_number_41 : decode cX6_number 41 = .ok (.ireturn, 1) := by decide +kernel
theorem dX6_insert_0 : decode cX6_insert 0 = .ok (.aload_n 0, 1) := by decide +kernel
theorem dX6_insert_1 : decode cX6_insert 1 = .ok (.getfield 47, 3) := by decide +kernel
theorem dX6_insert_4 : decode cX6_insert 4 = .ok (.ifCond .ne 6, 3) := by decide +kernel
theorem dX6_insert_7 : decode cX6_insert 7 = .ok (.bipush (-3), 2) := by decide +kernel
theorem dX6_insert_9 : decode cX6_insert 9 = .ok (.ireturn, 1) := by decide +kernel
theorem dX6_insert_10 : decode cX6_insert 10 = .ok (.iload_n 1, 1) := by decide +kernel
theorem dX6_insert_11 : decode cX6_insert 11 = .ok (.iconst 0, 1) := by decide +kernel
theorem dX6_insert_12 : decode cX6_insert 12 = .ok (.aload_n 0, 1) := by decide +kernel
theorem dX6_insert_13 : decode cX6_insert 13 = .ok (.getfield 47, 3) := by decide +kernel
theorem dX6_insert_16 : decode cX6_insert 16 = .ok (.invokestatic 43, 3) := by decide +kernel
theorem dX6_insert_19 : decode cX6_insert 19 = .ok (.ifCond .eq 52, 3) := by decide +kernel
theorem dX6_insert_22 : decode cX6_insert 22 = .ok (.iload_n 2, 1) := by decide +kernel
theorem dX6_insert_23 : decode cX6_insert 23 = .ok (.iconst 0, 1) := by decide +kernel
theorem dX6_insert_24 : decode cX6_insert 24 = .ok (.iconst 2, 1) := by decide +kernel
theorem dX6_insert_25 : decode cX6_insert 25 = .ok (.invokestatic 43, 3) := by decide +kernel
theorem dX6_insert_28 : decode cX6_insert 28 = .ok (.ifCond .eq 43, 3) := by decide +kernel
theorem dX6_insert_31 : decode cX6_insert 31 = .ok (.iload_n 3, 1) := by decide +kernel
theorem dX6_insert_32 : decode cX6_insert 32 = .ok (.iconst 0, 1) := by decide +kernel
theorem dX6_insert_33 : decode cX6_insert 33 = .ok (.iconst 2, 1) := by decide +kernel
theorem dX6_insert_34 : decode cX6_insert 34 = .ok (.invokestatic 43, 3) := by decide +kernel
theorem dX6_insert_37 : decode cX6_insert 37 = .ok (.ifCond .eq 34, 3) := by decide +kernel
theorem dX6_insert_40 : decode cX6_insert 40 = .ok (.iload 4, 2) := by decide +kernel
theorem dX6_insert_42 : decode cX6_insert 42 = .ok (.iconst 1, 1) := by decide +kernel
theorem dX6_insert_43 : decode cX6_insert 43 = .ok (.bipush 9, 2) := by decide +kernel
theorem dX6_insert_45 : decode cX6_insert 45 = .ok (.invokestatic 43, 3) := by decide +kernel
theorem dX6_insert_48 : decode cX6_insert 48 = .ok (.ifCond .eq 23, 3) := by decide +kernel
theorem dX6_insert_51 : decode cX6_insert 51 = .ok (.iload 5, 2) := by decide +kernel
theorem dX6_insert_53 : decode cX6_insert 53 = .ok (.invokestatic 122, 3) := by decide +kernel
theorem dX6_insert_56 : decode cX6_insert 56 = .ok (.ifCond .eq 15, 3) := by decide +kernel
theorem dX6_insert_59 : decode cX6_insert 59 = .ok (.iload 6, 2) := by decide +kernel
theorem dX6_insert_61 : decode cX6_insert 61 = .ok (.iload 5, 2) := by decide +kernel
theorem dX6_insert_63 : decode cX6_insert 63 = .ok (.bipush 25, 2) := by decide +kernel
theorem dX6_insert_65 : decode cX6_insert 65 = .ok (.invokestatic 43, 3) := by decide +kernel
theorem dX6_insert_68 : decode cX6_insert 68 = .ok (.ifCond .ne 6, 3) := by decide +kernel
theorem dX6_insert_71 : decode cX6_insert 71 = .ok (.bipush (-2), 2) := by decide +kernel
theorem dX6_insert_73 : decode cX6_insert 73 = .ok (.ireturn, 1) := by decide +kernel
theorem dX6_insert_74 : decode cX6_insert 74 = .ok (.aload_n 0, 1) := by decide +kernel
theorem dX6_insert_75 : decode cX6_insert 75 = .ok (.getfield 47, 3) := by decide +kernel
theorem dX6_insert_78 : decode cX6_insert 78 = .ok (.bipush 7, 2) := by decide +kernel
theorem dX6_insert_80 : decode cX6_insert 80 = .ok (.if_icmp .ne 6, 3) := by decide +kernel
theorem dX6_insert_83 : decode cX6_insert 83 = .ok (.bipush (-4), 2) := by decide +kernel
theorem dX6_insert_85 : decode cX6_insert 85 = .ok (.ireturn, 1) := by decide +kernel
theorem dX6_insert_86 : decode cX6_insert 86 = .ok (.iconst 5, 1) := by decide +kernel
theorem dX6_insert_87 : decode cX6_insert 87 = .ok (.aload_n 0, 1) := by decide +kernel
theorem dX6_insert_88 : decode cX6_insert 88 = .ok (.getfield 47, 3) := by decide +kernel
theorem dX6_insert_91 : decode cX6_insert 91 = .ok (.imul, 1) := by decide +kernel
theorem dX6_insert_92 : decode cX6_insert 92 = .ok (.iconst 1, 1) := by decide +kernel
theorem dX6_insert_93 : decode cX6_insert 93 = .ok (.isub, 1) := by decide +kernel
theorem dX6_insert_94 : decode cX6_insert 94 = .ok (.istore 7, 2) := by decide +kernel
theorem dX6_insert_96 : decode cX6_insert 96 = .ok (.iload 7, 2) := by decide +kernel
theorem dX6_insert_98 : decode cX6_insert 98 = .ok (.iconst 5, 1) := by decide +kernel
theorem dX6_insert_99 : decode cX6_insert 99 = .ok (.iload_n 1, 1) := by decide +kernel
theorem dX6_insert_100 : decode cX6_insert 100 = .ok (.imul, 1) := by decide +kernel
theorem dX6_insert_101 : decode cX6_insert 101 = .ok (.if_icmp .lt 25, 3) := by decide +kernel
theorem dX6_insert_104 : decode cX6_insert 104 = .ok (.aload_n 0, 1) := by decide +kernel
theorem dX6_insert_105 : decode cX6_insert 105 = .ok (.getfield 19, 3) := by decide +kernel
theorem dX6_insert_108 : decode cX6_insert 108 = .ok (.iload 7, 2) := by decide +kernel
theorem dX6_insert_110 : decode cX6_insert 110 = .ok (.iconst 5, 1) := by decide +kernel
theorem dX6_insert_111 : decode cX6_insert 111 = .ok (.iadd, 1) := by decide +kernel
theorem dX6_insert_112 : decode cX6_insert 112 = .ok (.aload_n 0, 1) := by decide +kernel
theorem dX6_insert_113 : decode cX6_insert 113 = .ok (.getfield 19, 3) := by decide +kernel
theorem dX6_insert_116 : decode cX6_insert 116 = .ok (.iload 7, 2) := by decide +kernel
theorem dX6_insert_118 : decode cX6_insert 118 = .ok (.iaload, 1) := by decide +kernel
theorem dX6_insert_119 : decode cX6_insert 119 = .ok (.iastore, 1) := by decide +kernel
theorem dX6_insert_120 : decode cX6_insert 120 = .ok (.iinc 7 (-1), 3) := by decide +kernel
theorem dX6_insert_123 : decode cX6_insert 123 = .ok (.goto (-27), 3) := by decide +kernel
theorem dX6_insert_126 : decode cX6_insert 126 = .ok (.aload_n 0, 1) := by decide +kernel
theorem dX6_insert_127 : decode cX6_insert 127 = .ok (.getfield 19, 3) := by decide +kernel
theorem dX6_insert_130 : decode cX6_insert 130 = .ok (.iconst 5, 1) := by decide +kernel
theorem dX6_insert_131 : decode cX6_insert 131 = .ok (.iload_n 1, 1) := by decide +kernel
theorem dX6_insert_132 : decode cX6_insert 132 = .ok (.imul, 1) := by decide +kernel
theorem dX6_insert_133 : decode cX6_insert 133 = .ok (.iload_n 2, 1) := by decide +kernel
theorem dX6_insert_134 : decode cX6_insert 134 = .ok (.iastore, 1) := by decide +kernel
theorem dX6_insert_135 : decode cX6_insert 135 = .ok (.aload_n 0, 1) := by decide +kernel
theorem dX6_insert_136 : decode cX6_insert 136 = .ok (.getfield 19, 3) := by decide +kernel
theorem dX6_insert_139 : decode cX6_insert 139 = .ok (.iconst 5, 1) := by decide +kernel
theorem dX6_insert_140 : decode cX6_insert 140 = .ok (.iload_n 1, 1) := by decide +kernel
theorem dX6_insert_141 : decode cX6_insert 141 = .ok (.imul, 1) := by decide +kernel
theorem dX6_insert_142 : decode cX6_insert 142 = .ok (.iconst 1, 1) := by decide +kernel
theorem dX6_insert_143 : decode cX6_insert 143 = .ok (.iadd, 1) := by decide +kernel
theorem dX6_insert_144 : decode cX6_insert 144 = .ok (.iload_n 3, 1) := by decide +kernel
theorem dX6_insert_145 : decode cX6_insert 145 = .ok (.iastore, 1) := by decide +kernel
theorem dX6_insert_146 : decode cX6_insert 146 = .ok (.aload_n 0, 1) := by decide +kernel
theorem dX6_insert_147 : decode cX6_insert 147 = .ok (.getfield 19, 3) := by decide +kernel
theorem dX6_insert_150 : decode cX6_insert 150 = .ok (.iconst 5, 1) := by decide +kernel
theorem dX6_insert_151 : decode cX6_insert 151 = .ok (.iload_n 1, 1) := by decide +kernel
theorem dX6_insert_152 : decode cX6_insert 152 = .ok (.imul, 1) := by decide +kernel
theorem dX6_insert_153 : decode cX6_insert 153 = .ok (.iconst 2, 1) := by decide +kernel
theorem dX6_insert_154 : decode cX6_insert 154 = .ok (.iadd, 1) := by decide +kernel
theorem dX6_insert_155 : decode cX6_insert 155 = .ok (.iload 4, 2) := by decide +kernel
theorem dX6_insert_157 : decode cX6_insert 157 = .ok (.iastore, 1) := by decide +kernel
theorem dX6_insert_158 : decode cX6_insert 158 = .ok (.aload_n 0, 1) := by decide +kernel
theorem dX6_insert_159 : decode cX6_insert 159 = .ok (.getfield 19, 3) := by decide +kernel
theorem dX6_insert_162 : decode cX6_insert 162 = .ok (.iconst 5, 1) := by decide +kernel
theorem dX6_insert_163 : decode cX6_insert 163 = .ok (.iload_n 1, 1) := by decide +kernel
theorem dX6_insert_164 : decode cX6_insert 164 = .ok (.imul, 1) := by decide +kernel
theorem dX6_insert_165 : decode cX6_insert 165 = .ok (.iconst 3, 1) := by decide +kernel
theorem dX6_insert_166 : decode cX6_insert 166 = .ok (.iadd, 1) := by decide +kernel
theorem dX6_insert_167 : decode cX6_insert 167 = .ok (.iload 5, 2) := by decide +kernel
theorem dX6_insert_169 : decode cX6_insert 169 = .ok (.iastore, 1) := by decide +kernel
theorem dX6_insert_170 : decode cX6_insert 170 = .ok (.aload_n 0, 1) := by decide +kernel
theorem dX6_insert_171 : decode cX6_insert 171 = .ok (.getfield 19, 3) := by decide +kernel
theorem dX6_insert_174 : decode cX6_insert 174 = .ok (.iconst 5, 1) := by decide +kernel
theorem dX6_insert_175 : decode cX6_insert 175 = .ok (.iload_n 1, 1) := by decide +kernel
theorem dX6_insert_176 : decode cX6_insert 176 = .ok (.imul, 1) := by decide +kernel
theorem dX6_insert_177 : decode cX6_insert 177 = .ok (.iconst 4, 1) := by decide +kernel
theorem dX6_insert_178 : decode cX6_insert 178 = .ok (.iadd, 1) := by decide +kernel
theorem dX6_insert_179 : decode cX6_insert 179 = .ok (.iload 6, 2) := by decide +kernel
theorem dX6_insert_181 : decode cX6_insert 181 = .ok (.iastore, 1) := by decide +kernel
theorem dX6_insert_182 : decode cX6_insert 182 = .ok (.aload_n 0, 1) := by decide +kernel
theorem dX6_insert_183 : decode cX6_insert 183 = .ok (.dup, 1) := by decide +kernel
theorem dX6_insert_184 : decode cX6_insert 184 = .ok (.getfield 47, 3) := by decide +kernel
theorem dX6_insert_187 : decode cX6_insert 187 = .ok (.iconst 1, 1) := by decide +kernel
theorem dX6_insert_188 : decode cX6_insert 188 = .ok (.iadd, 1) := by decide +kernel
theorem dX6_insert_189 : decode cX6_insert 189 = .ok (.putfield 47, 3) := by decide +kernel
theorem dX6_insert_192 : decode cX6_insert 192 = .ok (.aload_n 0, 1) := by decide +kernel
theorem dX6_insert_193 : decode cX6_insert 193 = .ok (.getfield 47, 3) := by decide +kernel
theorem dX6_insert_196 : decode cX6_insert 196 = .ok (.ireturn, 1) := by decide +kernel
theorem dX6_takes_0 : decode cX6_takes 0 = .ok (.aload_n 0, 1) := by decide +kernel
theorem dX6_takes_1 : decode cX6_takes 1 = .ok (.dup, 1) := by decide +kernel
theorem dX6_takes_2 : decode cX6_takes 2 = .ok (.getfield 47, 3) := by decide +kernel
theorem dX6_takes_5 : decode cX6_takes 5 = .ok (.iconst 1, 1) := by decide +kernel
theorem dX6_takes_6 : decode cX6_takes 6 = .ok (.isub, 1) := by decide +kernel
theorem dX6_takes_7 : decode cX6_takes 7 = .ok (.putfield 47, 3) := by decide +kernel
theorem dX6_takes_10 : decode cX6_takes 10 = .ok (.iconst 5, 1) := by decide +kernel
theorem dX6_takes_11 : decode cX6_takes 11 = .ok (.iload_n 1, 1) := by decide +kernel
theorem dX6_takes_12 : decode cX6_takes 12 = .ok (.imul, 1) := by decide +kernel
theorem dX6_takes_13 : decode cX6_takes 13 = .ok (.istore_n 2, 1) := by decide +kernel
theorem dX6_takes_14 : decode cX6_takes 14 = .ok (.iload_n 2, 1) := by decide +kernel
theorem dX6_takes_15 : decode cX6_takes 15 = .ok (.iconst 5, 1) := by decide +kernel
theorem dX6_takes_16 : decode cX6_takes 16 = .ok (.aload_n 0, 1) := by decide +kernel
theorem dX6_takes_17 : decode cX6_takes 17 = .ok (.getfield 47, 3) := by decide +kernel
theorem dX6_takes_20 : decode cX6_takes 20 = .ok (.imul, 1) := by decide +kernel
theorem dX6_takes_21 : decode cX6_takes 21 = .ok (.if_icmp .ge 23, 3) := by decide +kernel
theorem dX6_takes_24 : decode cX6_takes 24 = .ok (.aload_n 0, 1) := by decide +kernel
theorem dX6_takes_25 : decode cX6_takes 25 = .ok (.getfield 19, 3) := by decide +kernel
theorem dX6_takes_28 : decode cX6_takes 28 = .ok (.iload_n 2, 1) := by decide +kernel
theorem dX6_takes_29 : decode cX6_takes 29 = .ok (.aload_n 0, 1) := by decide +kernel
theorem dX6_takes_30 : decode cX6_takes 30 = .ok (.getfield 19, 3) := by decide +kernel
theorem dX6_takes_33 : decode cX6_takes 33 = .ok (.iload_n 2, 1) := by decide +kernel
theorem dX6_takes_34 : decode cX6_takes 34 = .ok (.iconst 5, 1) := by decide +kernel
theorem dX6_takes_35 : decode cX6_takes 35 = .ok (.iadd, 1) := by decide +kernel
theorem dX6_takes_36 : decode cX6_takes 36 = .ok (.iaload, 1) := by decide +kernel
theorem dX6_takes_37 : decode cX6_takes 37 = .ok (.iastore, 1) := by decide +kernel
theorem dX6_takes_38 : decode cX6_takes 38 = .ok (.iinc 2 1, 3) := by decide +kernel
theorem dX6_takes_41 : decode cX6_takes 41 = .ok (.goto (-27), 3) := by decide +kernel
theorem dX6_takes_44 : decode cX6_takes 44 = .ok (.return_, 1) := by decide +kernel
theorem dX6_remove_0 : decode cX6_remove 0 = .ok (.aload_n 0, 1) := by decide +kernel
theorem dX6_remove_1 : decode cX6_remove 1 = .ok (.iload_n 1, 1) := by decide +kernel
theorem dX6_remove_2 : decode cX6_remove 2 = .ok (.invokevirtual 116, 3) := by decide +kernel
theorem dX6_remove_5 : decode cX6_remove 5 = .ok (.ifCond .ne 5, 3) := by decide +kernel
theorem dX6_remove_8 : decode cX6_remove 8 = .ok (.iconst (-1), 1) := by decide +kernel
theorem dX6_remove_9 : decode cX6_remove 9 = .ok (.ireturn, 1) := by decide +kernel
theorem dX6_remove_10 : decode cX6_remove 10 = .ok (.aload_n 0, 1) := by decide +kernel
theorem dX6_remove_11 : decode cX6_remove 11 = .ok (.getfield 47, 3) := by decide +kernel
theorem dX6_remove_14 : decode cX6_remove 14 = .ok (.iconst 1, 1) := by decide +kernel
theorem dX6_remove_15 : decode cX6_remove 15 = .ok (.if_icmp .ne 6, 3) := by decide +kernel
theorem dX6_remove_18 : decode cX6_remove 18 = .ok (.bipush (-3), 2) := by decide +kernel
theorem dX6_remove_20 : decode cX6_remove 20 = .ok (.ireturn, 1) := by decide +kernel
theorem dX6_remove_21 : decode cX6_remove 21 = .ok (.aload_n 0, 1) := by decide +kernel
theorem dX6_remove_22 : decode cX6_remove 22 = .ok (.iload_n 1, 1) := by decide +kernel
theorem dX6_remove_23 : decode cX6_remove 23 = .ok (.invokevirtual 125, 3) := by decide +kernel
theorem dX6_remove_26 : decode cX6_remove 26 = .ok (.aload_n 0, 1) := by decide +kernel
theorem dX6_remove_27 : decode cX6_remove 27 = .ok (.getfield 47, 3) := by decide +kernel
theorem dX6_remove_30 : decode cX6_remove 30 = .ok (.ireturn, 1) := by decide +kernel
theorem dX6_changes_0 : decode cX6_changes 0 = .ok (.iconst 5, 1) := by decide +kernel
theorem dX6_changes_1 : decode cX6_changes 1 = .ok (.iload_n 1, 1) := by decide +kernel
theorem dX6_changes_2 : decode cX6_changes 2 = .ok (.imul, 1) := by decide +kernel
theorem dX6_changes_3 : decode cX6_changes 3 = .ok (.istore_n 2, 1) := by decide +kernel
theorem dX6_changes_4 : decode cX6_changes 4 = .ok (.iload_n 2, 1) := by decide +kernel
theorem dX6_changes_5 : decode cX6_changes 5 = .ok (.iconst 5, 1) := by decide +kernel
theorem dX6_changes_6 : decode cX6_changes 6 = .ok (.iload_n 1, 1) := by decide +kernel
theorem dX6_changes_7 : decode cX6_changes 7 = .ok (.imul, 1) := by decide +kernel
theorem dX6_changes_8 : decode cX6_changes 8 = .ok (.iconst 5, 1) := by decide +kernel
theorem dX6_changes_9 : decode cX6_changes 9 = .ok (.iadd, 1) := by decide +kernel
theorem dX6_changes_10 : decode cX6_changes 10 = .ok (.if_icmp .ge 39, 3) := by decide +kernel
theorem dX6_changes_13 : decode cX6_changes 13 = .ok (.aload_n 0, 1) := by decide +kernel
theorem dX6_changes_14 : decode cX6_changes 14 = .ok (.getfield 19, 3) := by decide +kernel
theorem dX6_changes_17 : decode cX6_changes 17 = .ok (.iload_n 2, 1) := by decide +kernel
theorem dX6_changes_18 : decode cX6_changes 18 = .ok (.iaload, 1) := by decide +kernel
theorem dX6_changes_19 : decode cX6_changes 19 = .ok (.istore_n 3, 1) := by decide +kernel
theorem dX6_changes_20 : decode cX6_changes 20 = .ok (.aload_n 0, 1) := by decide +kernel
theorem dX6_changes_21 : decode cX6_changes 21 = .ok (.getfield 19, 3) := by decide +kernel
theorem dX6_changes_24 : decode cX6_changes 24 = .ok (.iload_n 2, 1) := by decide +kernel
theorem dX6_changes_25 : decode cX6_changes 25 = .ok (.aload_n 0, 1) := by decide +kernel
theorem dX6_changes_26 : decode cX6_changes 26 = .ok (.getfield 19, 3) := by decide +kernel
theorem dX6_changes_29 : decode cX6_changes 29 = .ok (.iload_n 2, 1) := by decide +kernel
theorem dX6_changes_30 : decode cX6_changes 30 = .ok (.iconst 5, 1) := by decide +kernel
theorem dX6_changes_31 : decode cX6_changes 31 = .ok (.iadd, 1) := by decide +kernel
theorem dX6_changes_32 : decode cX6_changes 32 = .ok (.iaload, 1) := by decide +kernel
theorem dX6_changes_33 : decode cX6_changes 33 = .ok (.iastore, 1) := by decide +kernel
theorem dX6_changes_34 : decode cX6_changes 34 = .ok (.aload_n 0, 1) := by decide +kernel
theorem dX6_changes_35 : decode cX6_changes 35 = .ok (.getfield 19, 3) := by decide +kernel
theorem dX6_changes_38 : decode cX6_changes 38 = .ok (.iload_n 2, 1) := by decide +kernel
theorem dX6_changes_39 : decode cX6_changes 39 = .ok (.iconst 5, 1) := by decide +kernel
theorem dX6_changes_40 : decode cX6_changes 40 = .ok (.iadd, 1) := by decide +kernel
theorem dX6_changes_41 : decode cX6_changes 41 = .ok (.iload_n 3, 1) := by decide +kernel
theorem dX6_changes_42 : decode cX6_changes 42 = .ok (.iastore, 1) := by decide +kernel
theorem dX6_changes_43 : decode cX6_changes 43 = .ok (.iinc 2 1, 3) := by decide +kernel
theorem dX6_changes_46 : decode cX6_changes 46 = .ok (.goto (-42), 3) := by decide +kernel
theorem dX6_changes_49 : decode cX6_changes 49 = .ok (.return_, 1) := by decide +kernel
theorem dX6_swap_0 : decode cX6_swap 0 = .ok (.aload_n 0, 1) := by decide +kernel
theorem dX6_swap_1 : decode cX6_swap 1 = .ok (.iload_n 1, 1) := by decide +kernel
theorem dX6_swap_2 : decode cX6_swap 2 = .ok (.invokevirtual 116, 3) := by decide +kernel
theorem dX6_swap_5 : decode cX6_swap 5 = .ok (.ifCond .eq 13, 3) := by decide +kernel
theorem dX6_swap_8 : decode cX6_swap 8 = .ok (.iload_n 1, 1) := by decide +kernel
theorem dX6_swap_9 : decode cX6_swap 9 = .ok (.iconst 1, 1) := by decide +kernel
theorem dX6_swap_10 : decode cX6_swap 10 = .ok (.iadd, 1) := by decide +kernel
theorem dX6_swap_11 : decode cX6_swap 11 = .ok (.aload_n 0, 1) := by decide +kernel
theorem dX6_swap_12 : decode cX6_swap 12 = .ok (.getfield 47, 3) := by decide +kernel
theorem dX6_swap_15 : decode cX6_swap 15 = .ok (.if_icmp .lt 5, 3) := by decide +kernel
theorem dX6_swap_18 : decode cX6_swap 18 = .ok (.iconst (-1), 1) := by decide +kernel
theorem dX6_swap_19 : decode cX6_swap 19 = .ok (.ireturn, 1) := by decide +kernel
theorem dX6_swap_20 : decode cX6_swap 20 = .ok (.aload_n 0, 1) := by decide +kernel
theorem dX6_swap_21 : decode cX6_swap 21 = .ok (.iload_n 1, 1) := by decide +kernel
theorem dX6_swap_22 : decode cX6_swap 22 = .ok (.invokevirtual 129, 3) := by decide +kernel
theorem dX6_swap_25 : decode cX6_swap 25 = .ok (.iload_n 1, 1) := by decide +kernel
theorem dX6_swap_26 : decode cX6_swap 26 = .ok (.ireturn, 1) := by decide +kernel
theorem dX6_winner_0 : decode cX6_winner 0 = .ok (.iload_n 1, 1) := by decide +kernel
theorem dX6_winner_1 : decode cX6_winner 1 = .ok (.invokestatic 122, 3) := by decide +kernel
theorem dX6_winner_4 : decode cX6_winner 4 = .ok (.ifCond .ne 6, 3) := by decide +kernel
theorem dX6_winner_7 : decode cX6_winner 7 = .ok (.bipush (-2), 2) := by decide +kernel
theorem dX6_winner_9 : decode cX6_winner 9 = .ok (.ireturn, 1) := by decide +kernel
theorem dX6_winner_10 : decode cX6_winner 10 = .ok (.aload_n 0, 1) := by decide +kernel
theorem dX6_winner_11 : decode cX6_winner 11 = .ok (.getfield 47, 3) := by decide +kernel
theorem dX6_winner_14 : decode cX6_winner 14 = .ok (.ifCond .ne 8, 3) := by decide +kernel
theorem dX6_winner_17 : decode cX6_winner 17 = .ok (.bipush (-3), 2) := by decide +kernel
theorem dX6_winner_19 : decode cX6_winner 19 = .ok (.goto 8, 3) := by decide +kernel
theorem dX6_winner_22 : decode cX6_winner 22 = .ok (.aload_n 0, 1) := by decide +kernel
theorem dX6_winner_23 : decode cX6_winner 23 = .ok (.iload_n 1, 1) := by decide +kernel
theorem dX6_winner_24 : decode cX6_winner 24 = .ok (.invokevirtual 113, 3) := by decide +kernel
theorem dX6_winner_27 : decode cX6_winner 27 = .ok (.ireturn, 1) := by decide +kernel
theorem dX6_ask_0 : decode cX6_ask 0 = .ok (.iload_n 1, 1) := by decide +kernel
theorem dX6_ask_1 : decode cX6_ask 1 = .ok (.invokestatic 122, 3) := by decide +kernel
theorem dX6_ask_4 : decode cX6_ask 4 = .ok (.ifCond .eq 23, 3) := by decide +kernel
theorem dX6_ask_7 : decode cX6_ask 7 = .ok (.iload_n 2, 1) := by decide +kernel
theorem dX6_ask_8 : decode cX6_ask 8 = .ok (.iconst 0, 1) := by decide +kernel
theorem dX6_ask_9 : decode cX6_ask 9 = .ok (.iconst 1, 1) := by decide +kernel
theorem dX6_ask_10 : decode cX6_ask 10 = .ok (.invokestatic 43, 3) := by decide +kernel
theorem dX6_ask_13 : decode cX6_ask 13 = .ok (.ifCond .ne 17, 3) := by decide +kernel
theorem dX6_ask_16 : decode cX6_ask 16 = .ok (.iload_n 2, 1) := by decide +kernel
theorem dX6_ask_17 : decode cX6_ask 17 = .ok (.bipush 10, 2) := by decide +kernel
theorem dX6_ask_19 : decode cX6_ask 19 = .ok (.bipush 17, 2) := by decide +kernel
theorem dX6_ask_21 : decode cX6_ask 21 = .ok (.invokestatic 43, 3) := by decide +kernel
theorem dX6_ask_24 : decode cX6_ask 24 = .ok (.ifCond .ne 6, 3) := by decide +kernel
theorem dX6_ask_27 : decode cX6_ask 27 = .ok (.bipush (-2), 2) := by decide +kernel
theorem dX6_ask_29 : decode cX6_ask 29 = .ok (.ireturn, 1) := by decide +kernel
theorem dX6_ask_30 : decode cX6_ask 30 = .ok (.aload_n 0, 1) := by decide +kernel
theorem dX6_ask_31 : decode cX6_ask 31 = .ok (.getfield 47, 3) := by decide +kernel
theorem dX6_ask_34 : decode cX6_ask 34 = .ok (.ifCond .ne 6, 3) := by decide +kernel
theorem dX6_ask_37 : decode cX6_ask 37 = .ok (.bipush (-3), 2) := by decide +kernel
theorem dX6_ask_39 : decode cX6_ask 39 = .ok (.ireturn, 1) := by decide +kernel
theorem dX6_ask_40 : decode cX6_ask 40 = .ok (.aload_n 0, 1) := by decide +kernel
theorem dX6_ask_41 : decode cX6_ask 41 = .ok (.iload_n 1, 1) := by decide +kernel
theorem dX6_ask_42 : decode cX6_ask 42 = .ok (.bipush (-9), 2) := by decide +kernel
theorem dX6_ask_44 : decode cX6_ask 44 = .ok (.invokevirtual 132, 3) := by decide +kernel
theorem dX6_ask_47 : decode cX6_ask 47 = .ok (.iload_n 2, 1) := by decide +kernel
theorem dX6_ask_48 : decode cX6_ask 48 = .ok (.bipush 10, 2) := by decide +kernel
theorem dX6_ask_50 : decode cX6_ask 50 = .ok (.if_icmp .lt 29, 3) := by decide +kernel
theorem dX6_ask_53 : decode cX6_ask 53 = .ok (.iload_n 2, 1) := by decide +kernel
theorem dX6_ask_54 : decode cX6_ask 54 = .ok (.bipush 10, 2) := by decide +kernel
theorem dX6_ask_56 : decode cX6_ask 56 = .ok (.isub, 1) := by decide +kernel
theorem dX6_ask_57 : decode cX6_ask 57 = .ok (.aload_n 0, 1) := by decide +kernel
theorem dX6_ask_58 : decode cX6_ask 58 = .ok (.getfield 97, 3) := by decide +kernel
theorem dX6_ask_61 : decode cX6_ask 61 = .ok (.if_icmp .ge 15, 3) := by decide +kernel
theorem dX6_ask_64 : decode cX6_ask 64 = .ok (.aload_n 0, 1) := by decide +kernel
theorem dX6_ask_65 : decode cX6_ask 65 = .ok (.getfield 25, 3) := by decide +kernel
theorem dX6_ask_68 : decode cX6_ask 68 = .ok (.iload_n 2, 1) := by decide +kernel
theorem dX6_ask_69 : decode cX6_ask 69 = .ok (.bipush 10, 2) := by decide +kernel
theorem dX6_ask_71 : decode cX6_ask 71 = .ok (.isub, 1) := by decide +kernel
theorem dX6_ask_72 : decode cX6_ask 72 = .ok (.iaload, 1) := by decide +kernel
theorem dX6_ask_73 : decode cX6_ask 73 = .ok (.goto 5, 3) := by decide +kernel
theorem dX6_ask_76 : decode cX6_ask 76 = .ok (.bipush (-9), 2) := by decide +kernel
theorem dX6_ask_78 : decode cX6_ask 78 = .ok (.ireturn, 1) := by decide +kernel
theorem dX6_ask_79 : decode cX6_ask 79 = .ok (.iload_n 2, 1) := by decide +kernel
theorem dX6_ask_80 : decode cX6_ask 80 = .ok (.ifCond .ne 10, 3) := by decide +kernel
theorem dX6_ask_83 : decode cX6_ask 83 = .ok (.aload_n 0, 1) := by decide +kernel
theorem dX6_ask_84 : decode cX6_ask 84 = .ok (.getfield 100, 3) := by decide +kernel
theorem dX6_ask_87 : decode cX6_ask 87 = .ok (.goto 7, 3) := by decide +kernel
theorem dX6_ask_90 : decode cX6_ask 90 = .ok (.aload_n 0, 1) := by decide +kernel
theorem dX6_ask_91 : decode cX6_ask 91 = .ok (.getfield 97, 3) := by decide +kernel
theorem dX6_ask_94 : decode cX6_ask 94 = .ok (.ireturn, 1) := by decide +kernel
theorem dX6_runs_0 : decode cX6_runs 0 = .ok (.aload_n 0, 1) := by decide +kernel
theorem dX6_runs_1 : decode cX6_runs 1 = .ok (.getfield 47, 3) := by decide +kernel
theorem dX6_runs_4 : decode cX6_runs 4 = .ok (.ifCond .ne 7, 3) := by decide +kernel
theorem dX6_runs_7 : decode cX6_runs 7 = .ok (.iconst 0, 1) := by decide +kernel
theorem dX6_runs_8 : decode cX6_runs 8 = .ok (.goto 4, 3) := by decide +kernel
theorem dX6_runs_11 : decode cX6_runs 11 = .ok (.iconst 1, 1) := by decide +kernel
theorem dX6_runs_12 : decode cX6_runs 12 = .ok (.istore_n 1, 1) := by decide +kernel
theorem dX6_runs_13 : decode cX6_runs 13 = .ok (.iconst 1, 1) := by decide +kernel
theorem dX6_runs_14 : decode cX6_runs 14 = .ok (.istore_n 2, 1) := by decide +kernel
theorem dX6_runs_15 : decode cX6_runs 15 = .ok (.iload_n 2, 1) := by decide +kernel
theorem dX6_runs_16 : decode cX6_runs 16 = .ok (.bipush 26, 2) := by decide +kernel
theorem dX6_runs_18 : decode cX6_runs 18 = .ok (.if_icmp .ge 39, 3) := by decide +kernel
theorem dX6_runs_21 : decode cX6_runs 21 = .ok (.aload_n 0, 1) := by decide +kernel
theorem dX6_runs_22 : decode cX6_runs 22 = .ok (.getfield 47, 3) := by decide +kernel
theorem dX6_runs_25 : decode cX6_runs 25 = .ok (.ifCond .le 32, 3) := by decide +kernel
theorem dX6_runs_28 : decode cX6_runs 28 = .ok (.iload_n 1, 1) := by decide +kernel
theorem dX6_runs_29 : decode cX6_runs 29 = .ok (.aload_n 0, 1) := by decide +kernel
theorem dX6_runs_30 : decode cX6_runs 30 = .ok (.iload_n 2, 1) := by decide +kernel
theorem dX6_runs_31 : decode cX6_runs 31 = .ok (.invokevirtual 113, 3) := by decide +kernel
theorem dX6_runs_34 : decode cX6_runs 34 = .ok (.aload_n 0, 1) := by decide +kernel
theorem dX6_runs_35 : decode cX6_runs 35 = .ok (.iload_n 2, 1) := by decide +kernel
theorem dX6_runs_36 : decode cX6_runs 36 = .ok (.iconst 1, 1) := by decide +kernel
theorem dX6_runs_37 : decode cX6_runs 37 = .ok (.isub, 1) := by decide +kernel
theorem dX6_runs_38 : decode cX6_runs 38 = .ok (.invokevirtual 113, 3) := by decide +kernel
theorem dX6_runs_41 : decode cX6_runs 41 = .ok (.if_icmp .ne 7, 3) := by decide +kernel
theorem dX6_runs_44 : decode cX6_runs 44 = .ok (.iconst 0, 1) := by decide +kernel
theorem dX6_runs_45 : decode cX6_runs 45 = .ok (.goto 4, 3) := by decide +kernel
theorem dX6_runs_48 : decode cX6_runs 48 = .ok (.iconst 1, 1) := by decide +kernel
theorem dX6_runs_49 : decode cX6_runs 49 = .ok (.iadd, 1) := by decide +kernel
theorem dX6_runs_50 : decode cX6_runs 50 = .ok (.istore_n 1, 1) := by decide +kernel
theorem dX6_runs_51 : decode cX6_runs 51 = .ok (.iinc 2 1, 3) := by decide +kernel
theorem dX6_runs_54 : decode cX6_runs 54 = .ok (.goto (-39), 3) := by decide +kernel
theorem dX6_runs_57 : decode cX6_runs 57 = .ok (.iload_n 1, 1) := by decide +kernel
theorem dX6_runs_58 : decode cX6_runs 58 = .ok (.ireturn, 1) := by decide +kernel
theorem dX6_shadowed_0 : decode cX6_shadowed 0 = .ok (.iconst 0, 1) := by decide +kernel
theorem dX6_shadowed_1 : decode cX6_shadowed 1 = .ok (.istore_n 1, 1) := by decide +kernel
theorem dX6_shadowed_2 : decode cX6_shadowed 2 = .ok (.iconst 0, 1) := by decide +kernel
theorem dX6_shadowed_3 : decode cX6_shadowed 3 = .ok (.istore_n 2, 1) := by decide +kernel
theorem dX6_shadowed_4 : decode cX6_shadowed 4 = .ok (.iload_n 2, 1) := by decide +kernel
theorem dX6_shadowed_5 : decode cX6_shadowed 5 = .ok (.aload_n 0, 1) := by decide +kernel
theorem dX6_shadowed_6 : decode cX6_shadowed 6 = .ok (.getfield 47, 3) := by decide +kernel
theorem dX6_shadowed_9 : decode cX6_shadowed 9 = .ok (.if_icmp .ge 27, 3) := by decide +kernel
theorem dX6_shadowed_12 : decode cX6_shadowed 12 = .ok (.iload_n 1, 1) := by decide +kernel
theorem dX6_shadowed_13 : decode cX6_shadowed 13 = .ok (.aload_n 0, 1) := by decide +kernel
theorem dX6_shadowed_14 : decode cX6_shadowed 14 = .ok (.iload_n 2, 1) := by decide +kernel
theorem dX6_shadowed_15 : decode cX6_shadowed 15 = .ok (.invokevirtual 119, 3) := by decide +kernel
theorem dX6_shadowed_18 : decode cX6_shadowed 18 = .ok (.ifCond .ne 9, 3) := by decide +kernel
theorem dX6_shadowed_21 : decode cX6_shadowed 21 = .ok (.iconst 1, 1) := by decide +kernel
theorem dX6_shadowed_22 : decode cX6_shadowed 22 = .ok (.iload_n 2, 1) := by decide +kernel
theorem dX6_shadowed_23 : decode cX6_shadowed 23 = .ok (.ishl, 1) := by decide +kernel
theorem dX6_shadowed_24 : decode cX6_shadowed 24 = .ok (.goto 4, 3) := by decide +kernel
theorem dX6_shadowed_27 : decode cX6_shadowed 27 = .ok (.iconst 0, 1) := by decide +kernel
theorem dX6_shadowed_28 : decode cX6_shadowed 28 = .ok (.ior, 1) := by decide +kernel
theorem dX6_shadowed_29 : decode cX6_shadowed 29 = .ok (.istore_n 1, 1) := by decide +kernel
theorem dX6_shadowed_30 : decode cX6_shadowed 30 = .ok (.iinc 2 1, 3) := by decide +kernel
theorem dX6_shadowed_33 : decode cX6_shadowed 33 = .ok (.goto (-29), 3) := by decide +kernel
theorem dX6_shadowed_36 : decode cX6_shadowed 36 = .ok (.iload_n 1, 1) := by decide +kernel
theorem dX6_shadowed_37 : decode cX6_shadowed 37 = .ok (.ireturn, 1) := by decide +kernel
theorem dX6_manyDenied_0 : decode cX6_manyDenied 0 = .ok (.iconst 0, 1) := by decide +kernel
theorem dX6_manyDenied_1 : decode cX6_manyDenied 1 = .ok (.istore_n 1, 1) := by decide +kernel
theorem dX6_manyDenied_2 : decode cX6_manyDenied 2 = .ok (.iconst 0, 1) := by decide +kernel
theorem dX6_manyDenied_3 : decode cX6_manyDenied 3 = .ok (.istore_n 2, 1) := by decide +kernel
theorem dX6_manyDenied_4 : decode cX6_manyDenied 4 = .ok (.iload_n 2, 1) := by decide +kernel
theorem dX6_manyDenied_5 : decode cX6_manyDenied 5 = .ok (.bipush 26, 2) := by decide +kernel
theorem dX6_manyDenied_7 : decode cX6_manyDenied 7 = .ok (.if_icmp .ge 31, 3) := by decide +kernel
theorem dX6_manyDenied_10 : decode cX6_manyDenied 10 = .ok (.aload_n 0, 1) := by decide +kernel
theorem dX6_manyDenied_11 : decode cX6_manyDenied 11 = .ok (.iload_n 2, 1) := by decide +kernel
theorem dX6_manyDenied_12 : decode cX6_manyDenied 12 = .ok (.bipush (-9), 2) := by decide +kernel
theorem dX6_manyDenied_14 : decode cX6_manyDenied 14 = .ok (.invokevirtual 132, 3) := by decide +kernel
theorem dX6_manyDenied_17 : decode cX6_manyDenied 17 = .ok (.iload_n 1, 1) := by decide +kernel
theorem dX6_manyDenied_18 : decode cX6_manyDenied 18 = .ok (.aload_n 0, 1) := by decide +kernel
theorem dX6_manyDenied_19 : decode cX6_manyDenied 19 = .ok (.getfield 97, 3) := by decide +kernel
theorem dX6_manyDenied_22 : decode cX6_manyDenied 22 = .ok (.ifCond .le 7, 3) := by decide +kernel
theorem dX6_manyDenied_25 : decode cX6_manyDenied 25 = .ok (.iconst 1, 1) := by decide +kernel
theorem dX6_manyDenied_26 : decode cX6_manyDenied 26 = .ok (.goto 4, 3) := by decide +kernel
theorem dX6_manyDenied_29 : decode cX6_manyDenied 29 = .ok (.iconst 0, 1) := by decide +kernel
theorem dX6_manyDenied_30 : decode cX6_manyDenied 30 = .ok (.iadd, 1) := by decide +kernel
theorem dX6_manyDenied_31 : decode cX6_manyDenied 31 = .ok (.istore_n 1, 1) := by decide +kernel
theorem dX6_manyDenied_32 : decode cX6_manyDenied 32 = .ok (.iinc 2 1, 3) := by decide +kernel
theorem dX6_manyDenied_35 : decode cX6_manyDenied 35 = .ok (.goto (-31), 3) := by decide +kernel
theorem dX6_manyDenied_38 : decode cX6_manyDenied 38 = .ok (.iload_n 1, 1) := by decide +kernel
theorem dX6_manyDenied_39 : decode cX6_manyDenied 39 = .ok (.ireturn, 1) := by decide +kernel
theorem dX6_worthInAll_0 : decode cX6_worthInAll 0 = .ok (.iconst 0, 1) := by decide +kernel
theorem dX6_worthInAll_1 : decode cX6_worthInAll 1 = .ok (.istore_n 1, 1) := by decide +kernel
theorem dX6_worthInAll_2 : decode cX6_worthInAll 2 = .ok (.iconst 0, 1) := by decide +kernel
theorem dX6_worthInAll_3 : decode cX6_worthInAll 3 = .ok (.istore_n 2, 1) := by decide +kernel
theorem dX6_worthInAll_4 : decode cX6_worthInAll 4 = .ok (.iload_n 2, 1) := by decide +kernel
theorem dX6_worthInAll_5 : decode cX6_worthInAll 5 = .ok (.bipush 26, 2) := by decide +kernel
theorem dX6_worthInAll_7 : decode cX6_worthInAll 7 = .ok (.if_icmp .ge 34, 3) := by decide +kernel
theorem dX6_worthInAll_10 : decode cX6_worthInAll 10 = .ok (.aload_n 0, 1) := by decide +kernel
theorem dX6_worthInAll_11 : decode cX6_worthInAll 11 = .ok (.iload_n 2, 1) := by decide +kernel
theorem dX6_worthInAll_12 : decode cX6_worthInAll 12 = .ok (.bipush (-9), 2) := by decide +kernel
theorem dX6_worthInAll_14 : decode cX6_worthInAll 14 = .ok (.invokevirtual 132, 3) := by decide +kernel
theorem dX6_worthInAll_17 : decode cX6_worthInAll 17 = .ok (.iload_n 1, 1) := by decide +kernel
theorem dX6_worthInAll_18 : decode cX6_worthInAll 18 = .ok (.aload_n 0, 1) := by decide +kernel
theorem dX6_worthInAll_19 : decode cX6_worthInAll 19 = .ok (.getfield 97, 3) := by decide +kernel
theorem dX6_worthInAll_22 : decode cX6_worthInAll 22 = .ok (.ifCond .le 7, 3) := by decide +kernel
theorem dX6_worthInAll_25 : decode cX6_worthInAll 25 = .ok (.iconst 0, 1) := by decide +kernel
theorem dX6_worthInAll_26 : decode cX6_worthInAll 26 = .ok (.goto 7, 3) := by decide +kernel
theorem dX6_worthInAll_29 : decode cX6_worthInAll 29 = .ok (.aload_n 0, 1) := by decide +kernel
theorem dX6_worthInAll_30 : decode cX6_worthInAll 30 = .ok (.getfield 100, 3) := by decide +kernel
theorem dX6_worthInAll_33 : decode cX6_worthInAll 33 = .ok (.iadd, 1) := by decide +kernel
theorem dX6_worthInAll_34 : decode cX6_worthInAll 34 = .ok (.istore_n 1, 1) := by decide +kernel
theorem dX6_worthInAll_35 : decode cX6_worthInAll 35 = .ok (.iinc 2 1, 3) := by decide +kernel
theorem dX6_worthInAll_38 : decode cX6_worthInAll 38 = .ok (.goto (-34), 3) := by decide +kernel
theorem dX6_worthInAll_41 : decode cX6_worthInAll 41 = .ok (.iload_n 1, 1) := by decide +kernel
theorem dX6_worthInAll_42 : decode cX6_worthInAll 42 = .ok (.ireturn, 1) := by decide +kernel
theorem dX6_needed_0 : decode cX6_needed 0 = .ok (.iconst 0, 1) := by decide +kernel
theorem dX6_needed_1 : decode cX6_needed 1 = .ok (.istore_n 1, 1) := by decide +kernel
theorem dX6_needed_2 : decode cX6_needed 2 = .ok (.iconst 0, 1) := by decide +kernel
theorem dX6_needed_3 : decode cX6_needed 3 = .ok (.istore_n 2, 1) := by decide +kernel
theorem dX6_needed_4 : decode cX6_needed 4 = .ok (.iload_n 2, 1) := by decide +kernel
theorem dX6_needed_5 : decode cX6_needed 5 = .ok (.aload_n 0, 1) := by decide +kernel
theorem dX6_needed_6 : decode cX6_needed 6 = .ok (.getfield 47, 3) := by decide +kernel
theorem dX6_needed_9 : decode cX6_needed 9 = .ok (.if_icmp .ge 61, 3) := by decide +kernel
theorem dX6_needed_12 : decode cX6_needed 12 = .ok (.iconst 0, 1) := by decide +kernel
theorem dX6_needed_13 : decode cX6_needed 13 = .ok (.istore_n 3, 1) := by decide +kernel
theorem dX6_needed_14 : decode cX6_needed 14 = .ok (.iload_n 3, 1) := by decide +kernel
theorem dX6_needed_15 : decode cX6_needed 15 = .ok (.bipush 26, 2) := by decide +kernel
theorem dX6_needed_17 : decode cX6_needed 17 = .ok (.if_icmp .ge 47, 3) := by decide +kernel
theorem dX6_needed_20 : decode cX6_needed 20 = .ok (.aload_n 0, 1) := by decide +kernel
theorem dX6_needed_21 : decode cX6_needed 21 = .ok (.iload_n 3, 1) := by decide +kernel
theorem dX6_needed_22 : decode cX6_needed 22 = .ok (.bipush (-9), 2) := by decide +kernel
theorem dX6_needed_24 : decode cX6_needed 24 = .ok (.invokevirtual 132, 3) := by decide +kernel
theorem dX6_needed_27 : decode cX6_needed 27 = .ok (.aload_n 0, 1) := by decide +kernel
theorem dX6_needed_28 : decode cX6_needed 28 = .ok (.getfield 100, 3) := by decide +kernel
theorem dX6_needed_31 : decode cX6_needed 31 = .ok (.istore 4, 2) := by decide +kernel
theorem dX6_needed_33 : decode cX6_needed 33 = .ok (.aload_n 0, 1) := by decide +kernel
theorem dX6_needed_34 : decode cX6_needed 34 = .ok (.iload_n 3, 1) := by decide +kernel
theorem dX6_needed_35 : decode cX6_needed 35 = .ok (.iload_n 2, 1) := by decide +kernel
theorem dX6_needed_36 : decode cX6_needed 36 = .ok (.invokevirtual 132, 3) := by decide +kernel
theorem dX6_needed_39 : decode cX6_needed 39 = .ok (.iload_n 1, 1) := by decide +kernel
theorem dX6_needed_40 : decode cX6_needed 40 = .ok (.aload_n 0, 1) := by decide +kernel
theorem dX6_needed_41 : decode cX6_needed 41 = .ok (.getfield 100, 3) := by decide +kernel
theorem dX6_needed_44 : decode cX6_needed 44 = .ok (.iload 4, 2) := by decide +kernel
theorem dX6_needed_46 : decode cX6_needed 46 = .ok (.if_icmp .ne 7, 3) := by decide +kernel
theorem dX6_needed_49 : decode cX6_needed 49 = .ok (.iconst 0, 1) := by decide +kernel
theorem dX6_needed_50 : decode cX6_needed 50 = .ok (.goto 6, 3) := by decide +kernel
theorem dX6_needed_53 : decode cX6_needed 53 = .ok (.iconst 1, 1) := by decide +kernel
theorem dX6_needed_54 : decode cX6_needed 54 = .ok (.iload_n 2, 1) := by decide +kernel
theorem dX6_needed_55 : decode cX6_needed 55 = .ok (.ishl, 1) := by decide +kernel
theorem dX6_needed_56 : decode cX6_needed 56 = .ok (.ior, 1) := by decide +kernel
theorem dX6_needed_57 : decode cX6_needed 57 = .ok (.istore_n 1, 1) := by decide +kernel
theorem dX6_needed_58 : decode cX6_needed 58 = .ok (.iinc 3 1, 3) := by decide +kernel
theorem dX6_needed_61 : decode cX6_needed 61 = .ok (.goto (-47), 3) := by decide +kernel
theorem dX6_needed_64 : decode cX6_needed 64 = .ok (.iinc 2 1, 3) := by decide +kernel
theorem dX6_needed_67 : decode cX6_needed 67 = .ok (.goto (-63), 3) := by decide +kernel
theorem dX6_needed_70 : decode cX6_needed 70 = .ok (.iload_n 1, 1) := by decide +kernel
theorem dX6_needed_71 : decode cX6_needed 71 = .ok (.ireturn, 1) := by decide +kernel
theorem dX6_does_0 : decode cX6_does 0 = .ok (.iload_n 2, 1) := by decide +kernel
theorem dX6_does_1 : decode cX6_does 1 = .ok (.bipush 20, 2) := by decide +kernel
theorem dX6_does_3 : decode cX6_does 3 = .ok (.if_icmp .ne 22, 3) := by decide +kernel
theorem dX6_does_6 : decode cX6_does 6 = .ok (.iload_n 1, 1) := by decide +kernel
theorem dX6_does_7 : decode cX6_does 7 = .ok (.iconst 1, 1) := by decide +kernel
theorem dX6_does_8 : decode cX6_does 8 = .ok (.iadd, 1) := by decide +kernel
theorem dX6_does_9 : decode cX6_does 9 = .ok (.aload_n 0, 1) := by decide +kernel
theorem dX6_does_10 : decode cX6_does 10 = .ok (.getfield 47, 3) := by decide +kernel
theorem dX6_does_13 : decode cX6_does 13 = .ok (.if_icmp .lt 5, 3) := by decide +kernel
theorem dX6_does_16 : decode cX6_does 16 = .ok (.iconst 0, 1) := by decide +kernel
theorem dX6_does_17 : decode cX6_does 17 = .ok (.ireturn, 1) := by decide +kernel
theorem dX6_does_18 : decode cX6_does 18 = .ok (.aload_n 0, 1) := by decide +kernel
theorem dX6_does_19 : decode cX6_does 19 = .ok (.iload_n 1, 1) := by decide +kernel
theorem dX6_does_20 : decode cX6_does 20 = .ok (.invokevirtual 129, 3) := by decide +kernel
theorem dX6_does_23 : decode cX6_does 23 = .ok (.iconst 1, 1) := by decide +kernel
theorem dX6_does_24 : decode cX6_does 24 = .ok (.ireturn, 1) := by decide +kernel
theorem dX6_does_25 : decode cX6_does 25 = .ok (.iload_n 2, 1) := by decide +kernel
theorem dX6_does_26 : decode cX6_does 26 = .ok (.bipush 10, 2) := by decide +kernel
theorem dX6_does_28 : decode cX6_does 28 = .ok (.if_icmp .lt 10, 3) := by decide +kernel
theorem dX6_does_31 : decode cX6_does 31 = .ok (.iload_n 2, 1) := by decide +kernel
theorem dX6_does_32 : decode cX6_does 32 = .ok (.bipush 10, 2) := by decide +kernel
theorem dX6_does_34 : decode cX6_does 34 = .ok (.isub, 1) := by decide +kernel
theorem dX6_does_35 : decode cX6_does 35 = .ok (.goto 4, 3) := by decide +kernel
theorem dX6_does_38 : decode cX6_does 38 = .ok (.iload_n 2, 1) := by decide +kernel
theorem dX6_does_39 : decode cX6_does 39 = .ok (.istore_n 3, 1) := by decide +kernel
theorem dX6_does_40 : decode cX6_does 40 = .ok (.aload_n 0, 1) := by decide +kernel
theorem dX6_does_41 : decode cX6_does 41 = .ok (.iload_n 3, 1) := by decide +kernel
theorem dX6_does_42 : decode cX6_does 42 = .ok (.invokevirtual 116, 3) := by decide +kernel
theorem dX6_does_45 : decode cX6_does 45 = .ok (.ifCond .eq 17, 3) := by decide +kernel
theorem dX6_does_48 : decode cX6_does 48 = .ok (.iload_n 2, 1) := by decide +kernel
theorem dX6_does_49 : decode cX6_does 49 = .ok (.bipush 10, 2) := by decide +kernel
theorem dX6_does_51 : decode cX6_does 51 = .ok (.if_icmp .lt 13, 3) := by decide +kernel
theorem dX6_does_54 : decode cX6_does 54 = .ok (.aload_n 0, 1) := by decide +kernel
theorem dX6_does_55 : decode cX6_does 55 = .ok (.getfield 47, 3) := by decide +kernel
theorem dX6_does_58 : decode cX6_does 58 = .ok (.iconst 1, 1) := by decide +kernel
theorem dX6_does_59 : decode cX6_does 59 = .ok (.if_icmp .ne 5, 3) := by decide +kernel
theorem dX6_does_62 : decode cX6_does 62 = .ok (.iconst 0, 1) := by decide +kernel
theorem dX6_does_63 : decode cX6_does 63 = .ok (.ireturn, 1) := by decide +kernel
theorem dX6_does_64 : decode cX6_does 64 = .ok (.iload_n 2, 1) := by decide +kernel
theorem dX6_does_65 : decode cX6_does 65 = .ok (.bipush 10, 2) := by decide +kernel
theorem dX6_does_67 : decode cX6_does 67 = .ok (.if_icmp .lt 11, 3) := by decide +kernel
theorem dX6_does_70 : decode cX6_does 70 = .ok (.aload_n 0, 1) := by decide +kernel
theorem dX6_does_71 : decode cX6_does 71 = .ok (.iload_n 3, 1) := by decide +kernel
theorem dX6_does_72 : decode cX6_does 72 = .ok (.invokevirtual 125, 3) := by decide +kernel
theorem dX6_does_75 : decode cX6_does 75 = .ok (.goto 14, 3) := by decide +kernel
theorem dX6_does_78 : decode cX6_does 78 = .ok (.aload_n 0, 1) := by decide +kernel
theorem dX6_does_79 : decode cX6_does 79 = .ok (.getfield 19, 3) := by decide +kernel
theorem dX6_does_82 : decode cX6_does 82 = .ok (.iconst 5, 1) := by decide +kernel
theorem dX6_does_83 : decode cX6_does 83 = .ok (.iload_n 3, 1) := by decide +kernel
theorem dX6_does_84 : decode cX6_does 84 = .ok (.imul, 1) := by decide +kernel
theorem dX6_does_85 : decode cX6_does 85 = .ok (.iconst 2, 1) := by decide +kernel
theorem dX6_does_86 : decode cX6_does 86 = .ok (.iadd, 1) := by decide +kernel
theorem dX6_does_87 : decode cX6_does 87 = .ok (.iload_n 1, 1) := by decide +kernel
theorem dX6_does_88 : decode cX6_does 88 = .ok (.iastore, 1) := by decide +kernel
theorem dX6_does_89 : decode cX6_does 89 = .ok (.iconst 1, 1) := by decide +kernel
theorem dX6_does_90 : decode cX6_does 90 = .ok (.ireturn, 1) := by decide +kernel
theorem dX6_isPair_0 : decode cX6_isPair 0 = .ok (.iload_n 1, 1) := by decide +kernel
theorem dX6_isPair_1 : decode cX6_isPair 1 = .ok (.bipush 20, 2) := by decide +kernel
theorem dX6_isPair_3 : decode cX6_isPair 3 = .ok (.if_icmp .ne 12, 3) := by decide +kernel
theorem dX6_isPair_6 : decode cX6_isPair 6 = .ok (.iload_n 0, 1) := by decide +kernel
theorem dX6_isPair_7 : decode cX6_isPair 7 = .ok (.iconst 0, 1) := by decide +kernel
theorem dX6_isPair_8 : decode cX6_isPair 8 = .ok (.iconst 5, 1) := by decide +kernel
theorem dX6_isPair_9 : decode cX6_isPair 9 = .ok (.invokestatic 43, 3) := by decide +kernel
theorem dX6_isPair_12 : decode cX6_isPair 12 = .ok (.goto 51, 3) := by decide +kernel
theorem dX6_isPair_15 : decode cX6_isPair 15 = .ok (.iload_n 1, 1) := by decide +kernel
theorem dX6_isPair_16 : decode cX6_isPair 16 = .ok (.bipush 10, 2) := by decide +kernel
theorem dX6_isPair_18 : decode cX6_isPair 18 = .ok (.bipush 16, 2) := by decide +kernel
theorem dX6_isPair_20 : decode cX6_isPair 20 = .ok (.invokestatic 43, 3) := by decide +kernel
theorem dX6_isPair_23 : decode cX6_isPair 23 = .ok (.ifCond .eq 15, 3) := by decide +kernel
theorem dX6_isPair_26 : decode cX6_isPair 26 = .ok (.iload_n 0, 1) := by decide +kernel
theorem dX6_isPair_27 : decode cX6_isPair 27 = .ok (.ifCond .ne 7, 3) := by decide +kernel
theorem dX6_isPair_30 : decode cX6_isPair 30 = .ok (.iconst 1, 1) := by decide +kernel
theorem dX6_isPair_31 : decode cX6_isPair 31 = .ok (.goto 32, 3) := by decide +kernel
theorem dX6_isPair_34 : decode cX6_isPair 34 = .ok (.iconst 0, 1) := by decide +kernel
theorem dX6_isPair_35 : decode cX6_isPair 35 = .ok (.goto 28, 3) := by decide +kernel
theorem dX6_isPair_38 : decode cX6_isPair 38 = .ok (.iload_n 1, 1) := by decide +kernel
theorem dX6_isPair_39 : decode cX6_isPair 39 = .ok (.iconst 0, 1) := by decide +kernel
theorem dX6_isPair_40 : decode cX6_isPair 40 = .ok (.bipush 6, 2) := by decide +kernel
theorem dX6_isPair_42 : decode cX6_isPair 42 = .ok (.invokestatic 43, 3) := by decide +kernel
theorem dX6_isPair_45 : decode cX6_isPair 45 = .ok (.ifCond .eq 17, 3) := by decide +kernel
theorem dX6_isPair_48 : decode cX6_isPair 48 = .ok (.iload_n 0, 1) := by decide +kernel
theorem dX6_isPair_49 : decode cX6_isPair 49 = .ok (.iconst 1, 1) := by decide +kernel
theorem dX6_isPair_50 : decode cX6_isPair 50 = .ok (.bipush 9, 2) := by decide +kernel
theorem dX6_isPair_52 : decode cX6_isPair 52 = .ok (.invokestatic 43, 3) := by decide +kernel
theorem dX6_isPair_55 : decode cX6_isPair 55 = .ok (.ifCond .eq 7, 3) := by decide +kernel
theorem dX6_isPair_58 : decode cX6_isPair 58 = .ok (.iconst 1, 1) := by decide +kernel
theorem dX6_isPair_59 : decode cX6_isPair 59 = .ok (.goto 4, 3) := by decide +kernel
theorem dX6_isPair_62 : decode cX6_isPair 62 = .ok (.iconst 0, 1) := by decide +kernel
theorem dX6_isPair_63 : decode cX6_isPair 63 = .ok (.ireturn, 1) := by decide +kernel
theorem dX6_goDay_0 : decode cX6_goDay 0 = .ok (.iconst 0, 1) := by decide +kernel
theorem dX6_goDay_1 : decode cX6_goDay 1 = .ok (.istore_n 3, 1) := by decide +kernel
theorem dX6_goDay_2 : decode cX6_goDay 2 = .ok (.iload_n 3, 1) := by decide +kernel
theorem dX6_goDay_3 : decode cX6_goDay 3 = .ok (.iload_n 2, 1) := by decide +kernel
theorem dX6_goDay_4 : decode cX6_goDay 4 = .ok (.if_icmp .ge 40, 3) := by decide +kernel
theorem dX6_goDay_7 : decode cX6_goDay 7 = .ok (.aload_n 0, 1) := by decide +kernel
theorem dX6_goDay_8 : decode cX6_goDay 8 = .ok (.aload_n 0, 1) := by decide +kernel
theorem dX6_goDay_9 : decode cX6_goDay 9 = .ok (.getfield 16, 3) := by decide +kernel
theorem dX6_goDay_12 : decode cX6_goDay 12 = .ok (.iload_n 1, 1) := by decide +kernel
theorem dX6_goDay_13 : decode cX6_goDay 13 = .ok (.iconst 2, 1) := by decide +kernel
theorem dX6_goDay_14 : decode cX6_goDay 14 = .ok (.iload_n 3, 1) := by decide +kernel
theorem dX6_goDay_15 : decode cX6_goDay 15 = .ok (.imul, 1) := by decide +kernel
theorem dX6_goDay_16 : decode cX6_goDay 16 = .ok (.iadd, 1) := by decide +kernel
theorem dX6_goDay_17 : decode cX6_goDay 17 = .ok (.iaload, 1) := by decide +kernel
theorem dX6_goDay_18 : decode cX6_goDay 18 = .ok (.aload_n 0, 1) := by decide +kernel
theorem dX6_goDay_19 : decode cX6_goDay 19 = .ok (.getfield 16, 3) := by decide +kernel
theorem dX6_goDay_22 : decode cX6_goDay 22 = .ok (.iload_n 1, 1) := by decide +kernel
theorem dX6_goDay_23 : decode cX6_goDay 23 = .ok (.iconst 2, 1) := by decide +kernel
theorem dX6_goDay_24 : decode cX6_goDay 24 = .ok (.iload_n 3, 1) := by decide +kernel
theorem dX6_goDay_25 : decode cX6_goDay 25 = .ok (.imul, 1) := by decide +kernel
theorem dX6_goDay_26 : decode cX6_goDay 26 = .ok (.iadd, 1) := by decide +kernel
theorem dX6_goDay_27 : decode cX6_goDay 27 = .ok (.iconst 1, 1) := by decide +kernel
theorem dX6_goDay_28 : decode cX6_goDay 28 = .ok (.iadd, 1) := by decide +kernel
theorem dX6_goDay_29 : decode cX6_goDay 29 = .ok (.iaload, 1) := by decide +kernel
theorem dX6_goDay_30 : decode cX6_goDay 30 = .ok (.invokevirtual 136, 3) := by decide +kernel
theorem dX6_goDay_33 : decode cX6_goDay 33 = .ok (.ifCond .ne 5, 3) := by decide +kernel
theorem dX6_goDay_36 : decode cX6_goDay 36 = .ok (.iload_n 3, 1) := by decide +kernel
theorem dX6_goDay_37 : decode cX6_goDay 37 = .ok (.ireturn, 1) := by decide +kernel
theorem dX6_goDay_38 : decode cX6_goDay 38 = .ok (.iinc 3 1, 3) := by decide +kernel
theorem dX6_goDay_41 : decode cX6_goDay 41 = .ok (.goto (-39), 3) := by decide +kernel
theorem dX6_goDay_44 : decode cX6_goDay 44 = .ok (.bipush (-9), 2) := by decide +kernel
theorem dX6_goDay_46 : decode cX6_goDay 46 = .ok (.ireturn, 1) := by decide +kernel
theorem dX6_day_0 : decode cX6_day 0 = .ok (.aload_n 0, 1) := by decide +kernel
theorem dX6_day_1 : decode cX6_day 1 = .ok (.iconst 0, 1) := by decide +kernel
theorem dX6_day_2 : decode cX6_day 2 = .ok (.putfield 37, 3) := by decide +kernel
theorem dX6_day_5 : decode cX6_day 5 = .ok (.iload_n 1, 1) := by decide +kernel
theorem dX6_day_6 : decode cX6_day 6 = .ok (.invokestatic 57, 3) := by decide +kernel
theorem dX6_day_9 : decode cX6_day 9 = .ok (.ifCond .ne 5, 3) := by decide +kernel
theorem dX6_day_12 : decode cX6_day 12 = .ok (.iconst (-1), 1) := by decide +kernel
theorem dX6_day_13 : decode cX6_day 13 = .ok (.ireturn, 1) := by decide +kernel
theorem dX6_day_14 : decode cX6_day 14 = .ok (.iload_n 2, 1) := by decide +kernel
theorem dX6_day_15 : decode cX6_day 15 = .ok (.invokestatic 61, 3) := by decide +kernel
theorem dX6_day_18 : decode cX6_day 18 = .ok (.ifCond .eq 36, 3) := by decide +kernel
theorem dX6_day_21 : decode cX6_day 21 = .ok (.iload 4, 2) := by decide +kernel
theorem dX6_day_23 : decode cX6_day 23 = .ok (.iconst 0, 1) := by decide +kernel
theorem dX6_day_24 : decode cX6_day 24 = .ok (.bipush 20, 2) := by decide +kernel
theorem dX6_day_26 : decode cX6_day 26 = .ok (.invokestatic 43, 3) := by decide +kernel
theorem dX6_day_29 : decode cX6_day 29 = .ok (.ifCond .eq 25, 3) := by decide +kernel
theorem dX6_day_32 : decode cX6_day 32 = .ok (.iload 5, 2) := by decide +kernel
theorem dX6_day_34 : decode cX6_day 34 = .ok (.iconst 0, 1) := by decide +kernel
theorem dX6_day_35 : decode cX6_day 35 = .ok (.iconst 4, 1) := by decide +kernel
theorem dX6_day_36 : decode cX6_day 36 = .ok (.invokestatic 43, 3) := by decide +kernel
theorem dX6_day_39 : decode cX6_day 39 = .ok (.ifCond .ne 18, 3) := by decide +kernel
theorem dX6_day_42 : decode cX6_day 42 = .ok (.iload 5, 2) := by decide +kernel
theorem dX6_day_44 : decode cX6_day 44 = .ok (.bipush 10, 2) := by decide +kernel
theorem dX6_day_46 : decode cX6_day 46 = .ok (.bipush 35, 2) := by decide +kernel
theorem dX6_day_48 : decode cX6_day 48 = .ok (.invokestatic 43, 3) := by decide +kernel
theorem dX6_day_51 : decode cX6_day 51 = .ok (.ifCond .ne 6, 3) := by decide +kernel
theorem dX6_day_54 : decode cX6_day 54 = .ok (.bipush (-2), 2) := by decide +kernel
theorem dX6_day_56 : decode cX6_day 56 = .ok (.ireturn, 1) := by decide +kernel
theorem dX6_day_57 : decode cX6_day 57 = .ok (.aload_n 0, 1) := by decide +kernel
theorem dX6_day_58 : decode cX6_day 58 = .ok (.iload_n 1, 1) := by decide +kernel
theorem dX6_day_59 : decode cX6_day 59 = .ok (.iload_n 2, 1) := by decide +kernel
theorem dX6_day_60 : decode cX6_day 60 = .ok (.iload_n 3, 1) := by decide +kernel
theorem dX6_day_61 : decode cX6_day 61 = .ok (.iconst 2, 1) := by decide +kernel
theorem dX6_day_62 : decode cX6_day 62 = .ok (.iload 4, 2) := by decide +kernel
theorem dX6_day_64 : decode cX6_day 64 = .ok (.imul, 1) := by decide +kernel
theorem dX6_day_65 : decode cX6_day 65 = .ok (.invokevirtual 64, 3) := by decide +kernel
theorem dX6_day_68 : decode cX6_day 68 = .ok (.istore 6, 2) := by decide +kernel
theorem dX6_day_70 : decode cX6_day 70 = .ok (.iload 6, 2) := by decide +kernel
theorem dX6_day_72 : decode cX6_day 72 = .ok (.ifCond .eq 10, 3) := by decide +kernel
theorem dX6_day_75 : decode cX6_day 75 = .ok (.aload_n 0, 1) := by decide +kernel
theorem dX6_day_76 : decode cX6_day 76 = .ok (.iload 6, 2) := by decide +kernel
theorem dX6_day_78 : decode cX6_day 78 = .ok (.invokevirtual 68, 3) := by decide +kernel
theorem dX6_day_81 : decode cX6_day 81 = .ok (.ireturn, 1) := by decide +kernel
theorem dX6_day_82 : decode cX6_day 82 = .ok (.aload_n 0, 1) := by decide +kernel
theorem dX6_day_83 : decode cX6_day 83 = .ok (.getfield 47, 3) := by decide +kernel
theorem dX6_day_86 : decode cX6_day 86 = .ok (.ifCond .ne 6, 3) := by decide +kernel
theorem dX6_day_89 : decode cX6_day 89 = .ok (.bipush (-3), 2) := by decide +kernel
theorem dX6_day_91 : decode cX6_day 91 = .ok (.ireturn, 1) := by decide +kernel
theorem dX6_day_92 : decode cX6_day 92 = .ok (.bipush 60, 2) := by decide +kernel
theorem dX6_day_94 : decode cX6_day 94 = .ok (.iload_n 1, 1) := by decide +kernel
theorem dX6_day_95 : decode cX6_day 95 = .ok (.imul, 1) := by decide +kernel
theorem dX6_day_96 : decode cX6_day 96 = .ok (.iload_n 3, 1) := by decide +kernel
theorem dX6_day_97 : decode cX6_day 97 = .ok (.iadd, 1) := by decide +kernel
theorem dX6_day_98 : decode cX6_day 98 = .ok (.istore 7, 2) := by decide +kernel
theorem dX6_day_100 : decode cX6_day 100 = .ok (.iconst 0, 1) := by decide +kernel
theorem dX6_day_101 : decode cX6_day 101 = .ok (.istore 8, 2) := by decide +kernel
theorem dX6_day_103 : decode cX6_day 103 = .ok (.iload 8, 2) := by decide +kernel
theorem dX6_day_105 : decode cX6_day 105 = .ok (.iload 4, 2) := by decide +kernel
theorem dX6_day_107 : decode cX6_day 107 = .ok (.if_icmp .ge 44, 3) := by decide +kernel
theorem dX6_day_110 : decode cX6_day 110 = .ok (.aload_n 0, 1) := by decide +kernel
theorem dX6_day_111 : decode cX6_day 111 = .ok (.getfield 16, 3) := by decide +kernel
theorem dX6_day_114 : decode cX6_day 114 = .ok (.iload 7, 2) := by decide +kernel
theorem dX6_day_116 : decode cX6_day 116 = .ok (.iconst 2, 1) := by decide +kernel
theorem dX6_day_117 : decode cX6_day 117 = .ok (.iload 8, 2) := by decide +kernel
theorem dX6_day_119 : decode cX6_day 119 = .ok (.imul, 1) := by decide +kernel
theorem dX6_day_120 : decode cX6_day 120 = .ok (.iadd, 1) := by decide +kernel
theorem dX6_day_121 : decode cX6_day 121 = .ok (.iaload, 1) := by decide +kernel
theorem dX6_day_122 : decode cX6_day 122 = .ok (.aload_n 0, 1) := by decide +kernel
theorem dX6_day_123 : decode cX6_day 123 = .ok (.getfield 16, 3) := by decide +kernel
theorem dX6_day_126 : decode cX6_day 126 = .ok (.iload 7, 2) := by decide +kernel
theorem dX6_day_128 : decode cX6_day 128 = .ok (.iconst 2, 1) := by decide +kernel
theorem dX6_day_129 : decode cX6_day 129 = .ok (.iload 8, 2) := by decide +kernel
theorem dX6_day_131 : decode cX6_day 131 = .ok (.imul, 1) := by decide +kernel
theorem dX6_day_132 : decode cX6_day 132 = .ok (.iadd, 1) := by decide +kernel
theorem dX6_day_133 : decode cX6_day 133 = .ok (.iconst 1, 1) := by decide +kernel
theorem dX6_day_134 : decode cX6_day 134 = .ok (.iadd, 1) := by decide +kernel
theorem dX6_day_135 : decode cX6_day 135 = .ok (.iaload, 1) := by decide +kernel
theorem dX6_day_136 : decode cX6_day 136 = .ok (.invokestatic 139, 3) := by decide +kernel
theorem dX6_day_139 : decode cX6_day 139 = .ok (.ifCond .ne 6, 3) := by decide +kernel
theorem dX6_day_142 : decode cX6_day 142 = .ok (.bipush (-2), 2) := by decide +kernel
theorem dX6_day_144 : decode cX6_day 144 = .ok (.ireturn, 1) := by decide +kernel
theorem dX6_day_145 : decode cX6_day 145 = .ok (.iinc 8 1, 3) := by decide +kernel
theorem dX6_day_148 : decode cX6_day 148 = .ok (.goto (-45), 3) := by decide +kernel
theorem dX6_day_151 : decode cX6_day 151 = .ok (.aload_n 0, 1) := by decide +kernel
theorem dX6_day_152 : decode cX6_day 152 = .ok (.getfield 47, 3) := by decide +kernel
theorem dX6_day_155 : decode cX6_day 155 = .ok (.istore 8, 2) := by decide +kernel
theorem dX6_day_157 : decode cX6_day 157 = .ok (.iconst 0, 1) := by decide +kernel
theorem dX6_day_158 : decode cX6_day 158 = .ok (.istore 9, 2) := by decide +kernel
theorem dX6_day_160 : decode cX6_day 160 = .ok (.iload 9, 2) := by decide +kernel
theorem dX6_day_162 : decode cX6_day 162 = .ok (.bipush 35, 2) := by decide +kernel
theorem dX6_day_164 : decode cX6_day 164 = .ok (.if_icmp .ge 23, 3) := by decide +kernel
theorem dX6_day_167 : decode cX6_day 167 = .ok (.aload_n 0, 1) := by decide +kernel
theorem dX6_day_168 : decode cX6_day 168 = .ok (.getfield 28, 3) := by decide +kernel
