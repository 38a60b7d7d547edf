theorem dX0_init_0 : decode cX0_init 0 = .ok (.aload_n 0, 1) := by decide +kernel
theorem dX0_init_1 : decode cX0_init 1 = .ok (.invokespecial 3, 3) := by decide +kernel
theorem dX0_init_4 : decode cX0_init 4 = .ok (.aload_n 0, 1) := by decide +kernel
theorem dX0_init_5 : decode cX0_init 5 = .ok (.bipush 8, 2) := by decide +kernel
theorem dX0_init_7 : decode cX0_init 7 = .ok (.newarray .int, 2) := by decide +kernel
theorem dX0_init_9 : decode cX0_init 9 = .ok (.putfield 9, 3) := by decide +kernel
theorem dX0_init_12 : decode cX0_init 12 = .ok (.return_, 1) := by decide +kernel
theorem dX0_walk_0 : decode cX0_walk 0 = .ok (.iload_n 2, 1) := by decide +kernel
theorem dX0_walk_1 : decode cX0_walk 1 = .ok (.istore 4, 2) := by decide +kernel
theorem dX0_walk_3 : decode cX0_walk 3 = .ok (.iconst 0, 1) := by decide +kernel
theorem dX0_walk_4 : decode cX0_walk 4 = .ok (.istore 5, 2) := by decide +kernel
theorem dX0_walk_6 : decode cX0_walk 6 = .ok (.aload_n 0, 1) := by decide +kernel
theorem dX0_walk_7 : decode cX0_walk 7 = .ok (.iconst 0, 1) := by decide +kernel
theorem dX0_walk_8 : decode cX0_walk 8 = .ok (.putfield 15, 3) := by decide +kernel
theorem dX0_walk_11 : decode cX0_walk 11 = .ok (.iconst 0, 1) := by decide +kernel
theorem dX0_walk_12 : decode cX0_walk 12 = .ok (.istore 6, 2) := by decide +kernel
theorem dX0_walk_14 : decode cX0_walk 14 = .ok (.iload 6, 2) := by decide +kernel
theorem dX0_walk_16 : decode cX0_walk 16 = .ok (.aload_n 1, 1) := by decide +kernel
theorem dX0_walk_17 : decode cX0_walk 17 = .ok (.getfield 19, 3) := by decide +kernel
theorem dX0_walk_20 : decode cX0_walk 20 = .ok (.if_icmp .ge 94, 3) := by decide +kernel
theorem dX0_walk_23 : decode cX0_walk 23 = .ok (.aload_n 1, 1) := by decide +kernel
theorem dX0_walk_24 : decode cX0_walk 24 = .ok (.getfield 24, 3) := by decide +kernel
theorem dX0_walk_27 : decode cX0_walk 27 = .ok (.iload 6, 2) := by decide +kernel
theorem dX0_walk_29 : decode cX0_walk 29 = .ok (.aaload, 1) := by decide +kernel
theorem dX0_walk_30 : decode cX0_walk 30 = .ok (.astore 7, 2) := by decide +kernel
theorem dX0_walk_32 : decode cX0_walk 32 = .ok (.iload 6, 2) := by decide +kernel
theorem dX0_walk_34 : decode cX0_walk 34 = .ok (.iload_n 3, 1) := by decide +kernel
theorem dX0_walk_35 : decode cX0_walk 35 = .ok (.if_icmp .eq 73, 3) := by decide +kernel
theorem dX0_walk_38 : decode cX0_walk 38 = .ok (.aload 7, 2) := by decide +kernel
theorem dX0_walk_40 : decode cX0_walk 40 = .ok (.iload 4, 2) := by decide +kernel
theorem dX0_walk_42 : decode cX0_walk 42 = .ok (.invokevirtual 28, 3) := by decide +kernel
theorem dX0_walk_45 : decode cX0_walk 45 = .ok (.ifCond .ne 6, 3) := by decide +kernel
theorem dX0_walk_48 : decode cX0_walk 48 = .ok (.goto 60, 3) := by decide +kernel
theorem dX0_walk_51 : decode cX0_walk 51 = .ok (.iload 5, 2) := by decide +kernel
theorem dX0_walk_53 : decode cX0_walk 53 = .ok (.aload 7, 2) := by decide +kernel
theorem dX0_walk_55 : decode cX0_walk 55 = .ok (.invokevirtual 34, 3) := by decide +kernel
theorem dX0_walk_58 : decode cX0_walk 58 = .ok (.iadd, 1) := by decide +kernel
theorem dX0_walk_59 : decode cX0_walk 59 = .ok (.istore 5, 2) := by decide +kernel
theorem dX0_walk_61 : decode cX0_walk 61 = .ok (.aload 7, 2) := by decide +kernel
theorem dX0_walk_63 : decode cX0_walk 63 = .ok (.getfield 38, 3) := by decide +kernel
theorem dX0_walk_66 : decode cX0_walk 66 = .ok (.ifCond .ne 10, 3) := by decide +kernel
theorem dX0_walk_69 : decode cX0_walk 69 = .ok (.aload_n 0, 1) := by decide +kernel
theorem dX0_walk_70 : decode cX0_walk 70 = .ok (.iload 5, 2) := by decide +kernel
theorem dX0_walk_72 : decode cX0_walk 72 = .ok (.invokevirtual 41, 3) := by decide +kernel
theorem dX0_walk_75 : decode cX0_walk 75 = .ok (.return_, 1) := by decide +kernel
theorem dX0_walk_76 : decode cX0_walk 76 = .ok (.aload_n 0, 1) := by decide +kernel
theorem dX0_walk_77 : decode cX0_walk 77 = .ok (.iload 6, 2) := by decide +kernel
theorem dX0_walk_79 : decode cX0_walk 79 = .ok (.invokevirtual 45, 3) := by decide +kernel
theorem dX0_walk_82 : decode cX0_walk 82 = .ok (.aload 7, 2) := by decide +kernel
theorem dX0_walk_84 : decode cX0_walk 84 = .ok (.getfield 38, 3) := by decide +kernel
theorem dX0_walk_87 : decode cX0_walk 87 = .ok (.iconst 1, 1) := by decide +kernel
theorem dX0_walk_88 : decode cX0_walk 88 = .ok (.if_icmp .ne 10, 3) := by decide +kernel
theorem dX0_walk_91 : decode cX0_walk 91 = .ok (.aload_n 0, 1) := by decide +kernel
theorem dX0_walk_92 : decode cX0_walk 92 = .ok (.bipush (-9), 2) := by decide +kernel
theorem dX0_walk_94 : decode cX0_walk 94 = .ok (.putfield 48, 3) := by decide +kernel
theorem dX0_walk_97 : decode cX0_walk 97 = .ok (.return_, 1) := by decide +kernel
theorem dX0_walk_98 : decode cX0_walk 98 = .ok (.iload 4, 2) := by decide +kernel
theorem dX0_walk_100 : decode cX0_walk 100 = .ok (.aload 7, 2) := by decide +kernel
theorem dX0_walk_102 : decode cX0_walk 102 = .ok (.getfield 51, 3) := by decide +kernel
theorem dX0_walk_105 : decode cX0_walk 105 = .ok (.iadd, 1) := by decide +kernel
theorem dX0_walk_106 : decode cX0_walk 106 = .ok (.istore 4, 2) := by decide +kernel
theorem dX0_walk_108 : decode cX0_walk 108 = .ok (.iinc 6 1, 3) := by decide +kernel
theorem dX0_walk_111 : decode cX0_walk 111 = .ok (.goto (-97), 3) := by decide +kernel
theorem dX0_walk_114 : decode cX0_walk 114 = .ok (.aload_n 0, 1) := by decide +kernel
theorem dX0_walk_115 : decode cX0_walk 115 = .ok (.bipush 7, 2) := by decide +kernel
theorem dX0_walk_117 : decode cX0_walk 117 = .ok (.invokevirtual 45, 3) := by decide +kernel
theorem dX0_walk_120 : decode cX0_walk 120 = .ok (.aload_n 0, 1) := by decide +kernel
theorem dX0_walk_121 : decode cX0_walk 121 = .ok (.bipush (-9), 2) := by decide +kernel
theorem dX0_walk_123 : decode cX0_walk 123 = .ok (.putfield 48, 3) := by decide +kernel
theorem dX0_walk_126 : decode cX0_walk 126 = .ok (.return_, 1) := by decide +kernel
theorem dX0_give_0 : decode cX0_give 0 = .ok (.aload_n 0, 1) := by decide +kernel
theorem dX0_give_1 : decode cX0_give 1 = .ok (.iload_n 1, 1) := by decide +kernel
theorem dX0_give_2 : decode cX0_give 2 = .ok (.putfield 48, 3) := by decide +kernel
theorem dX0_give_5 : decode cX0_give 5 = .ok (.aload_n 0, 1) := by decide +kernel
theorem dX0_give_6 : decode cX0_give 6 = .ok (.iconst 0, 1) := by decide +kernel
theorem dX0_give_7 : decode cX0_give 7 = .ok (.putfield 15, 3) := by decide +kernel
theorem dX0_give_10 : decode cX0_give 10 = .ok (.return_, 1) := by decide +kernel
theorem dX0_addDenier_0 : decode cX0_addDenier 0 = .ok (.aload_n 0, 1) := by decide +kernel
theorem dX0_addDenier_1 : decode cX0_addDenier 1 = .ok (.getfield 15, 3) := by decide +kernel
theorem dX0_addDenier_4 : decode cX0_addDenier 4 = .ok (.aload_n 0, 1) := by decide +kernel
theorem dX0_addDenier_5 : decode cX0_addDenier 5 = .ok (.getfield 9, 3) := by decide +kernel
theorem dX0_addDenier_8 : decode cX0_addDenier 8 = .ok (.arraylength, 1) := by decide +kernel
theorem dX0_addDenier_9 : decode cX0_addDenier 9 = .ok (.if_icmp .lt 4, 3) := by decide +kernel
theorem dX0_addDenier_12 : decode cX0_addDenier 12 = .ok (.return_, 1) := by decide +kernel
theorem dX0_addDenier_13 : decode cX0_addDenier 13 = .ok (.aload_n 0, 1) := by decide +kernel
theorem dX0_addDenier_14 : decode cX0_addDenier 14 = .ok (.getfield 9, 3) := by decide +kernel
theorem dX0_addDenier_17 : decode cX0_addDenier 17 = .ok (.aload_n 0, 1) := by decide +kernel
theorem dX0_addDenier_18 : decode cX0_addDenier 18 = .ok (.getfield 15, 3) := by decide +kernel
theorem dX0_addDenier_21 : decode cX0_addDenier 21 = .ok (.iload_n 1, 1) := by decide +kernel
theorem dX0_addDenier_22 : decode cX0_addDenier 22 = .ok (.iastore, 1) := by decide +kernel
theorem dX0_addDenier_23 : decode cX0_addDenier 23 = .ok (.aload_n 0, 1) := by decide +kernel
theorem dX0_addDenier_24 : decode cX0_addDenier 24 = .ok (.dup, 1) := by decide +kernel
theorem dX0_addDenier_25 : decode cX0_addDenier 25 = .ok (.getfield 15, 3) := by decide +kernel
theorem dX0_addDenier_28 : decode cX0_addDenier 28 = .ok (.iconst 1, 1) := by decide +kernel
theorem dX0_addDenier_29 : decode cX0_addDenier 29 = .ok (.iadd, 1) := by decide +kernel
theorem dX0_addDenier_30 : decode cX0_addDenier 30 = .ok (.putfield 15, 3) := by decide +kernel
theorem dX0_addDenier_33 : decode cX0_addDenier 33 = .ok (.return_, 1) := by decide +kernel
theorem dX0_denier_0 : decode cX0_denier 0 = .ok (.iload_n 1, 1) := by decide +kernel
theorem dX0_denier_1 : decode cX0_denier 1 = .ok (.ifCond .lt 20, 3) := by decide +kernel
theorem dX0_denier_4 : decode cX0_denier 4 = .ok (.iload_n 1, 1) := by decide +kernel
theorem dX0_denier_5 : decode cX0_denier 5 = .ok (.aload_n 0, 1) := by decide +kernel
theorem dX0_denier_6 : decode cX0_denier 6 = .ok (.getfield 15, 3) := by decide +kernel
theorem dX0_denier_9 : decode cX0_denier 9 = .ok (.if_icmp .ge 12, 3) := by decide +kernel
theorem dX0_denier_12 : decode cX0_denier 12 = .ok (.aload_n 0, 1) := by decide +kernel
theorem dX0_denier_13 : decode cX0_denier 13 = .ok (.getfield 9, 3) := by decide +kernel
theorem dX0_denier_16 : decode cX0_denier 16 = .ok (.iload_n 1, 1) := by decide +kernel
theorem dX0_denier_17 : decode cX0_denier 17 = .ok (.iaload, 1) := by decide +kernel
theorem dX0_denier_18 : decode cX0_denier 18 = .ok (.goto 5, 3) := by decide +kernel
theorem dX0_denier_21 : decode cX0_denier 21 = .ok (.bipush (-9), 2) := by decide +kernel
theorem dX0_denier_23 : decode cX0_denier 23 = .ok (.ireturn, 1) := by decide +kernel
theorem dX1_init_0 : decode cX1_init 0 = .ok (.aload_n 0, 1) := by decide +kernel
theorem dX1_init_1 : decode cX1_init 1 = .ok (.invokespecial 3, 3) := by decide +kernel
theorem dX1_init_4 : decode cX1_init 4 = .ok (.aload_n 0, 1) := by decide +kernel
theorem dX1_init_5 : decode cX1_init 5 = .ok (.bipush 7, 2) := by decide +kernel
theorem dX1_init_7 : decode cX1_init 7 = .ok (.anewarray 9, 3) := by decide +kernel
theorem dX1_init_10 : decode cX1_init 10 = .ok (.putfield 11, 3) := by decide +kernel
theorem dX1_init_13 : decode cX1_init 13 = .ok (.aload_n 0, 1) := by decide +kernel
theorem dX1_init_14 : decode cX1_init 14 = .ok (.new 17, 3) := by decide +kernel
theorem dX1_init_17 : decode cX1_init 17 = .ok (.dup, 1) := by decide +kernel
theorem dX1_init_18 : decode cX1_init 18 = .ok (.invokespecial 19, 3) := by decide +kernel
theorem dX1_init_21 : decode cX1_init 21 = .ok (.putfield 20, 3) := by decide +kernel
theorem dX1_init_24 : decode cX1_init 24 = .ok (.iconst 0, 1) := by decide +kernel
theorem dX1_init_25 : decode cX1_init 25 = .ok (.istore_n 1, 1) := by decide +kernel
theorem dX1_init_26 : decode cX1_init 26 = .ok (.iload_n 1, 1) := by decide +kernel
theorem dX1_init_27 : decode cX1_init 27 = .ok (.bipush 7, 2) := by decide +kernel
theorem dX1_init_29 : decode cX1_init 29 = .ok (.if_icmp .ge 22, 3) := by decide +kernel
theorem dX1_init_32 : decode cX1_init 32 = .ok (.aload_n 0, 1) := by decide +kernel
theorem dX1_init_33 : decode cX1_init 33 = .ok (.getfield 11, 3) := by decide +kernel
theorem dX1_init_36 : decode cX1_init 36 = .ok (.iload_n 1, 1) := by decide +kernel
theorem dX1_init_37 : decode cX1_init 37 = .ok (.new 9, 3) := by decide +kernel
theorem dX1_init_40 : decode cX1_init 40 = .ok (.dup, 1) := by decide +kernel
theorem dX1_init_41 : decode cX1_init 41 = .ok (.invokespecial 24, 3) := by decide +kernel
theorem dX1_init_44 : decode cX1_init 44 = .ok (.aastore, 1) := by decide +kernel
theorem dX1_init_45 : decode cX1_init 45 = .ok (.iinc 1 1, 3) := by decide +kernel
theorem dX1_init_48 : decode cX1_init 48 = .ok (.goto (-22), 3) := by decide +kernel
theorem dX1_init_51 : decode cX1_init 51 = .ok (.return_, 1) := by decide +kernel
theorem dX1_isRule_0 : decode cX1_isRule 0 = .ok (.iload_n 1, 1) := by decide +kernel
theorem dX1_isRule_1 : decode cX1_isRule 1 = .ok (.ifCond .lt 15, 3) := by decide +kernel
theorem dX1_isRule_4 : decode cX1_isRule 4 = .ok (.iload_n 1, 1) := by decide +kernel
theorem dX1_isRule_5 : decode cX1_isRule 5 = .ok (.aload_n 0, 1) := by decide +kernel
theorem dX1_isRule_6 : decode cX1_isRule 6 = .ok (.getfield 25, 3) := by decide +kernel
theorem dX1_isRule_9 : decode cX1_isRule 9 = .ok (.if_icmp .ge 7, 3) := by decide +kernel
theorem dX1_isRule_12 : decode cX1_isRule 12 = .ok (.iconst 1, 1) := by decide +kernel
theorem dX1_isRule_13 : decode cX1_isRule 13 = .ok (.goto 4, 3) := by decide +kernel
theorem dX1_isRule_16 : decode cX1_isRule 16 = .ok (.iconst 0, 1) := by decide +kernel
theorem dX1_isRule_17 : decode cX1_isRule 17 = .ok (.ireturn, 1) := by decide +kernel
theorem dX1_isPair_0 : decode cX1_isPair 0 = .ok (.iload_n 1, 1) := by decide +kernel
theorem dX1_isPair_1 : decode cX1_isPair 1 = .ok (.ifCond .lt 17, 3) := by decide +kernel
theorem dX1_isPair_4 : decode cX1_isPair 4 = .ok (.iload_n 1, 1) := by decide +kernel
theorem dX1_isPair_5 : decode cX1_isPair 5 = .ok (.aload_n 0, 1) := by decide +kernel
theorem dX1_isPair_6 : decode cX1_isPair 6 = .ok (.getfield 25, 3) := by decide +kernel
theorem dX1_isPair_9 : decode cX1_isPair 9 = .ok (.iconst 1, 1) := by decide +kernel
theorem dX1_isPair_10 : decode cX1_isPair 10 = .ok (.isub, 1) := by decide +kernel
theorem dX1_isPair_11 : decode cX1_isPair 11 = .ok (.if_icmp .ge 7, 3) := by decide +kernel
theorem dX1_isPair_14 : decode cX1_isPair 14 = .ok (.iconst 1, 1) := by decide +kernel
theorem dX1_isPair_15 : decode cX1_isPair 15 = .ok (.goto 4, 3) := by decide +kernel
theorem dX1_isPair_18 : decode cX1_isPair 18 = .ok (.iconst 0, 1) := by decide +kernel
theorem dX1_isPair_19 : decode cX1_isPair 19 = .ok (.ireturn, 1) := by decide +kernel
theorem dX1_becomeLike_0 : decode cX1_becomeLike 0 = .ok (.aload_n 0, 1) := by decide +kernel
theorem dX1_becomeLike_1 : decode cX1_becomeLike 1 = .ok (.aload_n 1, 1) := by decide +kernel
theorem dX1_becomeLike_2 : decode cX1_becomeLike 2 = .ok (.getfield 25, 3) := by decide +kernel
theorem dX1_becomeLike_5 : decode cX1_becomeLike 5 = .ok (.putfield 25, 3) := by decide +kernel
theorem dX1_becomeLike_8 : decode cX1_becomeLike 8 = .ok (.iconst 0, 1) := by decide +kernel
theorem dX1_becomeLike_9 : decode cX1_becomeLike 9 = .ok (.istore_n 2, 1) := by decide +kernel
theorem dX1_becomeLike_10 : decode cX1_becomeLike 10 = .ok (.iload_n 2, 1) := by decide +kernel
theorem dX1_becomeLike_11 : decode cX1_becomeLike 11 = .ok (.aload_n 0, 1) := by decide +kernel
theorem dX1_becomeLike_12 : decode cX1_becomeLike 12 = .ok (.getfield 25, 3) := by decide +kernel
theorem dX1_becomeLike_15 : decode cX1_becomeLike 15 = .ok (.if_icmp .ge 45, 3) := by decide +kernel
theorem dX1_becomeLike_18 : decode cX1_becomeLike 18 = .ok (.aload_n 1, 1) := by decide +kernel
theorem dX1_becomeLike_19 : decode cX1_becomeLike 19 = .ok (.getfield 11, 3) := by decide +kernel
theorem dX1_becomeLike_22 : decode cX1_becomeLike 22 = .ok (.iload_n 2, 1) := by decide +kernel
theorem dX1_becomeLike_23 : decode cX1_becomeLike 23 = .ok (.aaload, 1) := by decide +kernel
theorem dX1_becomeLike_24 : decode cX1_becomeLike 24 = .ok (.astore_n 3, 1) := by decide +kernel
theorem dX1_becomeLike_25 : decode cX1_becomeLike 25 = .ok (.aload_n 0, 1) := by decide +kernel
theorem dX1_becomeLike_26 : decode cX1_becomeLike 26 = .ok (.getfield 11, 3) := by decide +kernel
theorem dX1_becomeLike_29 : decode cX1_becomeLike 29 = .ok (.iload_n 2, 1) := by decide +kernel
theorem dX1_becomeLike_30 : decode cX1_becomeLike 30 = .ok (.aaload, 1) := by decide +kernel
theorem dX1_becomeLike_31 : decode cX1_becomeLike 31 = .ok (.aload_n 3, 1) := by decide +kernel
theorem dX1_becomeLike_32 : decode cX1_becomeLike 32 = .ok (.getfield 29, 3) := by decide +kernel
theorem dX1_becomeLike_35 : decode cX1_becomeLike 35 = .ok (.aload_n 3, 1) := by decide +kernel
theorem dX1_becomeLike_36 : decode cX1_becomeLike 36 = .ok (.getfield 32, 3) := by decide +kernel
theorem dX1_becomeLike_39 : decode cX1_becomeLike 39 = .ok (.aload_n 3, 1) := by decide +kernel
theorem dX1_becomeLike_40 : decode cX1_becomeLike 40 = .ok (.getfield 35, 3) := by decide +kernel
theorem dX1_becomeLike_43 : decode cX1_becomeLike 43 = .ok (.aload_n 3, 1) := by decide +kernel
theorem dX1_becomeLike_44 : decode cX1_becomeLike 44 = .ok (.getfield 38, 3) := by decide +kernel
theorem dX1_becomeLike_47 : decode cX1_becomeLike 47 = .ok (.aload_n 3, 1) := by decide +kernel
theorem dX1_becomeLike_48 : decode cX1_becomeLike 48 = .ok (.getfield 41, 3) := by decide +kernel
theorem dX1_becomeLike_51 : decode cX1_becomeLike 51 = .ok (.invokevirtual 44, 3) := by decide +kernel
theorem dX1_becomeLike_54 : decode cX1_becomeLike 54 = .ok (.iinc 2 1, 3) := by decide +kernel
theorem dX1_becomeLike_57 : decode cX1_becomeLike 57 = .ok (.goto (-47), 3) := by decide +kernel
theorem dX1_becomeLike_60 : decode cX1_becomeLike 60 = .ok (.return_, 1) := by decide +kernel
theorem dX1_openPlace_0 : decode cX1_openPlace 0 = .ok (.iload_n 1, 1) := by decide +kernel
theorem dX1_openPlace_1 : decode cX1_openPlace 1 = .ok (.ifCond .lt 20, 3) := by decide +kernel
theorem dX1_openPlace_4 : decode cX1_openPlace 4 = .ok (.iload_n 1, 1) := by decide +kernel
theorem dX1_openPlace_5 : decode cX1_openPlace 5 = .ok (.aload_n 0, 1) := by decide +kernel
theorem dX1_openPlace_6 : decode cX1_openPlace 6 = .ok (.getfield 25, 3) := by decide +kernel
theorem dX1_openPlace_9 : decode cX1_openPlace 9 = .ok (.if_icmp .gt 12, 3) := by decide +kernel
theorem dX1_openPlace_12 : decode cX1_openPlace 12 = .ok (.aload_n 0, 1) := by decide +kernel
theorem dX1_openPlace_13 : decode cX1_openPlace 13 = .ok (.getfield 25, 3) := by decide +kernel
theorem dX1_openPlace_16 : decode cX1_openPlace 16 = .ok (.bipush 7, 2) := by decide +kernel
theorem dX1_openPlace_18 : decode cX1_openPlace 18 = .ok (.if_icmp .lt 4, 3) := by decide +kernel
theorem dX1_openPlace_21 : decode cX1_openPlace 21 = .ok (.return_, 1) := by decide +kernel
theorem dX1_openPlace_22 : decode cX1_openPlace 22 = .ok (.aload_n 0, 1) := by decide +kernel
theorem dX1_openPlace_23 : decode cX1_openPlace 23 = .ok (.getfield 11, 3) := by decide +kernel
theorem dX1_openPlace_26 : decode cX1_openPlace 26 = .ok (.aload_n 0, 1) := by decide +kernel
theorem dX1_openPlace_27 : decode cX1_openPlace 27 = .ok (.getfield 25, 3) := by decide +kernel
theorem dX1_openPlace_30 : decode cX1_openPlace 30 = .ok (.aaload, 1) := by decide +kernel
theorem dX1_openPlace_31 : decode cX1_openPlace 31 = .ok (.astore_n 2, 1) := by decide +kernel
theorem dX1_openPlace_32 : decode cX1_openPlace 32 = .ok (.aload_n 0, 1) := by decide +kernel
theorem dX1_openPlace_33 : decode cX1_openPlace 33 = .ok (.getfield 25, 3) := by decide +kernel
theorem dX1_openPlace_36 : decode cX1_openPlace 36 = .ok (.istore_n 3, 1) := by decide +kernel
theorem dX1_openPlace_37 : decode cX1_openPlace 37 = .ok (.iload_n 3, 1) := by decide +kernel
theorem dX1_openPlace_38 : decode cX1_openPlace 38 = .ok (.iload_n 1, 1) := by decide +kernel
theorem dX1_openPlace_39 : decode cX1_openPlace 39 = .ok (.if_icmp .le 23, 3) := by decide +kernel
theorem dX1_openPlace_42 : decode cX1_openPlace 42 = .ok (.aload_n 0, 1) := by decide +kernel
theorem dX1_openPlace_43 : decode cX1_openPlace 43 = .ok (.getfield 11, 3) := by decide +kernel
theorem dX1_openPlace_46 : decode cX1_openPlace 46 = .ok (.iload_n 3, 1) := by decide +kernel
theorem dX1_openPlace_47 : decode cX1_openPlace 47 = .ok (.aload_n 0, 1) := by decide +kernel
theorem dX1_openPlace_48 : decode cX1_openPlace 48 = .ok (.getfield 11, 3) := by decide +kernel
theorem dX1_openPlace_51 : decode cX1_openPlace 51 = .ok (.iload_n 3, 1) := by decide +kernel
theorem dX1_openPlace_52 : decode cX1_openPlace 52 = .ok (.iconst 1, 1) := by decide +kernel
theorem dX1_openPlace_53 : decode cX1_openPlace 53 = .ok (.isub, 1) := by decide +kernel
theorem dX1_openPlace_54 : decode cX1_openPlace 54 = .ok (.aaload, 1) := by decide +kernel
theorem dX1_openPlace_55 : decode cX1_openPlace 55 = .ok (.aastore, 1) := by decide +kernel
theorem dX1_openPlace_56 : decode cX1_openPlace 56 = .ok (.iinc 3 (-1), 3) := by decide +kernel
theorem dX1_openPlace_59 : decode cX1_openPlace 59 = .ok (.goto (-22), 3) := by decide +kernel
theorem dX1_openPlace_62 : decode cX1_openPlace 62 = .ok (.aload_n 0, 1) := by decide +kernel
theorem dX1_openPlace_63 : decode cX1_openPlace 63 = .ok (.getfield 11, 3) := by decide +kernel
theorem dX1_openPlace_66 : decode cX1_openPlace 66 = .ok (.iload_n 1, 1) := by decide +kernel
theorem dX1_openPlace_67 : decode cX1_openPlace 67 = .ok (.aload_n 2, 1) := by decide +kernel
theorem dX1_openPlace_68 : decode cX1_openPlace 68 = .ok (.aastore, 1) := by decide +kernel
theorem dX1_openPlace_69 : decode cX1_openPlace 69 = .ok (.aload_n 0, 1) := by decide +kernel
theorem dX1_openPlace_70 : decode cX1_openPlace 70 = .ok (.dup, 1) := by decide +kernel
theorem dX1_openPlace_71 : decode cX1_openPlace 71 = .ok (.getfield 25, 3) := by decide +kernel
theorem dX1_openPlace_74 : decode cX1_openPlace 74 = .ok (.iconst 1, 1) := by decide +kernel
theorem dX1_openPlace_75 : decode cX1_openPlace 75 = .ok (.iadd, 1) := by decide +kernel
theorem dX1_openPlace_76 : decode cX1_openPlace 76 = .ok (.putfield 25, 3) := by decide +kernel
theorem dX1_openPlace_79 : decode cX1_openPlace 79 = .ok (.return_, 1) := by decide +kernel
theorem dX1_takeAway_0 : decode cX1_takeAway 0 = .ok (.aload_n 0, 1) := by decide +kernel
theorem dX1_takeAway_1 : decode cX1_takeAway 1 = .ok (.iload_n 1, 1) := by decide +kernel
theorem dX1_takeAway_2 : decode cX1_takeAway 2 = .ok (.invokevirtual 48, 3) := by decide +kernel
theorem dX1_takeAway_5 : decode cX1_takeAway 5 = .ok (.ifCond .ne 4, 3) := by decide +kernel
theorem dX1_takeAway_8 : decode cX1_takeAway 8 = .ok (.return_, 1) := by decide +kernel
theorem dX1_takeAway_9 : decode cX1_takeAway 9 = .ok (.aload_n 0, 1) := by decide +kernel
theorem dX1_takeAway_10 : decode cX1_takeAway 10 = .ok (.getfield 11, 3) := by decide +kernel
theorem dX1_takeAway_13 : decode cX1_takeAway 13 = .ok (.iload_n 1, 1) := by decide +kernel
theorem dX1_takeAway_14 : decode cX1_takeAway 14 = .ok (.aaload, 1) := by decide +kernel
theorem dX1_takeAway_15 : decode cX1_takeAway 15 = .ok (.astore_n 2, 1) := by decide +kernel
theorem dX1_takeAway_16 : decode cX1_takeAway 16 = .ok (.iload_n 1, 1) := by decide +kernel
theorem dX1_takeAway_17 : decode cX1_takeAway 17 = .ok (.istore_n 3, 1) := by decide +kernel
theorem dX1_takeAway_18 : decode cX1_takeAway 18 = .ok (.iload_n 3, 1) := by decide +kernel
theorem dX1_takeAway_19 : decode cX1_takeAway 19 = .ok (.aload_n 0, 1) := by decide +kernel
theorem dX1_takeAway_20 : decode cX1_takeAway 20 = .ok (.getfield 25, 3) := by decide +kernel
theorem dX1_takeAway_23 : decode cX1_takeAway 23 = .ok (.iconst 1, 1) := by decide +kernel
theorem dX1_takeAway_24 : decode cX1_takeAway 24 = .ok (.isub, 1) := by decide +kernel
theorem dX1_takeAway_25 : decode cX1_takeAway 25 = .ok (.if_icmp .ge 23, 3) := by decide +kernel
theorem dX1_takeAway_28 : decode cX1_takeAway 28 = .ok (.aload_n 0, 1) := by decide +kernel
theorem dX1_takeAway_29 : decode cX1_takeAway 29 = .ok (.getfield 11, 3) := by decide +kernel
theorem dX1_takeAway_32 : decode cX1_takeAway 32 = .ok (.iload_n 3, 1) := by decide +kernel
theorem dX1_takeAway_33 : decode cX1_takeAway 33 = .ok (.aload_n 0, 1) := by decide +kernel
theorem dX1_takeAway_34 : decode cX1_takeAway 34 = .ok (.getfield 11, 3) := by decide +kernel
theorem dX1_takeAway_37 : decode cX1_takeAway 37 = .ok (.iload_n 3, 1) := by decide +kernel
theorem dX1_takeAway_38 : decode cX1_takeAway 38 = .ok (.iconst 1, 1) := by decide +kernel
theorem dX1_takeAway_39 : decode cX1_takeAway 39 = .ok (.iadd, 1) := by decide +kernel
theorem dX1_takeAway_40 : decode cX1_takeAway 40 = .ok (.aaload, 1) := by decide +kernel
theorem dX1_takeAway_41 : decode cX1_takeAway 41 = .ok (.aastore, 1) := by decide +kernel
theorem dX1_takeAway_42 : decode cX1_takeAway 42 = .ok (.iinc 3 1, 3) := by decide +kernel
theorem dX1_takeAway_45 : decode cX1_takeAway 45 = .ok (.goto (-27), 3) := by decide +kernel
theorem dX1_takeAway_48 : decode cX1_takeAway 48 = .ok (.aload_n 0, 1) := by decide +kernel
theorem dX1_takeAway_49 : decode cX1_takeAway 49 = .ok (.dup, 1) := by decide +kernel
theorem dX1_takeAway_50 : decode cX1_takeAway 50 = .ok (.getfield 25, 3) := by decide +kernel
theorem dX1_takeAway_53 : decode cX1_takeAway 53 = .ok (.iconst 1, 1) := by decide +kernel
theorem dX1_takeAway_54 : decode cX1_takeAway 54 = .ok (.isub, 1) := by decide +kernel
theorem dX1_takeAway_55 : decode cX1_takeAway 55 = .ok (.putfield 25, 3) := by decide +kernel
theorem dX1_takeAway_58 : decode cX1_takeAway 58 = .ok (.aload_n 0, 1) := by decide +kernel
theorem dX1_takeAway_59 : decode cX1_takeAway 59 = .ok (.getfield 11, 3) := by decide +kernel
theorem dX1_takeAway_62 : decode cX1_takeAway 62 = .ok (.aload_n 0, 1) := by decide +kernel
theorem dX1_takeAway_63 : decode cX1_takeAway 63 = .ok (.getfield 25, 3) := by decide +kernel
theorem dX1_takeAway_66 : decode cX1_takeAway 66 = .ok (.aload_n 2, 1) := by decide +kernel
theorem dX1_takeAway_67 : decode cX1_takeAway 67 = .ok (.aastore, 1) := by decide +kernel
theorem dX1_takeAway_68 : decode cX1_takeAway 68 = .ok (.return_, 1) := by decide +kernel
theorem dX1_changePlaces_0 : decode cX1_changePlaces 0 = .ok (.aload_n 0, 1) := by decide +kernel
theorem dX1_changePlaces_1 : decode cX1_changePlaces 1 = .ok (.iload_n 1, 1) := by decide +kernel
theorem dX1_changePlaces_2 : decode cX1_changePlaces 2 = .ok (.invokevirtual 52, 3) := by decide +kernel
theorem dX1_changePlaces_5 : decode cX1_changePlaces 5 = .ok (.ifCond .ne 4, 3) := by decide +kernel
theorem dX1_changePlaces_8 : decode cX1_changePlaces 8 = .ok (.return_, 1) := by decide +kernel
theorem dX1_changePlaces_9 : decode cX1_changePlaces 9 = .ok (.aload_n 0, 1) := by decide +kernel
theorem dX1_changePlaces_10 : decode cX1_changePlaces 10 = .ok (.getfield 11, 3) := by decide +kernel
theorem dX1_changePlaces_13 : decode cX1_changePlaces 13 = .ok (.iload_n 1, 1) := by decide +kernel
theorem dX1_changePlaces_14 : decode cX1_changePlaces 14 = .ok (.aaload, 1) := by decide +kernel
theorem dX1_changePlaces_15 : decode cX1_changePlaces 15 = .ok (.astore_n 2, 1) := by decide +kernel
theorem dX1_changePlaces_16 : decode cX1_changePlaces 16 = .ok (.aload_n 0, 1) := by decide +kernel
theorem dX1_changePlaces_17 : decode cX1_changePlaces 17 = .ok (.getfield 11, 3) := by decide +kernel
theorem dX1_changePlaces_20 : decode cX1_changePlaces 20 = .ok (.iload_n 1, 1) := by decide +kernel
theorem dX1_changePlaces_21 : decode cX1_changePlaces 21 = .ok (.aload_n 0, 1) := by decide +kernel
theorem dX1_changePlaces_22 : decode cX1_changePlaces 22 = .ok (.getfield 11, 3) := by decide +kernel
theorem dX1_changePlaces_25 : decode cX1_changePlaces 25 = .ok (.iload_n 1, 1) := by decide +kernel
theorem dX1_changePlaces_26 : decode cX1_changePlaces 26 = .ok (.iconst 1, 1) := by decide +kernel
theorem dX1_changePlaces_27 : decode cX1_changePlaces 27 = .ok (.iadd, 1) := by decide +kernel
theorem dX1_changePlaces_28 : decode cX1_changePlaces 28 = .ok (.aaload, 1) := by decide +kernel
theorem dX1_changePlaces_29 : decode cX1_changePlaces 29 = .ok (.aastore, 1) := by decide +kernel
theorem dX1_changePlaces_30 : decode cX1_changePlaces 30 = .ok (.aload_n 0, 1) := by decide +kernel
theorem dX1_changePlaces_31 : decode cX1_changePlaces 31 = .ok (.getfield 11, 3) := by decide +kernel
theorem dX1_changePlaces_34 : decode cX1_changePlaces 34 = .ok (.iload_n 1, 1) := by decide +kernel
theorem dX1_changePlaces_35 : decode cX1_changePlaces 35 = .ok (.iconst 1, 1) := by decide +kernel
theorem dX1_changePlaces_36 : decode cX1_changePlaces 36 = .ok (.iadd, 1) := by decide +kernel
theorem dX1_changePlaces_37 : decode cX1_changePlaces 37 = .ok (.aload_n 2, 1) := by decide +kernel
theorem dX1_changePlaces_38 : decode cX1_changePlaces 38 = .ok (.aastore, 1) := by decide +kernel
theorem dX1_changePlaces_39 : decode cX1_changePlaces 39 = .ok (.return_, 1) := by decide +kernel
theorem dX1_winnerOf_0 : decode cX1_winnerOf 0 = .ok (.iconst 0, 1) := by decide +kernel
theorem dX1_winnerOf_1 : decode cX1_winnerOf 1 = .ok (.istore_n 2, 1) := by decide +kernel
theorem dX1_winnerOf_2 : decode cX1_winnerOf 2 = .ok (.iload_n 2, 1) := by decide +kernel
theorem dX1_winnerOf_3 : decode cX1_winnerOf 3 = .ok (.aload_n 0, 1) := by decide +kernel
theorem dX1_winnerOf_4 : decode cX1_winnerOf 4 = .ok (.getfield 25, 3) := by decide +kernel
theorem dX1_winnerOf_7 : decode cX1_winnerOf 7 = .ok (.if_icmp .ge 24, 3) := by decide +kernel
theorem dX1_winnerOf_10 : decode cX1_winnerOf 10 = .ok (.aload_n 0, 1) := by decide +kernel
theorem dX1_winnerOf_11 : decode cX1_winnerOf 11 = .ok (.getfield 11, 3) := by decide +kernel
theorem dX1_winnerOf_14 : decode cX1_winnerOf 14 = .ok (.iload_n 2, 1) := by decide +kernel
theorem dX1_winnerOf_15 : decode cX1_winnerOf 15 = .ok (.aaload, 1) := by decide +kernel
theorem dX1_winnerOf_16 : decode cX1_winnerOf 16 = .ok (.iload_n 1, 1) := by decide +kernel
theorem dX1_winnerOf_17 : decode cX1_winnerOf 17 = .ok (.invokevirtual 55, 3) := by decide +kernel
theorem dX1_winnerOf_20 : decode cX1_winnerOf 20 = .ok (.ifCond .eq 5, 3) := by decide +kernel
theorem dX1_winnerOf_23 : decode cX1_winnerOf 23 = .ok (.iload_n 2, 1) := by decide +kernel
theorem dX1_winnerOf_24 : decode cX1_winnerOf 24 = .ok (.ireturn, 1) := by decide +kernel
theorem dX1_winnerOf_25 : decode cX1_winnerOf 25 = .ok (.iinc 2 1, 3) := by decide +kernel
theorem dX1_winnerOf_28 : decode cX1_winnerOf 28 = .ok (.goto (-26), 3) := by decide +kernel
theorem dX1_winnerOf_31 : decode cX1_winnerOf 31 = .ok (.bipush (-9), 2) := by decide +kernel
theorem dX1_winnerOf_33 : decode cX1_winnerOf 33 = .ok (.ireturn, 1) := by decide +kernel
theorem dX1_pointsWonBy_0 : decode cX1_pointsWonBy 0 = .ok (.iconst 0, 1) := by decide +kernel
theorem dX1_pointsWonBy_1 : decode cX1_pointsWonBy 1 = .ok (.istore_n 2, 1) := by decide +kernel
theorem dX1_pointsWonBy_2 : decode cX1_pointsWonBy 2 = .ok (.iconst 0, 1) := by decide +kernel
theorem dX1_pointsWonBy_3 : decode cX1_pointsWonBy 3 = .ok (.istore_n 3, 1) := by decide +kernel
theorem dX1_pointsWonBy_4 : decode cX1_pointsWonBy 4 = .ok (.iload_n 3, 1) := by decide +kernel
theorem dX1_pointsWonBy_5 : decode cX1_pointsWonBy 5 = .ok (.bipush 26, 2) := by decide +kernel
theorem dX1_pointsWonBy_7 : decode cX1_pointsWonBy 7 = .ok (.if_icmp .ge 21, 3) := by decide +kernel
theorem dX1_pointsWonBy_10 : decode cX1_pointsWonBy 10 = .ok (.aload_n 0, 1) := by decide +kernel
theorem dX1_pointsWonBy_11 : decode cX1_pointsWonBy 11 = .ok (.iload_n 3, 1) := by decide +kernel
theorem dX1_pointsWonBy_12 : decode cX1_pointsWonBy 12 = .ok (.invokevirtual 58, 3) := by decide +kernel
theorem dX1_pointsWonBy_15 : decode cX1_pointsWonBy 15 = .ok (.iload_n 1, 1) := by decide +kernel
theorem dX1_pointsWonBy_16 : decode cX1_pointsWonBy 16 = .ok (.if_icmp .ne 6, 3) := by decide +kernel
theorem dX1_pointsWonBy_19 : decode cX1_pointsWonBy 19 = .ok (.iinc 2 1, 3) := by decide +kernel
theorem dX1_pointsWonBy_22 : decode cX1_pointsWonBy 22 = .ok (.iinc 3 1, 3) := by decide +kernel
theorem dX1_pointsWonBy_25 : decode cX1_pointsWonBy 25 = .ok (.goto (-21), 3) := by decide +kernel
theorem dX1_pointsWonBy_28 : decode cX1_pointsWonBy 28 = .ok (.iload_n 2, 1) := by decide +kernel
theorem dX1_pointsWonBy_29 : decode cX1_pointsWonBy 29 = .ok (.ireturn, 1) := by decide +kernel
theorem dX1_worthOf_0 : decode cX1_worthOf 0 = .ok (.aload_n 0, 1) := by decide +kernel
theorem dX1_worthOf_1 : decode cX1_worthOf 1 = .ok (.getfield 20, 3) := by decide +kernel
theorem dX1_worthOf_4 : decode cX1_worthOf 4 = .ok (.aload_n 0, 1) := by decide +kernel
theorem dX1_worthOf_5 : decode cX1_worthOf 5 = .ok (.iload_n 1, 1) := by decide +kernel
theorem dX1_worthOf_6 : decode cX1_worthOf 6 = .ok (.iload_n 2, 1) := by decide +kernel
theorem dX1_worthOf_7 : decode cX1_worthOf 7 = .ok (.invokevirtual 62, 3) := by decide +kernel
theorem dX1_worthOf_10 : decode cX1_worthOf 10 = .ok (.aload_n 0, 1) := by decide +kernel
theorem dX1_worthOf_11 : decode cX1_worthOf 11 = .ok (.getfield 20, 3) := by decide +kernel
theorem dX1_worthOf_14 : decode cX1_worthOf 14 = .ok (.getfield 66, 3) := by decide +kernel
theorem dX1_worthOf_17 : decode cX1_worthOf 17 = .ok (.ireturn, 1) := by decide +kernel
theorem dX1_countDenied_0 : decode cX1_countDenied 0 = .ok (.bipush 26, 2) := by decide +kernel
theorem dX1_countDenied_2 : decode cX1_countDenied 2 = .ok (.aload_n 0, 1) := by decide +kernel
theorem dX1_countDenied_3 : decode cX1_countDenied 3 = .ok (.iconst 0, 1) := by decide +kernel
theorem dX1_countDenied_4 : decode cX1_countDenied 4 = .ok (.invokevirtual 69, 3) := by decide +kernel
theorem dX1_countDenied_7 : decode cX1_countDenied 7 = .ok (.isub, 1) := by decide +kernel
theorem dX1_countDenied_8 : decode cX1_countDenied 8 = .ok (.ireturn, 1) := by decide +kernel
theorem dX1_countWorth_0 : decode cX1_countWorth 0 = .ok (.iconst 0, 1) := by decide +kernel
theorem dX1_countWorth_1 : decode cX1_countWorth 1 = .ok (.istore_n 2, 1) := by decide +kernel
theorem dX1_countWorth_2 : decode cX1_countWorth 2 = .ok (.iconst 0, 1) := by decide +kernel
theorem dX1_countWorth_3 : decode cX1_countWorth 3 = .ok (.istore_n 3, 1) := by decide +kernel
theorem dX1_countWorth_4 : decode cX1_countWorth 4 = .ok (.iload_n 3, 1) := by decide +kernel
theorem dX1_countWorth_5 : decode cX1_countWorth 5 = .ok (.bipush 26, 2) := by decide +kernel
theorem dX1_countWorth_7 : decode cX1_countWorth 7 = .ok (.if_icmp .ge 33, 3) := by decide +kernel
theorem dX1_countWorth_10 : decode cX1_countWorth 10 = .ok (.aload_n 0, 1) := by decide +kernel
theorem dX1_countWorth_11 : decode cX1_countWorth 11 = .ok (.iload_n 3, 1) := by decide +kernel
theorem dX1_countWorth_12 : decode cX1_countWorth 12 = .ok (.iconst (-1), 1) := by decide +kernel
theorem dX1_countWorth_13 : decode cX1_countWorth 13 = .ok (.invokevirtual 72, 3) := by decide +kernel
theorem dX1_countWorth_16 : decode cX1_countWorth 16 = .ok (.istore 4, 2) := by decide +kernel
theorem dX1_countWorth_18 : decode cX1_countWorth 18 = .ok (.iload 4, 2) := by decide +kernel
theorem dX1_countWorth_20 : decode cX1_countWorth 20 = .ok (.bipush (-9), 2) := by decide +kernel
theorem dX1_countWorth_22 : decode cX1_countWorth 22 = .ok (.if_icmp .eq 12, 3) := by decide +kernel
theorem dX1_countWorth_25 : decode cX1_countWorth 25 = .ok (.iload 4, 2) := by decide +kernel
theorem dX1_countWorth_27 : decode cX1_countWorth 27 = .ok (.iload_n 1, 1) := by decide +kernel
theorem dX1_countWorth_28 : decode cX1_countWorth 28 = .ok (.if_icmp .lt 6, 3) := by decide +kernel
theorem dX1_countWorth_31 : decode cX1_countWorth 31 = .ok (.iinc 2 1, 3) := by decide +kernel
theorem dX1_countWorth_34 : decode cX1_countWorth 34 = .ok (.iinc 3 1, 3) := by decide +kernel
theorem dX1_countWorth_37 : decode cX1_countWorth 37 = .ok (.goto (-33), 3) := by decide +kernel
theorem dX1_countWorth_40 : decode cX1_countWorth 40 = .ok (.iload_n 2, 1) := by decide +kernel
theorem dX1_countWorth_41 : decode cX1_countWorth 41 = .ok (.ireturn, 1) := by decide +kernel
theorem dX1_worthTogether_0 : decode cX1_worthTogether 0 = .ok (.iconst 0, 1) := by decide +kernel
theorem dX1_worthTogether_1 : decode cX1_worthTogether 1 = .ok (.istore_n 1, 1) := by decide +kernel
theorem dX1_worthTogether_2 : decode cX1_worthTogether 2 = .ok (.iconst 0, 1) := by decide +kernel
theorem dX1_worthTogether_3 : decode cX1_worthTogether 3 = .ok (.istore_n 2, 1) := by decide +kernel
theorem dX1_worthTogether_4 : decode cX1_worthTogether 4 = .ok (.iload_n 2, 1) := by decide +kernel
theorem dX1_worthTogether_5 : decode cX1_worthTogether 5 = .ok (.bipush 26, 2) := by decide +kernel
theorem dX1_worthTogether_7 : decode cX1_worthTogether 7 = .ok (.if_icmp .ge 26, 3) := by decide +kernel
theorem dX1_worthTogether_10 : decode cX1_worthTogether 10 = .ok (.aload_n 0, 1) := by decide +kernel
theorem dX1_worthTogether_11 : decode cX1_worthTogether 11 = .ok (.iload_n 2, 1) := by decide +kernel
theorem dX1_worthTogether_12 : decode cX1_worthTogether 12 = .ok (.iconst (-1), 1) := by decide +kernel
theorem dX1_worthTogether_13 : decode cX1_worthTogether 13 = .ok (.invokevirtual 72, 3) := by decide +kernel
theorem dX1_worthTogether_16 : decode cX1_worthTogether 16 = .ok (.istore_n 3, 1) := by decide +kernel
theorem dX1_worthTogether_17 : decode cX1_worthTogether 17 = .ok (.iload_n 3, 1) := by decide +kernel
theorem dX1_worthTogether_18 : decode cX1_worthTogether 18 = .ok (.bipush (-9), 2) := by decide +kernel
theorem dX1_worthTogether_20 : decode cX1_worthTogether 20 = .ok (.if_icmp .eq 7, 3) := by decide +kernel
theorem dX1_worthTogether_23 : decode cX1_worthTogether 23 = .ok (.iload_n 1, 1) := by decide +kernel
theorem dX1_worthTogether_24 : decode cX1_worthTogether 24 = .ok (.iload_n 3, 1) := by decide +kernel
theorem dX1_worthTogether_25 : decode cX1_worthTogether 25 = .ok (.iadd, 1) := by decide +kernel
theorem dX1_worthTogether_26 : decode cX1_worthTogether 26 = .ok (.istore_n 1, 1) := by decide +kernel
theorem dX1_worthTogether_27 : decode cX1_worthTogether 27 = .ok (.iinc 2 1, 3) := by decide +kernel
theorem dX1_worthTogether_30 : decode cX1_worthTogether 30 = .ok (.goto (-26), 3) := by decide +kernel
theorem dX1_worthTogether_33 : decode cX1_worthTogether 33 = .ok (.iload_n 1, 1) := by decide +kernel
theorem dX1_worthTogether_34 : decode cX1_worthTogether 34 = .ok (.ireturn, 1) := by decide +kernel
theorem dX1_beginsRun_0 : decode cX1_beginsRun 0 = .ok (.iload_n 1, 1) := by decide +kernel
theorem dX1_beginsRun_1 : decode cX1_beginsRun 1 = .ok (.ifCond .eq 18, 3) := by decide +kernel
theorem dX1_beginsRun_4 : decode cX1_beginsRun 4 = .ok (.aload_n 0, 1) := by decide +kernel
theorem dX1_beginsRun_5 : decode cX1_beginsRun 5 = .ok (.iload_n 1, 1) := by decide +kernel
theorem dX1_beginsRun_6 : decode cX1_beginsRun 6 = .ok (.invokevirtual 58, 3) := by decide +kernel
theorem dX1_beginsRun_9 : decode cX1_beginsRun 9 = .ok (.aload_n 0, 1) := by decide +kernel
theorem dX1_beginsRun_10 : decode cX1_beginsRun 10 = .ok (.iload_n 1, 1) := by decide +kernel
theorem dX1_beginsRun_11 : decode cX1_beginsRun 11 = .ok (.iconst 1, 1) := by decide +kernel
theorem dX1_beginsRun_12 : decode cX1_beginsRun 12 = .ok (.isub, 1) := by decide +kernel
theorem dX1_beginsRun_13 : decode cX1_beginsRun 13 = .ok (.invokevirtual 58, 3) := by decide +kernel
theorem dX1_beginsRun_16 : decode cX1_beginsRun 16 = .ok (.if_icmp .eq 7, 3) := by decide +kernel
theorem dX1_beginsRun_19 : decode cX1_beginsRun 19 = .ok (.iconst 1, 1) := by decide +kernel
theorem dX1_beginsRun_20 : decode cX1_beginsRun 20 = .ok (.goto 4, 3) := by decide +kernel
theorem dX1_beginsRun_23 : decode cX1_beginsRun 23 = .ok (.iconst 0, 1) := by decide +kernel
theorem dX1_beginsRun_24 : decode cX1_beginsRun 24 = .ok (.ireturn, 1) := by decide +kernel
theorem dX1_countRuns_0 : decode cX1_countRuns 0 = .ok (.iconst 0, 1) := by decide +kernel
theorem dX1_countRuns_1 : decode cX1_countRuns 1 = .ok (.istore_n 1, 1) := by decide +kernel
theorem dX1_countRuns_2 : decode cX1_countRuns 2 = .ok (.iconst 0, 1) := by decide +kernel
theorem dX1_countRuns_3 : decode cX1_countRuns 3 = .ok (.istore_n 2, 1) := by decide +kernel
theorem dX1_countRuns_4 : decode cX1_countRuns 4 = .ok (.iload_n 2, 1) := by decide +kernel
theorem dX1_countRuns_5 : decode cX1_countRuns 5 = .ok (.bipush 26, 2) := by decide +kernel
theorem dX1_countRuns_7 : decode cX1_countRuns 7 = .ok (.if_icmp .ge 20, 3) := by decide +kernel
theorem dX1_countRuns_10 : decode cX1_countRuns 10 = .ok (.aload_n 0, 1) := by decide +kernel
theorem dX1_countRuns_11 : decode cX1_countRuns 11 = .ok (.iload_n 2, 1) := by decide +kernel
theorem dX1_countRuns_12 : decode cX1_countRuns 12 = .ok (.invokevirtual 76, 3) := by decide +kernel
theorem dX1_countRuns_15 : decode cX1_countRuns 15 = .ok (.ifCond .eq 6, 3) := by decide +kernel
theorem dX1_countRuns_18 : decode cX1_countRuns 18 = .ok (.iinc 1 1, 3) := by decide +kernel
theorem dX1_countRuns_21 : decode cX1_countRuns 21 = .ok (.iinc 2 1, 3) := by decide +kernel
theorem dX1_countRuns_24 : decode cX1_countRuns 24 = .ok (.goto (-20), 3) := by decide +kernel
theorem dX1_countRuns_27 : decode cX1_countRuns 27 = .ok (.iload_n 1, 1) := by decide +kernel
theorem dX1_countRuns_28 : decode cX1_countRuns 28 = .ok (.ireturn, 1) := by decide +kernel
theorem dX1_firstOfRun_0 : decode cX1_firstOfRun 0 = .ok (.iconst (-1), 1) := by decide +kernel
theorem dX1_firstOfRun_1 : decode cX1_firstOfRun 1 = .ok (.istore_n 2, 1) := by decide +kernel
theorem dX1_firstOfRun_2 : decode cX1_firstOfRun 2 = .ok (.iconst 0, 1) := by decide +kernel
theorem dX1_firstOfRun_3 : decode cX1_firstOfRun 3 = .ok (.istore_n 3, 1) := by decide +kernel
theorem dX1_firstOfRun_4 : decode cX1_firstOfRun 4 = .ok (.iload_n 3, 1) := by decide +kernel
theorem dX1_firstOfRun_5 : decode cX1_firstOfRun 5 = .ok (.bipush 26, 2) := by decide +kernel
theorem dX1_firstOfRun_7 : decode cX1_firstOfRun 7 = .ok (.if_icmp .ge 27, 3) := by decide +kernel
theorem dX1_firstOfRun_10 : decode cX1_firstOfRun 10 = .ok (.aload_n 0, 1) := by decide +kernel
theorem dX1_firstOfRun_11 : decode cX1_firstOfRun 11 = .ok (.iload_n 3, 1) := by decide +kernel
theorem dX1_firstOfRun_12 : decode cX1_firstOfRun 12 = .ok (.invokevirtual 76, 3) := by decide +kernel
theorem dX1_firstOfRun_15 : decode cX1_firstOfRun 15 = .ok (.ifCond .eq 6, 3) := by decide +kernel
theorem dX1_firstOfRun_18 : decode cX1_firstOfRun 18 = .ok (.iinc 2 1, 3) := by decide +kernel
theorem dX1_firstOfRun_21 : decode cX1_firstOfRun 21 = .ok (.iload_n 2, 1) := by decide +kernel
theorem dX1_firstOfRun_22 : decode cX1_firstOfRun 22 = .ok (.iload_n 1, 1) := by decide +kernel
theorem dX1_firstOfRun_23 : decode cX1_firstOfRun 23 = .ok (.if_icmp .ne 5, 3) := by decide +kernel
theorem dX1_firstOfRun_26 : decode cX1_firstOfRun 26 = .ok (.iload_n 3, 1) := by decide +kernel
theorem dX1_firstOfRun_27 : decode cX1_firstOfRun 27 = .ok (.ireturn, 1) := by decide +kernel
theorem dX1_firstOfRun_28 : decode cX1_firstOfRun 28 = .ok (.iinc 3 1, 3) := by decide +kernel
theorem dX1_firstOfRun_31 : decode cX1_firstOfRun 31 = .ok (.goto (-27), 3) := by decide +kernel
theorem dX1_firstOfRun_34 : decode cX1_firstOfRun 34 = .ok (.bipush 26, 2) := by decide +kernel
theorem dX1_firstOfRun_36 : decode cX1_firstOfRun 36 = .ok (.ireturn, 1) := by decide +kernel
theorem dX1_shadowed_0 : decode cX1_shadowed 0 = .ok (.iconst 0, 1) := by decide +kernel
theorem dX1_shadowed_1 : decode cX1_shadowed 1 = .ok (.istore_n 1, 1) := by decide +kernel
theorem dX1_shadowed_2 : decode cX1_shadowed 2 = .ok (.iconst 0, 1) := by decide +kernel
theorem dX1_shadowed_3 : decode cX1_shadowed 3 = .ok (.istore_n 2, 1) := by decide +kernel
theorem dX1_shadowed_4 : decode cX1_shadowed 4 = .ok (.iload_n 2, 1) := by decide +kernel
theorem dX1_shadowed_5 : decode cX1_shadowed 5 = .ok (.aload_n 0, 1) := by decide +kernel
theorem dX1_shadowed_6 : decode cX1_shadowed 6 = .ok (.getfield 25, 3) := by decide +kernel
theorem dX1_shadowed_9 : decode cX1_shadowed 9 = .ok (.if_icmp .ge 23, 3) := by decide +kernel
theorem dX1_shadowed_12 : decode cX1_shadowed 12 = .ok (.aload_n 0, 1) := by decide +kernel
theorem dX1_shadowed_13 : decode cX1_shadowed 13 = .ok (.iload_n 2, 1) := by decide +kernel
theorem dX1_shadowed_14 : decode cX1_shadowed 14 = .ok (.invokevirtual 79, 3) := by decide +kernel
theorem dX1_shadowed_17 : decode cX1_shadowed 17 = .ok (.ifCond .ne 9, 3) := by decide +kernel
theorem dX1_shadowed_20 : decode cX1_shadowed 20 = .ok (.iload_n 1, 1) := by decide +kernel
theorem dX1_shadowed_21 : decode cX1_shadowed 21 = .ok (.iconst 1, 1) := by decide +kernel
theorem dX1_shadowed_22 : decode cX1_shadowed 22 = .ok (.iload_n 2, 1) := by decide +kernel
theorem dX1_shadowed_23 : decode cX1_shadowed 23 = .ok (.ishl, 1) := by decide +kernel
theorem dX1_shadowed_24 : decode cX1_shadowed 24 = .ok (.ior, 1) := by decide +kernel
theorem dX1_shadowed_25 : decode cX1_shadowed 25 = .ok (.istore_n 1, 1) := by decide +kernel
theorem dX1_shadowed_26 : decode cX1_shadowed 26 = .ok (.iinc 2 1, 3) := by decide +kernel
theorem dX1_shadowed_29 : decode cX1_shadowed 29 = .ok (.goto (-25), 3) := by decide +kernel
theorem dX1_shadowed_32 : decode cX1_shadowed 32 = .ok (.iload_n 1, 1) := by decide +kernel
theorem dX1_shadowed_33 : decode cX1_shadowed 33 = .ok (.ireturn, 1) := by decide +kernel
theorem dX1_needed_0 : decode cX1_needed 0 = .ok (.iconst 0, 1) := by decide +kernel
theorem dX1_needed_1 : decode cX1_needed 1 = .ok (.istore_n 1, 1) := by decide +kernel
theorem dX1_needed_2 : decode cX1_needed 2 = .ok (.iconst 0, 1) := by decide +kernel
theorem dX1_needed_3 : decode cX1_needed 3 = .ok (.istore_n 2, 1) := by decide +kernel
theorem dX1_needed_4 : decode cX1_needed 4 = .ok (.iload_n 2, 1) := by decide +kernel
theorem dX1_needed_5 : decode cX1_needed 5 = .ok (.aload_n 0, 1) := by decide +kernel
theorem dX1_needed_6 : decode cX1_needed 6 = .ok (.getfield 25, 3) := by decide +kernel
theorem dX1_needed_9 : decode cX1_needed 9 = .ok (.if_icmp .ge 23, 3) := by decide +kernel
theorem dX1_needed_12 : decode cX1_needed 12 = .ok (.aload_n 0, 1) := by decide +kernel
theorem dX1_needed_13 : decode cX1_needed 13 = .ok (.iload_n 2, 1) := by decide +kernel
theorem dX1_needed_14 : decode cX1_needed 14 = .ok (.invokevirtual 82, 3) := by decide +kernel
theorem dX1_needed_17 : decode cX1_needed 17 = .ok (.ifCond .eq 9, 3) := by decide +kernel
theorem dX1_needed_20 : decode cX1_needed 20 = .ok (.iload_n 1, 1) := by decide +kernel
theorem dX1_needed_21 : decode cX1_needed 21 = .ok (.iconst 1, 1) := by decide +kernel
theorem dX1_needed_22 : decode cX1_needed 22 = .ok (.iload_n 2, 1) := by decide +kernel
theorem dX1_needed_23 : decode cX1_needed 23 = .ok (.ishl, 1) := by decide +kernel
theorem dX1_needed_24 : decode cX1_needed 24 = .ok (.ior, 1) := by decide +kernel
theorem dX1_needed_25 : decode cX1_needed 25 = .ok (.istore_n 1, 1) := by decide +kernel
theorem dX1_needed_26 : decode cX1_needed 26 = .ok (.iinc 2 1, 3) := by decide +kernel
theorem dX1_needed_29 : decode cX1_needed 29 = .ok (.goto (-25), 3) := by decide +kernel
theorem dX1_needed_32 : decode cX1_needed 32 = .ok (.iload_n 1, 1) := by decide +kernel
theorem dX1_needed_33 : decode cX1_needed 33 = .ok (.ireturn, 1) := by decide +kernel
theorem dX1_isNeeded_0 : decode cX1_isNeeded 0 = .ok (.iconst 0, 1) := by decide +kernel
theorem dX1_isNeeded_1 : decode cX1_isNeeded 1 = .ok (.istore_n 2, 1) := by decide +kernel
theorem dX1_isNeeded_2 : decode cX1_isNeeded 2 = .ok (.iload_n 2, 1) := by decide +kernel
theorem dX1_isNeeded_3 : decode cX1_isNeeded 3 = .ok (.bipush 26, 2) := by decide +kernel
theorem dX1_isNeeded_5 : decode cX1_isNeeded 5 = .ok (.if_icmp .ge 26, 3) := by decide +kernel
theorem dX1_isNeeded_8 : decode cX1_isNeeded 8 = .ok (.aload_n 0, 1) := by decide +kernel
theorem dX1_isNeeded_9 : decode cX1_isNeeded 9 = .ok (.iload_n 2, 1) := by decide +kernel
theorem dX1_isNeeded_10 : decode cX1_isNeeded 10 = .ok (.iconst (-1), 1) := by decide +kernel
theorem dX1_isNeeded_11 : decode cX1_isNeeded 11 = .ok (.invokevirtual 72, 3) := by decide +kernel
theorem dX1_isNeeded_14 : decode cX1_isNeeded 14 = .ok (.aload_n 0, 1) := by decide +kernel
theorem dX1_isNeeded_15 : decode cX1_isNeeded 15 = .ok (.iload_n 2, 1) := by decide +kernel
theorem dX1_isNeeded_16 : decode cX1_isNeeded 16 = .ok (.iload_n 1, 1) := by decide +kernel
theorem dX1_isNeeded_17 : decode cX1_isNeeded 17 = .ok (.invokevirtual 72, 3) := by decide +kernel
theorem dX1_isNeeded_20 : decode cX1_isNeeded 20 = .ok (.if_icmp .eq 5, 3) := by decide +kernel
theorem dX1_isNeeded_23 : decode cX1_isNeeded 23 = .ok (.iconst 1, 1) := by decide +kernel
theorem dX1_isNeeded_24 : decode cX1_isNeeded 24 = .ok (.ireturn, 1) := by decide +kernel
theorem dX1_isNeeded_25 : decode cX1_isNeeded 25 = .ok (.iinc 2 1, 3) := by decide +kernel
theorem dX1_isNeeded_28 : decode cX1_isNeeded 28 = .ok (.goto (-26), 3) := by decide +kernel
theorem dX1_isNeeded_31 : decode cX1_isNeeded 31 = .ok (.iconst 0, 1) := by decide +kernel
theorem dX1_isNeeded_32 : decode cX1_isNeeded 32 = .ok (.ireturn, 1) := by decide +kernel
theorem dX2_init_0 : decode cX2_init 0 = .ok (.aload_n 0, 1) := by decide +kernel
theorem dX2_init_1 : decode cX2_init 1 = .ok (.invokespecial 3, 3) := by decide +kernel
theorem dX2_init_4 : decode cX2_init 4 = .ok (.aload_n 0, 1) := by decide +kernel
theorem dX2_init_5 : decode cX2_init 5 = .ok (.bipush 60, 2) := by decide +kernel
theorem dX2_init_7 : decode cX2_init 7 = .ok (.newarray .int, 2) := by decide +kernel
theorem dX2_init_9 : decode cX2_init 9 = .ok (.putfield 9, 3) := by decide +kernel
theorem dX2_init_12 : decode cX2_init 12 = .ok (.aload_n 0, 1) := by decide +kernel
theorem dX2_init_13 : decode cX2_init 13 = .ok (.iconst (-1), 1) := by decide +kernel
theorem dX2_init_14 : decode cX2_init 14 = .ok (.putfield 15, 3) := by decide +kernel
theorem dX2_init_17 : decode cX2_init 17 = .ok (.return_, 1) := by decide +kernel
theorem dX2_isNothing_0 : decode cX2_isNothing 0 = .ok (.aload_n 0, 1) := by decide +kernel
theorem dX2_isNothing_1 : decode cX2_isNothing 1 = .ok (.getfield 15, 3) := by decide +kernel
theorem dX2_isNothing_4 : decode cX2_isNothing 4 = .ok (.iconst (-1), 1) := by decide +kernel
theorem dX2_isNothing_5 : decode cX2_isNothing 5 = .ok (.if_icmp .ne 7, 3) := by decide +kernel
theorem dX2_isNothing_8 : decode cX2_isNothing 8 = .ok (.iconst 1, 1) := by decide +kernel
theorem dX2_isNothing_9 : decode cX2_isNothing 9 = .ok (.goto 4, 3) := by decide +kernel
theorem dX2_isNothing_12 : decode cX2_isNothing 12 = .ok (.iconst 0, 1) := by decide +kernel
theorem dX2_isNothing_13 : decode cX2_isNothing 13 = .ok (.ireturn, 1) := by decide +kernel
theorem dX2_becomeNothing_0 : decode cX2_becomeNothing 0 = .ok (.aload_n 0, 1) := by decide +kernel
theorem dX2_becomeNothing_1 : decode cX2_becomeNothing 1 = .ok (.iconst (-1), 1) := by decide +kernel
theorem dX2_becomeNothing_2 : decode cX2_becomeNothing 2 = .ok (.putfield 15, 3) := by decide +kernel
theorem dX2_becomeNothing_5 : decode cX2_becomeNothing 5 = .ok (.aload_n 0, 1) := by decide +kernel
theorem dX2_becomeNothing_6 : decode cX2_becomeNothing 6 = .ok (.iconst 0, 1) := by decide +kernel
theorem dX2_becomeNothing_7 : decode cX2_becomeNothing 7 = .ok (.putfield 19, 3) := by decide +kernel
theorem dX2_becomeNothing_10 : decode cX2_becomeNothing 10 = .ok (.return_, 1) := by decide +kernel
theorem dX2_becomeNew_0 : decode cX2_becomeNew 0 = .ok (.aload_n 0, 1) := by decide +kernel
theorem dX2_becomeNew_1 : decode cX2_becomeNew 1 = .ok (.iload_n 1, 1) := by decide +kernel
theorem dX2_becomeNew_2 : decode cX2_becomeNew 2 = .ok (.putfield 15, 3) := by decide +kernel
theorem dX2_becomeNew_5 : decode cX2_becomeNew 5 = .ok (.aload_n 0, 1) := by decide +kernel
theorem dX2_becomeNew_6 : decode cX2_becomeNew 6 = .ok (.iconst 0, 1) := by decide +kernel
theorem dX2_becomeNew_7 : decode cX2_becomeNew 7 = .ok (.iload_n 2, 1) := by decide +kernel
theorem dX2_becomeNew_8 : decode cX2_becomeNew 8 = .ok (.bipush 60, 2) := by decide +kernel
theorem dX2_becomeNew_10 : decode cX2_becomeNew 10 = .ok (.invokestatic 22, 3) := by decide +kernel
theorem dX2_becomeNew_13 : decode cX2_becomeNew 13 = .ok (.invokestatic 28, 3) := by decide +kernel
theorem dX2_becomeNew_16 : decode cX2_becomeNew 16 = .ok (.putfield 19, 3) := by decide +kernel
theorem dX2_becomeNew_19 : decode cX2_becomeNew 19 = .ok (.iconst 0, 1) := by decide +kernel
theorem dX2_becomeNew_20 : decode cX2_becomeNew 20 = .ok (.istore_n 3, 1) := by decide +kernel
theorem dX2_becomeNew_21 : decode cX2_becomeNew 21 = .ok (.iload_n 3, 1) := by decide +kernel
theorem dX2_becomeNew_22 : decode cX2_becomeNew 22 = .ok (.aload_n 0, 1) := by decide +kernel
theorem dX2_becomeNew_23 : decode cX2_becomeNew 23 = .ok (.getfield 19, 3) := by decide +kernel
theorem dX2_becomeNew_26 : decode cX2_becomeNew 26 = .ok (.if_icmp .ge 16, 3) := by decide +kernel
theorem dX2_becomeNew_29 : decode cX2_becomeNew 29 = .ok (.aload_n 0, 1) := by decide +kernel
theorem dX2_becomeNew_30 : decode cX2_becomeNew 30 = .ok (.getfield 9, 3) := by decide +kernel
theorem dX2_becomeNew_33 : decode cX2_becomeNew 33 = .ok (.iload_n 3, 1) := by decide +kernel
theorem dX2_becomeNew_34 : decode cX2_becomeNew 34 = .ok (.iconst 0, 1) := by decide +kernel
theorem dX2_becomeNew_35 : decode cX2_becomeNew 35 = .ok (.iastore, 1) := by decide +kernel
theorem dX2_becomeNew_36 : decode cX2_becomeNew 36 = .ok (.iinc 3 1, 3) := by decide +kernel
theorem dX2_becomeNew_39 : decode cX2_becomeNew 39 = .ok (.goto (-18), 3) := by decide +kernel
theorem dX2_becomeNew_42 : decode cX2_becomeNew 42 = .ok (.return_, 1) := by decide +kernel
theorem dX2_faultAs_0 : decode cX2_faultAs 0 = .ok (.aload_n 0, 1) := by decide +kernel
theorem dX2_faultAs_1 : decode cX2_faultAs 1 = .ok (.invokevirtual 31, 3) := by decide +kernel
theorem dX2_faultAs_4 : decode cX2_faultAs 4 = .ok (.ifCond .eq 5, 3) := by decide +kernel
theorem dX2_faultAs_7 : decode cX2_faultAs 7 = .ok (.iconst 1, 1) := by decide +kernel
theorem dX2_faultAs_8 : decode cX2_faultAs 8 = .ok (.ireturn, 1) := by decide +kernel
theorem dX2_faultAs_9 : decode cX2_faultAs 9 = .ok (.aload_n 0, 1) := by decide +kernel
theorem dX2_faultAs_10 : decode cX2_faultAs 10 = .ok (.getfield 15, 3) := by decide +kernel
theorem dX2_faultAs_13 : decode cX2_faultAs 13 = .ok (.iload_n 1, 1) := by decide +kernel
theorem dX2_faultAs_14 : decode cX2_faultAs 14 = .ok (.if_icmp .ne 7, 3) := by decide +kernel
theorem dX2_faultAs_17 : decode cX2_faultAs 17 = .ok (.iconst 0, 1) := by decide +kernel
theorem dX2_faultAs_18 : decode cX2_faultAs 18 = .ok (.goto 4, 3) := by decide +kernel
theorem dX2_faultAs_21 : decode cX2_faultAs 21 = .ok (.iconst 2, 1) := by decide +kernel
theorem dX2_faultAs_22 : decode cX2_faultAs 22 = .ok (.ireturn, 1) := by decide +kernel
theorem dX2_hasCells_0 : decode cX2_hasCells 0 = .ok (.iload_n 1, 1) := by decide +kernel
theorem dX2_hasCells_1 : decode cX2_hasCells 1 = .ok (.ifCond .lt 29, 3) := by decide +kernel
theorem dX2_hasCells_4 : decode cX2_hasCells 4 = .ok (.iload_n 1, 1) := by decide +kernel
theorem dX2_hasCells_5 : decode cX2_hasCells 5 = .ok (.aload_n 0, 1) := by decide +kernel
theorem dX2_hasCells_6 : decode cX2_hasCells 6 = .ok (.getfield 19, 3) := by decide +kernel
theorem dX2_hasCells_9 : decode cX2_hasCells 9 = .ok (.if_icmp .gt 21, 3) := by decide +kernel
theorem dX2_hasCells_12 : decode cX2_hasCells 12 = .ok (.iload_n 2, 1) := by decide +kernel
theorem dX2_hasCells_13 : decode cX2_hasCells 13 = .ok (.ifCond .lt 17, 3) := by decide +kernel
theorem dX2_hasCells_16 : decode cX2_hasCells 16 = .ok (.iload_n 2, 1) := by decide +kernel
theorem dX2_hasCells_17 : decode cX2_hasCells 17 = .ok (.aload_n 0, 1) := by decide +kernel
theorem dX2_hasCells_18 : decode cX2_hasCells 18 = .ok (.getfield 19, 3) := by decide +kernel
theorem dX2_hasCells_21 : decode cX2_hasCells 21 = .ok (.iload_n 1, 1) := by decide +kernel
theorem dX2_hasCells_22 : decode cX2_hasCells 22 = .ok (.isub, 1) := by decide +kernel
theorem dX2_hasCells_23 : decode cX2_hasCells 23 = .ok (.if_icmp .gt 7, 3) := by decide +kernel
theorem dX2_hasCells_26 : decode cX2_hasCells 26 = .ok (.iconst 1, 1) := by decide +kernel
theorem dX2_hasCells_27 : decode cX2_hasCells 27 = .ok (.goto 4, 3) := by decide +kernel
theorem dX2_hasCells_30 : decode cX2_hasCells 30 = .ok (.iconst 0, 1) := by decide +kernel
theorem dX2_hasCells_31 : decode cX2_hasCells 31 = .ok (.ireturn, 1) := by decide +kernel
theorem dX2_read_0 : decode cX2_read 0 = .ok (.iload_n 1, 1) := by decide +kernel
theorem dX2_read_1 : decode cX2_read 1 = .ok (.ifCond .lt 20, 3) := by decide +kernel
theorem dX2_read_4 : decode cX2_read 4 = .ok (.iload_n 1, 1) := by decide +kernel
theorem dX2_read_5 : decode cX2_read 5 = .ok (.aload_n 0, 1) := by decide +kernel
theorem dX2_read_6 : decode cX2_read 6 = .ok (.getfield 19, 3) := by decide +kernel
theorem dX2_read_9 : decode cX2_read 9 = .ok (.if_icmp .ge 12, 3) := by decide +kernel
theorem dX2_read_12 : decode cX2_read 12 = .ok (.aload_n 0, 1) := by decide +kernel
theorem dX2_read_13 : decode cX2_read 13 = .ok (.getfield 9, 3) := by decide +kernel
theorem dX2_read_16 : decode cX2_read 16 = .ok (.iload_n 1, 1) := by decide +kernel
theorem dX2_read_17 : decode cX2_read 17 = .ok (.iaload, 1) := by decide +kernel
theorem dX2_read_18 : decode cX2_read 18 = .ok (.goto 4, 3) := by decide +kernel
theorem dX2_read_21 : decode cX2_read 21 = .ok (.iconst 0, 1) := by decide +kernel
theorem dX2_read_22 : decode cX2_read 22 = .ok (.ireturn, 1) := by decide +kernel
theorem dX2_write_0 : decode cX2_write 0 = .ok (.iload_n 1, 1) := by decide +kernel
theorem dX2_write_1 : decode cX2_write 1 = .ok (.ifCond .lt 22, 3) := by decide +kernel
theorem dX2_write_4 : decode cX2_write 4 = .ok (.iload_n 1, 1) := by decide +kernel
theorem dX2_write_5 : decode cX2_write 5 = .ok (.aload_n 0, 1) := by decide +kernel
theorem dX2_write_6 : decode cX2_write 6 = .ok (.getfield 19, 3) := by decide +kernel
theorem dX2_write_9 : decode cX2_write 9 = .ok (.if_icmp .ge 14, 3) := by decide +kernel
theorem dX2_write_12 : decode cX2_write 12 = .ok (.aload_n 0, 1) := by decide +kernel
theorem dX2_write_13 : decode cX2_write 13 = .ok (.getfield 9, 3) := by decide +kernel
theorem dX2_write_16 : decode cX2_write 16 = .ok (.iload_n 1, 1) := by decide +kernel
theorem dX2_write_17 : decode cX2_write 17 = .ok (.aload_n 0, 1) := by decide +kernel
theorem dX2_write_18 : decode cX2_write 18 = .ok (.iload_n 2, 1) := by decide +kernel
theorem dX2_write_19 : decode cX2_write 19 = .ok (.invokevirtual 35, 3) := by decide +kernel
theorem dX2_write_22 : decode cX2_write 22 = .ok (.iastore, 1) := by decide +kernel
theorem dX2_write_23 : decode cX2_write 23 = .ok (.return_, 1) := by decide +kernel
theorem dX2_cut_0 : decode cX2_cut 0 = .ok (.aload_n 0, 1) := by decide +kernel
theorem dX2_cut_1 : decode cX2_cut 1 = .ok (.getfield 15, 3) := by decide +kernel
theorem dX2_cut_4 : decode cX2_cut 4 = .ok (.ifCond .ne 6, 3) := by decide +kernel
theorem dX2_cut_7 : decode cX2_cut 7 = .ok (.iload_n 1, 1) := by decide +kernel
theorem dX2_cut_8 : decode cX2_cut 8 = .ok (.i2b, 1) := by decide +kernel
theorem dX2_cut_9 : decode cX2_cut 9 = .ok (.ireturn, 1) := by decide +kernel
theorem dX2_cut_10 : decode cX2_cut 10 = .ok (.aload_n 0, 1) := by decide +kernel
theorem dX2_cut_11 : decode cX2_cut 11 = .ok (.getfield 15, 3) := by decide +kernel
theorem dX2_cut_14 : decode cX2_cut 14 = .ok (.iconst 1, 1) := by decide +kernel
theorem dX2_cut_15 : decode cX2_cut 15 = .ok (.if_icmp .ne 6, 3) := by decide +kernel
theorem dX2_cut_18 : decode cX2_cut 18 = .ok (.iload_n 1, 1) := by decide +kernel
theorem dX2_cut_19 : decode cX2_cut 19 = .ok (.i2s, 1) := by decide +kernel
theorem dX2_cut_20 : decode cX2_cut 20 = .ok (.ireturn, 1) := by decide +kernel
theorem dX2_cut_21 : decode cX2_cut 21 = .ok (.iload_n 1, 1) := by decide +kernel
theorem dX2_cut_22 : decode cX2_cut 22 = .ok (.ireturn, 1) := by decide +kernel
theorem dX3_init_0 : decode cX3_init 0 = .ok (.aload_n 0, 1) := by decide +kernel
theorem dX3_init_1 : decode cX3_init 1 = .ok (.invokespecial 3, 3) := by decide +kernel
theorem dX3_init_4 : decode cX3_init 4 = .ok (.aload_n 0, 1) := by decide +kernel
theorem dX3_init_5 : decode cX3_init 5 = .ok (.iconst 1, 1) := by decide +kernel
theorem dX3_init_6 : decode cX3_init 6 = .ok (.putfield 9, 3) := by decide +kernel
theorem dX3_init_9 : decode cX3_init 9 = .ok (.return_, 1) := by decide +kernel
theorem dX3_become_0 : decode cX3_become 0 = .ok (.aload_n 0, 1) := by decide +kernel
theorem dX3_become_1 : decode cX3_become 1 = .ok (.iload_n 1, 1) := by decide +kernel
theorem dX3_become_2 : decode cX3_become 2 = .ok (.putfield 15, 3) := by decide +kernel
theorem dX3_become_5 : decode cX3_become 5 = .ok (.aload_n 0, 1) := by decide +kernel
theorem dX3_become_6 : decode cX3_become 6 = .ok (.iload_n 2, 1) := by decide +kernel
theorem dX3_become_7 : decode cX3_become 7 = .ok (.putfield 18, 3) := by decide +kernel
theorem dX3_become_10 : decode cX3_become 10 = .ok (.aload_n 0, 1) := by decide +kernel
theorem dX3_become_11 : decode cX3_become 11 = .ok (.iload_n 3, 1) := by decide +kernel
theorem dX3_become_12 : decode cX3_become 12 = .ok (.putfield 9, 3) := by decide +kernel
theorem dX3_become_15 : decode cX3_become 15 = .ok (.aload_n 0, 1) := by decide +kernel
theorem dX3_become_16 : decode cX3_become 16 = .ok (.iload 4, 2) := by decide +kernel
theorem dX3_become_18 : decode cX3_become 18 = .ok (.putfield 21, 3) := by decide +kernel
theorem dX3_become_21 : decode cX3_become 21 = .ok (.aload_n 0, 1) := by decide +kernel
theorem dX3_become_22 : decode cX3_become 22 = .ok (.iload 5, 2) := by decide +kernel
theorem dX3_become_24 : decode cX3_become 24 = .ok (.putfield 24, 3) := by decide +kernel
theorem dX3_become_27 : decode cX3_become 27 = .ok (.return_, 1) := by decide +kernel
theorem dX3_hasPoint_0 : decode cX3_hasPoint 0 = .ok (.iload_n 1, 1) := by decide +kernel
theorem dX3_hasPoint_1 : decode cX3_hasPoint 1 = .ok (.aload_n 0, 1) := by decide +kernel
theorem dX3_hasPoint_2 : decode cX3_hasPoint 2 = .ok (.getfield 21, 3) := by decide +kernel
theorem dX3_hasPoint_5 : decode cX3_hasPoint 5 = .ok (.if_icmp .lt 15, 3) := by decide +kernel
theorem dX3_hasPoint_8 : decode cX3_hasPoint 8 = .ok (.iload_n 1, 1) := by decide +kernel
theorem dX3_hasPoint_9 : decode cX3_hasPoint 9 = .ok (.aload_n 0, 1) := by decide +kernel
theorem dX3_hasPoint_10 : decode cX3_hasPoint 10 = .ok (.getfield 24, 3) := by decide +kernel
theorem dX3_hasPoint_13 : decode cX3_hasPoint 13 = .ok (.if_icmp .gt 7, 3) := by decide +kernel
theorem dX3_hasPoint_16 : decode cX3_hasPoint 16 = .ok (.iconst 1, 1) := by decide +kernel
theorem dX3_hasPoint_17 : decode cX3_hasPoint 17 = .ok (.goto 4, 3) := by decide +kernel
theorem dX3_hasPoint_20 : decode cX3_hasPoint 20 = .ok (.iconst 0, 1) := by decide +kernel
theorem dX3_hasPoint_21 : decode cX3_hasPoint 21 = .ok (.ireturn, 1) := by decide +kernel
theorem dX3_ownWorth_0 : decode cX3_ownWorth 0 = .ok (.aload_n 0, 1) := by decide +kernel
theorem dX3_ownWorth_1 : decode cX3_ownWorth 1 = .ok (.getfield 15, 3) := by decide +kernel
theorem dX3_ownWorth_4 : decode cX3_ownWorth 4 = .ok (.iconst 1, 1) := by decide +kernel
theorem dX3_ownWorth_5 : decode cX3_ownWorth 5 = .ok (.if_icmp .ne 10, 3) := by decide +kernel
theorem dX3_ownWorth_8 : decode cX3_ownWorth 8 = .ok (.aload_n 0, 1) := by decide +kernel
theorem dX3_ownWorth_9 : decode cX3_ownWorth 9 = .ok (.getfield 9, 3) := by decide +kernel
theorem dX3_ownWorth_12 : decode cX3_ownWorth 12 = .ok (.iconst 1, 1) := by decide +kernel
theorem dX3_ownWorth_13 : decode cX3_ownWorth 13 = .ok (.iadd, 1) := by decide +kernel
theorem dX3_ownWorth_14 : decode cX3_ownWorth 14 = .ok (.ireturn, 1) := by decide +kernel
theorem dX3_ownWorth_15 : decode cX3_ownWorth 15 = .ok (.aload_n 0, 1) := by decide +kernel
theorem dX3_ownWorth_16 : decode cX3_ownWorth 16 = .ok (.getfield 15, 3) := by decide +kernel
theorem dX3_ownWorth_19 : decode cX3_ownWorth 19 = .ok (.iconst 2, 1) := by decide +kernel
theorem dX3_ownWorth_20 : decode cX3_ownWorth 20 = .ok (.if_icmp .ne 12, 3) := by decide +kernel
theorem dX3_ownWorth_23 : decode cX3_ownWorth 23 = .ok (.iconst 2, 1) := by decide +kernel
theorem dX3_ownWorth_24 : decode cX3_ownWorth 24 = .ok (.aload_n 0, 1) := by decide +kernel
theorem dX3_ownWorth_25 : decode cX3_ownWorth 25 = .ok (.getfield 9, 3) := by decide +kernel
theorem dX3_ownWorth_28 : decode cX3_ownWorth 28 = .ok (.imul, 1) := by decide +kernel
theorem dX3_ownWorth_29 : decode cX3_ownWorth 29 = .ok (.goto 7, 3) := by decide +kernel
theorem dX3_ownWorth_32 : decode cX3_ownWorth 32 = .ok (.aload_n 0, 1) := by decide +kernel
theorem dX3_ownWorth_33 : decode cX3_ownWorth 33 = .ok (.getfield 9, 3) := by decide +kernel
theorem dX3_ownWorth_36 : decode cX3_ownWorth 36 = .ok (.ireturn, 1) := by decide +kernel
theorem dX4_firstFault_0 : decode cX4_firstFault 0 = .ok (.iconst 0, 1) := by decide +kernel
theorem dX4_firstFault_1 : decode cX4_firstFault 1 = .ok (.istore_n 3, 1) := by decide +kernel
theorem dX4_firstFault_2 : decode cX4_firstFault 2 = .ok (.iload_n 3, 1) := by decide +kernel
theorem dX4_firstFault_3 : decode cX4_firstFault 3 = .ok (.iload_n 2, 1) := by decide +kernel
theorem dX4_firstFault_4 : decode cX4_firstFault 4 = .ok (.if_icmp .ge 20, 3) := by decide +kernel
theorem dX4_firstFault_7 : decode cX4_firstFault 7 = .ok (.aload_n 0, 1) := by decide +kernel
theorem dX4_firstFault_8 : decode cX4_firstFault 8 = .ok (.iload_n 1, 1) := by decide +kernel
theorem dX4_firstFault_9 : decode cX4_firstFault 9 = .ok (.iload_n 3, 1) := by decide +kernel
theorem dX4_firstFault_10 : decode cX4_firstFault 10 = .ok (.invokestatic 9, 3) := by decide +kernel
theorem dX4_firstFault_13 : decode cX4_firstFault 13 = .ok (.ifCond .ne 5, 3) := by decide +kernel
theorem dX4_firstFault_16 : decode cX4_firstFault 16 = .ok (.iload_n 3, 1) := by decide +kernel
theorem dX4_firstFault_17 : decode cX4_firstFault 17 = .ok (.ireturn, 1) := by decide +kernel
theorem dX4_firstFault_18 : decode cX4_firstFault 18 = .ok (.iinc 3 1, 3) := by decide +kernel
theorem dX4_firstFault_21 : decode cX4_firstFault 21 = .ok (.goto (-19), 3) := by decide +kernel
theorem dX4_firstFault_24 : decode cX4_firstFault 24 = .ok (.iload_n 2, 1) := by decide +kernel
theorem dX4_firstFault_25 : decode cX4_firstFault 25 = .ok (.iconst 1, 1) := by decide +kernel
theorem dX4_firstFault_26 : decode cX4_firstFault 26 = .ok (.if_icmp .le 16, 3) := by decide +kernel
theorem dX4_firstFault_29 : decode cX4_firstFault 29 = .ok (.iload_n 2, 1) := by decide +kernel
theorem dX4_firstFault_30 : decode cX4_firstFault 30 = .ok (.iconst 1, 1) := by decide +kernel
theorem dX4_firstFault_31 : decode cX4_firstFault 31 = .ok (.isub, 1) := by decide +kernel
theorem dX4_firstFault_32 : decode cX4_firstFault 32 = .ok (.bipush 6, 2) := by decide +kernel
theorem dX4_firstFault_34 : decode cX4_firstFault 34 = .ok (.irem, 1) := by decide +kernel
theorem dX4_firstFault_35 : decode cX4_firstFault 35 = .ok (.ifCond .ne 7, 3) := by decide +kernel
theorem dX4_firstFault_38 : decode cX4_firstFault 38 = .ok (.iconst (-1), 1) := by decide +kernel
theorem dX4_firstFault_39 : decode cX4_firstFault 39 = .ok (.goto 4, 3) := by decide +kernel
theorem dX4_firstFault_42 : decode cX4_firstFault 42 = .ok (.iload_n 2, 1) := by decide +kernel
theorem dX4_firstFault_43 : decode cX4_firstFault 43 = .ok (.ireturn, 1) := by decide +kernel
theorem dX4_goesOn_0 : decode cX4_goesOn 0 = .ok (.aload_n 0, 1) := by decide +kernel
theorem dX4_goesOn_1 : decode cX4_goesOn 1 = .ok (.iload_n 1, 1) := by decide +kernel
theorem dX4_goesOn_2 : decode cX4_goesOn 2 = .ok (.iload_n 2, 1) := by decide +kernel
theorem dX4_goesOn_3 : decode cX4_goesOn 3 = .ok (.iadd, 1) := by decide +kernel
theorem dX4_goesOn_4 : decode cX4_goesOn 4 = .ok (.invokevirtual 15, 3) := by decide +kernel
theorem dX4_goesOn_7 : decode cX4_goesOn 7 = .ok (.istore_n 3, 1) := by decide +kernel
theorem dX4_goesOn_8 : decode cX4_goesOn 8 = .ok (.iload_n 2, 1) := by decide +kernel
theorem dX4_goesOn_9 : decode cX4_goesOn 9 = .ok (.ifCond .ne 15, 3) := by decide +kernel
theorem dX4_goesOn_12 : decode cX4_goesOn 12 = .ok (.iload_n 3, 1) := by decide +kernel
theorem dX4_goesOn_13 : decode cX4_goesOn 13 = .ok (.bipush 113, 2) := by decide +kernel
theorem dX4_goesOn_15 : decode cX4_goesOn 15 = .ok (.if_icmp .ne 7, 3) := by decide +kernel
theorem dX4_goesOn_18 : decode cX4_goesOn 18 = .ok (.iconst 1, 1) := by decide +kernel
theorem dX4_goesOn_19 : decode cX4_goesOn 19 = .ok (.goto 4, 3) := by decide +kernel
theorem dX4_goesOn_22 : decode cX4_goesOn 22 = .ok (.iconst 0, 1) := by decide +kernel
theorem dX4_goesOn_23 : decode cX4_goesOn 23 = .ok (.ireturn, 1) := by decide +kernel
theorem dX4_goesOn_24 : decode cX4_goesOn 24 = .ok (.iload_n 2, 1) := by decide +kernel
theorem dX4_goesOn_25 : decode cX4_goesOn 25 = .ok (.bipush 42, 2) := by decide +kernel
theorem dX4_goesOn_27 : decode cX4_goesOn 27 = .ok (.if_icmp .le 5, 3) := by decide +kernel
theorem dX4_goesOn_30 : decode cX4_goesOn 30 = .ok (.iconst 0, 1) := by decide +kernel
theorem dX4_goesOn_31 : decode cX4_goesOn 31 = .ok (.ireturn, 1) := by decide +kernel
theorem dX4_goesOn_32 : decode cX4_goesOn 32 = .ok (.iload_n 2, 1) := by decide +kernel
theorem dX4_goesOn_33 : decode cX4_goesOn 33 = .ok (.iconst 1, 1) := by decide +kernel
theorem dX4_goesOn_34 : decode cX4_goesOn 34 = .ok (.isub, 1) := by decide +kernel
theorem dX4_goesOn_35 : decode cX4_goesOn 35 = .ok (.bipush 6, 2) := by decide +kernel
theorem dX4_goesOn_37 : decode cX4_goesOn 37 = .ok (.irem, 1) := by decide +kernel
theorem dX4_goesOn_38 : decode cX4_goesOn 38 = .ok (.tableswitch 94 0 4 #[34, 46, 61, 76, 85], 34) := by decide +kernel
theorem dX4_goesOn_72 : decode cX4_goesOn 72 = .ok (.iload_n 3, 1) := by decide +kernel
theorem dX4_goesOn_73 : decode cX4_goesOn 73 = .ok (.bipush 59, 2) := by decide +kernel
theorem dX4_goesOn_75 : decode cX4_goesOn 75 = .ok (.if_icmp .ne 7, 3) := by decide +kernel
theorem dX4_goesOn_78 : decode cX4_goesOn 78 = .ok (.iconst 1, 1) := by decide +kernel
theorem dX4_goesOn_79 : decode cX4_goesOn 79 = .ok (.goto 4, 3) := by decide +kernel
theorem dX4_goesOn_82 : decode cX4_goesOn 82 = .ok (.iconst 0, 1) := by decide +kernel
theorem dX4_goesOn_83 : decode cX4_goesOn 83 = .ok (.ireturn, 1) := by decide +kernel
theorem dX4_goesOn_84 : decode cX4_goesOn 84 = .ok (.iload_n 3, 1) := by decide +kernel
theorem dX4_goesOn_85 : decode cX4_goesOn 85 = .ok (.invokestatic 21, 3) := by decide +kernel
theorem dX4_goesOn_88 : decode cX4_goesOn 88 = .ok (.bipush (-9), 2) := by decide +kernel
theorem dX4_goesOn_90 : decode cX4_goesOn 90 = .ok (.if_icmp .eq 7, 3) := by decide +kernel
theorem dX4_goesOn_93 : decode cX4_goesOn 93 = .ok (.iconst 1, 1) := by decide +kernel
theorem dX4_goesOn_94 : decode cX4_goesOn 94 = .ok (.goto 4, 3) := by decide +kernel
theorem dX4_goesOn_97 : decode cX4_goesOn 97 = .ok (.iconst 0, 1) := by decide +kernel
theorem dX4_goesOn_98 : decode cX4_goesOn 98 = .ok (.ireturn, 1) := by decide +kernel
theorem dX4_goesOn_99 : decode cX4_goesOn 99 = .ok (.iload_n 3, 1) := by decide +kernel
theorem dX4_goesOn_100 : decode cX4_goesOn 100 = .ok (.invokestatic 24, 3) := by decide +kernel
theorem dX4_goesOn_103 : decode cX4_goesOn 103 = .ok (.bipush (-9), 2) := by decide +kernel
theorem dX4_goesOn_105 : decode cX4_goesOn 105 = .ok (.if_icmp .eq 7, 3) := by decide +kernel
theorem dX4_goesOn_108 : decode cX4_goesOn 108 = .ok (.iconst 1, 1) := by decide +kernel
theorem dX4_goesOn_109 : decode cX4_goesOn 109 = .ok (.goto 4, 3) := by decide +kernel
theorem dX4_goesOn_112 : decode cX4_goesOn 112 = .ok (.iconst 0, 1) := by decide +kernel
theorem dX4_goesOn_113 : decode cX4_goesOn 113 = .ok (.ireturn, 1) := by decide +kernel
theorem dX4_goesOn_114 : decode cX4_goesOn 114 = .ok (.iload_n 3, 1) := by decide +kernel
theorem dX4_goesOn_115 : decode cX4_goesOn 115 = .ok (.bipush 49, 2) := by decide +kernel
theorem dX4_goesOn_117 : decode cX4_goesOn 117 = .ok (.bipush 57, 2) := by decide +kernel
theorem dX4_goesOn_119 : decode cX4_goesOn 119 = .ok (.invokestatic 27, 3) := by decide +kernel
theorem dX4_goesOn_122 : decode cX4_goesOn 122 = .ok (.ireturn, 1) := by decide +kernel
theorem dX4_goesOn_123 : decode cX4_goesOn 123 = .ok (.iload_n 3, 1) := by decide +kernel
theorem dX4_goesOn_124 : decode cX4_goesOn 124 = .ok (.bipush 97, 2) := by decide +kernel
theorem dX4_goesOn_126 : decode cX4_goesOn 126 = .ok (.bipush 122, 2) := by decide +kernel
theorem dX4_goesOn_128 : decode cX4_goesOn 128 = .ok (.invokestatic 27, 3) := by decide +kernel
theorem dX4_goesOn_131 : decode cX4_goesOn 131 = .ok (.ireturn, 1) := by decide +kernel
theorem dX4_goesOn_132 : decode cX4_goesOn 132 = .ok (.iload_n 3, 1) := by decide +kernel
theorem dX4_goesOn_133 : decode cX4_goesOn 133 = .ok (.aload_n 0, 1) := by decide +kernel
theorem dX4_goesOn_134 : decode cX4_goesOn 134 = .ok (.iload_n 1, 1) := by decide +kernel
theorem dX4_goesOn_135 : decode cX4_goesOn 135 = .ok (.iload_n 2, 1) := by decide +kernel
theorem dX4_goesOn_136 : decode cX4_goesOn 136 = .ok (.iadd, 1) := by decide +kernel
theorem dX4_goesOn_137 : decode cX4_goesOn 137 = .ok (.iconst 1, 1) := by decide +kernel
theorem dX4_goesOn_138 : decode cX4_goesOn 138 = .ok (.isub, 1) := by decide +kernel
theorem dX4_goesOn_139 : decode cX4_goesOn 139 = .ok (.invokevirtual 15, 3) := by decide +kernel
theorem dX4_goesOn_142 : decode cX4_goesOn 142 = .ok (.bipush 122, 2) := by decide +kernel
theorem dX4_goesOn_144 : decode cX4_goesOn 144 = .ok (.invokestatic 27, 3) := by decide +kernel
theorem dX4_goesOn_147 : decode cX4_goesOn 147 = .ok (.ireturn, 1) := by decide +kernel
theorem dX4_take_0 : decode cX4_take 0 = .ok (.aload_n 3, 1) := by decide +kernel
theorem dX4_take_1 : decode cX4_take 1 = .ok (.iload_n 2, 1) := by decide +kernel
theorem dX4_take_2 : decode cX4_take 2 = .ok (.iconst 1, 1) := by decide +kernel
theorem dX4_take_3 : decode cX4_take 3 = .ok (.isub, 1) := by decide +kernel
theorem dX4_take_4 : decode cX4_take 4 = .ok (.bipush 6, 2) := by decide +kernel
theorem dX4_take_6 : decode cX4_take 6 = .ok (.idiv, 1) := by decide +kernel
theorem dX4_take_7 : decode cX4_take 7 = .ok (.bipush 7, 2) := by decide +kernel
theorem dX4_take_9 : decode cX4_take 9 = .ok (.invokestatic 31, 3) := by decide +kernel
theorem dX4_take_12 : decode cX4_take 12 = .ok (.putfield 37, 3) := by decide +kernel
theorem dX4_take_15 : decode cX4_take 15 = .ok (.iconst 0, 1) := by decide +kernel
theorem dX4_take_16 : decode cX4_take 16 = .ok (.istore 4, 2) := by decide +kernel
theorem dX4_take_18 : decode cX4_take 18 = .ok (.iload 4, 2) := by decide +kernel
theorem dX4_take_20 : decode cX4_take 20 = .ok (.aload_n 3, 1) := by decide +kernel
theorem dX4_take_21 : decode cX4_take 21 = .ok (.getfield 37, 3) := by decide +kernel
theorem dX4_take_24 : decode cX4_take 24 = .ok (.if_icmp .ge 85, 3) := by decide +kernel
theorem dX4_take_27 : decode cX4_take 27 = .ok (.iload_n 1, 1) := by decide +kernel
theorem dX4_take_28 : decode cX4_take 28 = .ok (.iconst 1, 1) := by decide +kernel
theorem dX4_take_29 : decode cX4_take 29 = .ok (.iadd, 1) := by decide +kernel
theorem dX4_take_30 : decode cX4_take 30 = .ok (.iload 4, 2) := by decide +kernel
theorem dX4_take_32 : decode cX4_take 32 = .ok (.bipush 6, 2) := by decide +kernel
theorem dX4_take_34 : decode cX4_take 34 = .ok (.imul, 1) := by decide +kernel
theorem dX4_take_35 : decode cX4_take 35 = .ok (.iadd, 1) := by decide +kernel
theorem dX4_take_36 : decode cX4_take 36 = .ok (.istore 5, 2) := by decide +kernel
theorem dX4_take_38 : decode cX4_take 38 = .ok (.aload_n 3, 1) := by decide +kernel
theorem dX4_take_39 : decode cX4_take 39 = .ok (.getfield 43, 3) := by decide +kernel
theorem dX4_take_42 : decode cX4_take 42 = .ok (.iload 4, 2) := by decide +kernel
theorem dX4_take_44 : decode cX4_take 44 = .ok (.aaload, 1) := by decide +kernel
theorem dX4_take_45 : decode cX4_take 45 = .ok (.aload_n 0, 1) := by decide +kernel
theorem dX4_take_46 : decode cX4_take 46 = .ok (.iload 5, 2) := by decide +kernel
theorem dX4_take_48 : decode cX4_take 48 = .ok (.iconst 1, 1) := by decide +kernel
theorem dX4_take_49 : decode cX4_take 49 = .ok (.iadd, 1) := by decide +kernel
theorem dX4_take_50 : decode cX4_take 50 = .ok (.invokevirtual 15, 3) := by decide +kernel
theorem dX4_take_53 : decode cX4_take 53 = .ok (.invokestatic 21, 3) := by decide +kernel
theorem dX4_take_56 : decode cX4_take 56 = .ok (.aload_n 0, 1) := by decide +kernel
theorem dX4_take_57 : decode cX4_take 57 = .ok (.iload 5, 2) := by decide +kernel
theorem dX4_take_59 : decode cX4_take 59 = .ok (.iconst 2, 1) := by decide +kernel
theorem dX4_take_60 : decode cX4_take 60 = .ok (.iadd, 1) := by decide +kernel
theorem dX4_take_61 : decode cX4_take 61 = .ok (.invokevirtual 15, 3) := by decide +kernel
theorem dX4_take_64 : decode cX4_take 64 = .ok (.invokestatic 24, 3) := by decide +kernel
theorem dX4_take_67 : decode cX4_take 67 = .ok (.aload_n 0, 1) := by decide +kernel
theorem dX4_take_68 : decode cX4_take 68 = .ok (.iload 5, 2) := by decide +kernel
theorem dX4_take_70 : decode cX4_take 70 = .ok (.iconst 3, 1) := by decide +kernel
theorem dX4_take_71 : decode cX4_take 71 = .ok (.iadd, 1) := by decide +kernel
theorem dX4_take_72 : decode cX4_take 72 = .ok (.invokevirtual 15, 3) := by decide +kernel
theorem dX4_take_75 : decode cX4_take 75 = .ok (.bipush 48, 2) := by decide +kernel
theorem dX4_take_77 : decode cX4_take 77 = .ok (.isub, 1) := by decide +kernel
theorem dX4_take_78 : decode cX4_take 78 = .ok (.aload_n 0, 1) := by decide +kernel
theorem dX4_take_79 : decode cX4_take 79 = .ok (.iload 5, 2) := by decide +kernel
theorem dX4_take_81 : decode cX4_take 81 = .ok (.iconst 4, 1) := by decide +kernel
theorem dX4_take_82 : decode cX4_take 82 = .ok (.iadd, 1) := by decide +kernel
theorem dX4_take_83 : decode cX4_take 83 = .ok (.invokevirtual 15, 3) := by decide +kernel
theorem dX4_take_86 : decode cX4_take 86 = .ok (.bipush 97, 2) := by decide +kernel
theorem dX4_take_88 : decode cX4_take 88 = .ok (.isub, 1) := by decide +kernel
theorem dX4_take_89 : decode cX4_take 89 = .ok (.aload_n 0, 1) := by decide +kernel
theorem dX4_take_90 : decode cX4_take 90 = .ok (.iload 5, 2) := by decide +kernel
theorem dX4_take_92 : decode cX4_take 92 = .ok (.iconst 5, 1) := by decide +kernel
theorem dX4_take_93 : decode cX4_take 93 = .ok (.iadd, 1) := by decide +kernel
theorem dX4_take_94 : decode cX4_take 94 = .ok (.invokevirtual 15, 3) := by decide +kernel
theorem dX4_take_97 : decode cX4_take 97 = .ok (.bipush 97, 2) := by decide +kernel
theorem dX4_take_99 : decode cX4_take 99 = .ok (.isub, 1) := by decide +kernel
theorem dX4_take_100 : decode cX4_take 100 = .ok (.invokevirtual 47, 3) := by decide +kernel
theorem dX4_take_103 : decode cX4_take 103 = .ok (.iinc 4 1, 3) := by decide +kernel
theorem dX4_take_106 : decode cX4_take 106 = .ok (.goto (-88), 3) := by decide +kernel
theorem dX4_take_109 : decode cX4_take 109 = .ok (.return_, 1) := by decide +kernel
theorem dX4_kindOf_0 : decode cX4_kindOf 0 = .ok (.iload_n 0, 1) := by decide +kernel
theorem dX4_kindOf_1 : decode cX4_kindOf 1 = .ok (.lookupswitch 41 #[(66, 37), (80, 35), (87, 39)], 35) := by decide +kernel
theorem dX4_kindOf_36 : decode cX4_kindOf 36 = .ok (.iconst 0, 1) := by decide +kernel
theorem dX4_kindOf_37 : decode cX4_kindOf 37 = .ok (.ireturn, 1) := by decide +kernel
theorem dX4_kindOf_38 : decode cX4_kindOf 38 = .ok (.iconst 1, 1) := by decide +kernel
theorem dX4_kindOf_39 : decode cX4_kindOf 39 = .ok (.ireturn, 1) := by decide +kernel
theorem dX4_kindOf_40 : decode cX4_kindOf 40 = .ok (.iconst 2, 1) := by decide +kernel
theorem dX4_kindOf_41 : decode cX4_kindOf 41 = .ok (.ireturn, 1) := by decide +kernel
theorem dX4_kindOf_42 : decode cX4_kindOf 42 = .ok (.bipush (-9), 2) := by decide +kernel
theorem dX4_kindOf_44 : decode cX4_kindOf 44 = .ok (.ireturn, 1) := by decide +kernel
theorem dX4_deedOf_0 : decode cX4_deedOf 0 = .ok (.iload_n 0, 1) := by decide +kernel
theorem dX4_deedOf_1 : decode cX4_deedOf 1 = .ok (.lookupswitch 41 #[(68, 37), (71, 35), (74, 39)], 35) := by decide +kernel
theorem dX4_deedOf_36 : decode cX4_deedOf 36 = .ok (.iconst 0, 1) := by decide +kernel
theorem dX4_deedOf_37 : decode cX4_deedOf 37 = .ok (.ireturn, 1) := by decide +kernel
theorem dX4_deedOf_38 : decode cX4_deedOf 38 = .ok (.iconst 1, 1) := by decide +kernel
theorem dX4_deedOf_39 : decode cX4_deedOf 39 = .ok (.ireturn, 1) := by decide +kernel
theorem dX4_deedOf_40 : decode cX4_deedOf 40 = .ok (.iconst 2, 1) := by decide +kernel
theorem dX4_deedOf_41 : decode cX4_deedOf 41 = .ok (.ireturn, 1) := by decide +kernel
theorem dX4_deedOf_42 : decode cX4_deedOf 42 = .ok (.bipush (-9), 2) := by decide +kernel
theorem dX4_deedOf_44 : decode cX4_deedOf 44 = .ok (.ireturn, 1) := by decide +kernel
theorem dX5_init_0 : decode cX5_init 0 = .ok (.aload_n 0, 1) := by decide +kernel
theorem dX5_init_1 : decode cX5_init 1 = .ok (.invokespecial 3, 3) := by decide +kernel
theorem dX5_init_4 : decode cX5_init 4 = .ok (.aload_n 0, 1) := by decide +kernel
theorem dX5_init_5 : decode cX5_init 5 = .ok (.new 9, 3) := by decide +kernel
theorem dX5_init_8 : decode cX5_init 8 = .ok (.dup, 1) := by decide +kernel
theorem dX5_init_9 : decode cX5_init 9 = .ok (.invokespecial 11, 3) := by decide +kernel
theorem dX5_init_12 : decode cX5_init 12 = .ok (.putfield 12, 3) := by decide +kernel
theorem dX5_init_15 : decode cX5_init 15 = .ok (.aload_n 0, 1) := by decide +kernel
theorem dX5_init_16 : decode cX5_init 16 = .ok (.new 9, 3) := by decide +kernel
theorem dX5_init_19 : decode cX5_init 19 = .ok (.dup, 1) := by decide +kernel
theorem dX5_init_20 : decode cX5_init 20 = .ok (.invokespecial 11, 3) := by decide +kernel
theorem dX5_init_23 : decode cX5_init 23 = .ok (.putfield 18, 3) := by decide +kernel
theorem dX5_init_26 : decode cX5_init 26 = .ok (.aload_n 0, 1) := by decide +kernel
theorem dX5_init_27 : decode cX5_init 27 = .ok (.iconst 4, 1) := by decide +kernel
theorem dX5_init_28 : decode cX5_init 28 = .ok (.anewarray 21, 3) := by decide +kernel
theorem dX5_init_31 : decode cX5_init 31 = .ok (.putfield 23, 3) := by decide +kernel
theorem dX5_init_34 : decode cX5_init 34 = .ok (.aload_n 0, 1) := by decide +kernel
theorem dX5_init_35 : decode cX5_init 35 = .ok (.bipush 8, 2) := by decide +kernel
theorem dX5_init_37 : decode cX5_init 37 = .ok (.newarray .int, 2) := by decide +kernel
