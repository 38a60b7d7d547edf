theorem dX5_tell_24 : decode cX5_tell 24 = .ok (.getfield 81, 3) := by decide +kernel
theorem dX5_tell_27 : decode cX5_tell 27 = .ok (.lookupswitch 37 #[(1, 25), (2, 31)], 25) := by decide +kernel
theorem dX5_tell_52 : decode cX5_tell 52 = .ok (.aload_n 0, 1) := by decide +kernel
theorem dX5_tell_53 : decode cX5_tell 53 = .ok (.aload_n 2, 1) := by decide +kernel
theorem dX5_tell_54 : decode cX5_tell 54 = .ok (.invokevirtual 223, 3) := by decide +kernel
theorem dX5_tell_57 : decode cX5_tell 57 = .ok (.ireturn, 1) := by decide +kernel
theorem dX5_tell_58 : decode cX5_tell 58 = .ok (.aload_n 0, 1) := by decide +kernel
theorem dX5_tell_59 : decode cX5_tell 59 = .ok (.aload_n 2, 1) := by decide +kernel
theorem dX5_tell_60 : decode cX5_tell 60 = .ok (.invokevirtual 227, 3) := by decide +kernel
theorem dX5_tell_63 : decode cX5_tell 63 = .ok (.ireturn, 1) := by decide +kernel
theorem dX5_tell_64 : decode cX5_tell 64 = .ok (.aload_n 0, 1) := by decide +kernel
theorem dX5_tell_65 : decode cX5_tell 65 = .ok (.aload_n 2, 1) := by decide +kernel
theorem dX5_tell_66 : decode cX5_tell 66 = .ok (.invokevirtual 230, 3) := by decide +kernel
theorem dX5_tell_69 : decode cX5_tell 69 = .ok (.ireturn, 1) := by decide +kernel
theorem dX5_cite_0 : decode cX5_cite 0 = .ok (.aload_n 0, 1) := by decide +kernel
theorem dX5_cite_1 : decode cX5_cite 1 = .ok (.getfield 12, 3) := by decide +kernel
theorem dX5_cite_4 : decode cX5_cite 4 = .ok (.iload_n 1, 1) := by decide +kernel
theorem dX5_cite_5 : decode cX5_cite 5 = .ok (.invokevirtual 74, 3) := by decide +kernel
theorem dX5_cite_8 : decode cX5_cite 8 = .ok (.ifCond .ne 5, 3) := by decide +kernel
theorem dX5_cite_11 : decode cX5_cite 11 = .ok (.iconst (-1), 1) := by decide +kernel
theorem dX5_cite_12 : decode cX5_cite 12 = .ok (.ireturn, 1) := by decide +kernel
theorem dX5_cite_13 : decode cX5_cite 13 = .ok (.aload_n 0, 1) := by decide +kernel
theorem dX5_cite_14 : decode cX5_cite 14 = .ok (.getfield 12, 3) := by decide +kernel
theorem dX5_cite_17 : decode cX5_cite 17 = .ok (.getfield 77, 3) := by decide +kernel
theorem dX5_cite_20 : decode cX5_cite 20 = .ok (.iload_n 1, 1) := by decide +kernel
theorem dX5_cite_21 : decode cX5_cite 21 = .ok (.aaload, 1) := by decide +kernel
theorem dX5_cite_22 : decode cX5_cite 22 = .ok (.astore_n 2, 1) := by decide +kernel
theorem dX5_cite_23 : decode cX5_cite 23 = .ok (.aload_n 2, 1) := by decide +kernel
theorem dX5_cite_24 : decode cX5_cite 24 = .ok (.getfield 81, 3) := by decide +kernel
theorem dX5_cite_27 : decode cX5_cite 27 = .ok (.iconst 2, 1) := by decide +kernel
theorem dX5_cite_28 : decode cX5_cite 28 = .ok (.if_icmp .ne 10, 3) := by decide +kernel
theorem dX5_cite_31 : decode cX5_cite 31 = .ok (.aload_n 0, 1) := by decide +kernel
theorem dX5_cite_32 : decode cX5_cite 32 = .ok (.invokevirtual 233, 3) := by decide +kernel
theorem dX5_cite_35 : decode cX5_cite 35 = .ok (.goto 8, 3) := by decide +kernel
theorem dX5_cite_38 : decode cX5_cite 38 = .ok (.aload_n 0, 1) := by decide +kernel
theorem dX5_cite_39 : decode cX5_cite 39 = .ok (.aload_n 2, 1) := by decide +kernel
theorem dX5_cite_40 : decode cX5_cite 40 = .ok (.invokevirtual 236, 3) := by decide +kernel
theorem dX5_cite_43 : decode cX5_cite 43 = .ok (.ireturn, 1) := by decide +kernel
theorem dX5_as_0 : decode cX5_as 0 = .ok (.aload_n 0, 1) := by decide +kernel
theorem dX5_as_1 : decode cX5_as 1 = .ok (.iconst 0, 1) := by decide +kernel
theorem dX5_as_2 : decode cX5_as 2 = .ok (.putfield 35, 3) := by decide +kernel
theorem dX5_as_5 : decode cX5_as 5 = .ok (.aload_n 0, 1) := by decide +kernel
theorem dX5_as_6 : decode cX5_as 6 = .ok (.getfield 12, 3) := by decide +kernel
theorem dX5_as_9 : decode cX5_as 9 = .ok (.iload_n 1, 1) := by decide +kernel
theorem dX5_as_10 : decode cX5_as 10 = .ok (.invokevirtual 74, 3) := by decide +kernel
theorem dX5_as_13 : decode cX5_as 13 = .ok (.ifCond .ne 5, 3) := by decide +kernel
theorem dX5_as_16 : decode cX5_as 16 = .ok (.iconst (-1), 1) := by decide +kernel
theorem dX5_as_17 : decode cX5_as 17 = .ok (.ireturn, 1) := by decide +kernel
theorem dX5_as_18 : decode cX5_as 18 = .ok (.iload_n 2, 1) := by decide +kernel
theorem dX5_as_19 : decode cX5_as 19 = .ok (.iconst 0, 1) := by decide +kernel
theorem dX5_as_20 : decode cX5_as 20 = .ok (.iconst 2, 1) := by decide +kernel
theorem dX5_as_21 : decode cX5_as 21 = .ok (.invokestatic 43, 3) := by decide +kernel
theorem dX5_as_24 : decode cX5_as 24 = .ok (.ifCond .ne 6, 3) := by decide +kernel
theorem dX5_as_27 : decode cX5_as 27 = .ok (.bipush (-2), 2) := by decide +kernel
theorem dX5_as_29 : decode cX5_as 29 = .ok (.ireturn, 1) := by decide +kernel
theorem dX5_as_30 : decode cX5_as 30 = .ok (.iload_n 2, 1) := by decide +kernel
theorem dX5_as_31 : decode cX5_as 31 = .ok (.aload_n 0, 1) := by decide +kernel
theorem dX5_as_32 : decode cX5_as 32 = .ok (.getfield 12, 3) := by decide +kernel
theorem dX5_as_35 : decode cX5_as 35 = .ok (.getfield 77, 3) := by decide +kernel
theorem dX5_as_38 : decode cX5_as 38 = .ok (.iload_n 1, 1) := by decide +kernel
theorem dX5_as_39 : decode cX5_as 39 = .ok (.aaload, 1) := by decide +kernel
theorem dX5_as_40 : decode cX5_as 40 = .ok (.getfield 81, 3) := by decide +kernel
theorem dX5_as_43 : decode cX5_as 43 = .ok (.if_icmp .le 9, 3) := by decide +kernel
theorem dX5_as_46 : decode cX5_as 46 = .ok (.aload_n 0, 1) := by decide +kernel
theorem dX5_as_47 : decode cX5_as 47 = .ok (.iconst 2, 1) := by decide +kernel
theorem dX5_as_48 : decode cX5_as 48 = .ok (.invokevirtual 51, 3) := by decide +kernel
theorem dX5_as_51 : decode cX5_as 51 = .ok (.ireturn, 1) := by decide +kernel
theorem dX5_as_52 : decode cX5_as 52 = .ok (.iconst 1, 1) := by decide +kernel
theorem dX5_as_53 : decode cX5_as 53 = .ok (.ireturn, 1) := by decide +kernel
theorem dX5_trace_0 : decode cX5_trace 0 = .ok (.aload_n 0, 1) := by decide +kernel
theorem dX5_trace_1 : decode cX5_trace 1 = .ok (.getfield 239, 3) := by decide +kernel
theorem dX5_trace_4 : decode cX5_trace 4 = .ok (.ireturn, 1) := by decide +kernel
theorem dX5_fault_0 : decode cX5_fault 0 = .ok (.aload_n 0, 1) := by decide +kernel
theorem dX5_fault_1 : decode cX5_fault 1 = .ok (.getfield 35, 3) := by decide +kernel
theorem dX5_fault_4 : decode cX5_fault 4 = .ok (.ireturn, 1) := by decide +kernel
theorem dX5_many_0 : decode cX5_many 0 = .ok (.iload_n 1, 1) := by decide +kernel
theorem dX5_many_1 : decode cX5_many 1 = .ok (.tableswitch 45 0 2 #[27, 35, 40], 27) := by decide +kernel
theorem dX5_many_28 : decode cX5_many 28 = .ok (.aload_n 0, 1) := by decide +kernel
theorem dX5_many_29 : decode cX5_many 29 = .ok (.getfield 12, 3) := by decide +kernel
theorem dX5_many_32 : decode cX5_many 32 = .ok (.getfield 71, 3) := by decide +kernel
theorem dX5_many_35 : decode cX5_many 35 = .ok (.ireturn, 1) := by decide +kernel
theorem dX5_many_36 : decode cX5_many 36 = .ok (.aload_n 0, 1) := by decide +kernel
theorem dX5_many_37 : decode cX5_many 37 = .ok (.invokevirtual 161, 3) := by decide +kernel
theorem dX5_many_40 : decode cX5_many 40 = .ok (.ireturn, 1) := by decide +kernel
theorem dX5_many_41 : decode cX5_many 41 = .ok (.aload_n 0, 1) := by decide +kernel
theorem dX5_many_42 : decode cX5_many 42 = .ok (.getfield 68, 3) := by decide +kernel
theorem dX5_many_45 : decode cX5_many 45 = .ok (.ireturn, 1) := by decide +kernel
theorem dX5_many_46 : decode cX5_many 46 = .ok (.bipush (-2), 2) := by decide +kernel
theorem dX5_many_48 : decode cX5_many 48 = .ok (.ireturn, 1) := by decide +kernel
theorem dX5_isIn_0 : decode cX5_isIn 0 = .ok (.iload_n 0, 1) := by decide +kernel
theorem dX5_isIn_1 : decode cX5_isIn 1 = .ok (.iload_n 1, 1) := by decide +kernel
theorem dX5_isIn_2 : decode cX5_isIn 2 = .ok (.if_icmp .lt 12, 3) := by decide +kernel
theorem dX5_isIn_5 : decode cX5_isIn 5 = .ok (.iload_n 0, 1) := by decide +kernel
theorem dX5_isIn_6 : decode cX5_isIn 6 = .ok (.iload_n 2, 1) := by decide +kernel
theorem dX5_isIn_7 : decode cX5_isIn 7 = .ok (.if_icmp .gt 7, 3) := by decide +kernel
theorem dX5_isIn_10 : decode cX5_isIn 10 = .ok (.iconst 1, 1) := by decide +kernel
theorem dX5_isIn_11 : decode cX5_isIn 11 = .ok (.goto 4, 3) := by decide +kernel
theorem dX5_isIn_14 : decode cX5_isIn 14 = .ok (.iconst 0, 1) := by decide +kernel
theorem dX5_isIn_15 : decode cX5_isIn 15 = .ok (.ireturn, 1) := by decide +kernel
theorem dX5_isPoint_0 : decode cX5_isPoint 0 = .ok (.iload_n 0, 1) := by decide +kernel
theorem dX5_isPoint_1 : decode cX5_isPoint 1 = .ok (.iconst 0, 1) := by decide +kernel
theorem dX5_isPoint_2 : decode cX5_isPoint 2 = .ok (.bipush 25, 2) := by decide +kernel
theorem dX5_isPoint_4 : decode cX5_isPoint 4 = .ok (.invokestatic 43, 3) := by decide +kernel
theorem dX5_isPoint_7 : decode cX5_isPoint 7 = .ok (.ireturn, 1) := by decide +kernel
theorem dX5_isSheet_0 : decode cX5_isSheet 0 = .ok (.iload_n 0, 1) := by decide +kernel
theorem dX5_isSheet_1 : decode cX5_isSheet 1 = .ok (.iconst 0, 1) := by decide +kernel
theorem dX5_isSheet_2 : decode cX5_isSheet 2 = .ok (.iconst 3, 1) := by decide +kernel
theorem dX5_isSheet_3 : decode cX5_isSheet 3 = .ok (.invokestatic 43, 3) := by decide +kernel
theorem dX5_isSheet_6 : decode cX5_isSheet 6 = .ok (.ireturn, 1) := by decide +kernel
theorem dX5_faulted_0 : decode cX5_faulted 0 = .ok (.aload_n 0, 1) := by decide +kernel
theorem dX5_faulted_1 : decode cX5_faulted 1 = .ok (.iload_n 1, 1) := by decide +kernel
theorem dX5_faulted_2 : decode cX5_faulted 2 = .ok (.putfield 35, 3) := by decide +kernel
theorem dX5_faulted_5 : decode cX5_faulted 5 = .ok (.bipush (-10), 2) := by decide +kernel
theorem dX5_faulted_7 : decode cX5_faulted 7 = .ok (.iload_n 1, 1) := by decide +kernel
theorem dX5_faulted_8 : decode cX5_faulted 8 = .ok (.isub, 1) := by decide +kernel
theorem dX5_faulted_9 : decode cX5_faulted 9 = .ok (.ireturn, 1) := by decide +kernel
theorem dX5_runsNow_0 : decode cX5_runsNow 0 = .ok (.aload_n 0, 1) := by decide +kernel
theorem dX5_runsNow_1 : decode cX5_runsNow 1 = .ok (.getfield 12, 3) := by decide +kernel
theorem dX5_runsNow_4 : decode cX5_runsNow 4 = .ok (.getfield 71, 3) := by decide +kernel
theorem dX5_runsNow_7 : decode cX5_runsNow 7 = .ok (.ifCond .ne 7, 3) := by decide +kernel
theorem dX5_runsNow_10 : decode cX5_runsNow 10 = .ok (.iconst 0, 1) := by decide +kernel
theorem dX5_runsNow_11 : decode cX5_runsNow 11 = .ok (.goto 10, 3) := by decide +kernel
theorem dX5_runsNow_14 : decode cX5_runsNow 14 = .ok (.aload_n 0, 1) := by decide +kernel
theorem dX5_runsNow_15 : decode cX5_runsNow 15 = .ok (.getfield 12, 3) := by decide +kernel
theorem dX5_runsNow_18 : decode cX5_runsNow 18 = .ok (.invokevirtual 167, 3) := by decide +kernel
theorem dX5_runsNow_21 : decode cX5_runsNow 21 = .ok (.ireturn, 1) := by decide +kernel
theorem dX5_areReadingsSo_0 : decode cX5_areReadingsSo 0 = .ok (.iconst 0, 1) := by decide +kernel
theorem dX5_areReadingsSo_1 : decode cX5_areReadingsSo 1 = .ok (.istore_n 1, 1) := by decide +kernel
theorem dX5_areReadingsSo_2 : decode cX5_areReadingsSo 2 = .ok (.iload_n 1, 1) := by decide +kernel
theorem dX5_areReadingsSo_3 : decode cX5_areReadingsSo 3 = .ok (.aload_n 0, 1) := by decide +kernel
theorem dX5_areReadingsSo_4 : decode cX5_areReadingsSo 4 = .ok (.getfield 68, 3) := by decide +kernel
theorem dX5_areReadingsSo_7 : decode cX5_areReadingsSo 7 = .ok (.if_icmp .ge 34, 3) := by decide +kernel
theorem dX5_areReadingsSo_10 : decode cX5_areReadingsSo 10 = .ok (.aload_n 0, 1) := by decide +kernel
theorem dX5_areReadingsSo_11 : decode cX5_areReadingsSo 11 = .ok (.getfield 12, 3) := by decide +kernel
theorem dX5_areReadingsSo_14 : decode cX5_areReadingsSo 14 = .ok (.aload_n 0, 1) := by decide +kernel
theorem dX5_areReadingsSo_15 : decode cX5_areReadingsSo 15 = .ok (.getfield 27, 3) := by decide +kernel
theorem dX5_areReadingsSo_18 : decode cX5_areReadingsSo 18 = .ok (.iload_n 1, 1) := by decide +kernel
theorem dX5_areReadingsSo_19 : decode cX5_areReadingsSo 19 = .ok (.iaload, 1) := by decide +kernel
theorem dX5_areReadingsSo_20 : decode cX5_areReadingsSo 20 = .ok (.iconst (-1), 1) := by decide +kernel
theorem dX5_areReadingsSo_21 : decode cX5_areReadingsSo 21 = .ok (.invokevirtual 242, 3) := by decide +kernel
theorem dX5_areReadingsSo_24 : decode cX5_areReadingsSo 24 = .ok (.aload_n 0, 1) := by decide +kernel
theorem dX5_areReadingsSo_25 : decode cX5_areReadingsSo 25 = .ok (.getfield 31, 3) := by decide +kernel
theorem dX5_areReadingsSo_28 : decode cX5_areReadingsSo 28 = .ok (.iload_n 1, 1) := by decide +kernel
theorem dX5_areReadingsSo_29 : decode cX5_areReadingsSo 29 = .ok (.iaload, 1) := by decide +kernel
theorem dX5_areReadingsSo_30 : decode cX5_areReadingsSo 30 = .ok (.if_icmp .eq 5, 3) := by decide +kernel
theorem dX5_areReadingsSo_33 : decode cX5_areReadingsSo 33 = .ok (.iconst 0, 1) := by decide +kernel
theorem dX5_areReadingsSo_34 : decode cX5_areReadingsSo 34 = .ok (.ireturn, 1) := by decide +kernel
theorem dX5_areReadingsSo_35 : decode cX5_areReadingsSo 35 = .ok (.iinc 1 1, 3) := by decide +kernel
theorem dX5_areReadingsSo_38 : decode cX5_areReadingsSo 38 = .ok (.goto (-36), 3) := by decide +kernel
theorem dX5_areReadingsSo_41 : decode cX5_areReadingsSo 41 = .ok (.iconst 1, 1) := by decide +kernel
theorem dX5_areReadingsSo_42 : decode cX5_areReadingsSo 42 = .ok (.ireturn, 1) := by decide +kernel
theorem dX5_greatestCommon_0 : decode cX5_greatestCommon 0 = .ok (.iload_n 0, 1) := by decide +kernel
theorem dX5_greatestCommon_1 : decode cX5_greatestCommon 1 = .ok (.istore_n 2, 1) := by decide +kernel
theorem dX5_greatestCommon_2 : decode cX5_greatestCommon 2 = .ok (.iload_n 1, 1) := by decide +kernel
theorem dX5_greatestCommon_3 : decode cX5_greatestCommon 3 = .ok (.istore_n 3, 1) := by decide +kernel
theorem dX5_greatestCommon_4 : decode cX5_greatestCommon 4 = .ok (.iconst 0, 1) := by decide +kernel
theorem dX5_greatestCommon_5 : decode cX5_greatestCommon 5 = .ok (.istore 4, 2) := by decide +kernel
theorem dX5_greatestCommon_7 : decode cX5_greatestCommon 7 = .ok (.iload 4, 2) := by decide +kernel
theorem dX5_greatestCommon_9 : decode cX5_greatestCommon 9 = .ok (.bipush 26, 2) := by decide +kernel
theorem dX5_greatestCommon_11 : decode cX5_greatestCommon 11 = .ok (.if_icmp .ge 23, 3) := by decide +kernel
theorem dX5_greatestCommon_14 : decode cX5_greatestCommon 14 = .ok (.iload_n 3, 1) := by decide +kernel
theorem dX5_greatestCommon_15 : decode cX5_greatestCommon 15 = .ok (.ifCond .eq 19, 3) := by decide +kernel
theorem dX5_greatestCommon_18 : decode cX5_greatestCommon 18 = .ok (.iload_n 2, 1) := by decide +kernel
theorem dX5_greatestCommon_19 : decode cX5_greatestCommon 19 = .ok (.iload_n 3, 1) := by decide +kernel
theorem dX5_greatestCommon_20 : decode cX5_greatestCommon 20 = .ok (.irem, 1) := by decide +kernel
theorem dX5_greatestCommon_21 : decode cX5_greatestCommon 21 = .ok (.istore 5, 2) := by decide +kernel
theorem dX5_greatestCommon_23 : decode cX5_greatestCommon 23 = .ok (.iload_n 3, 1) := by decide +kernel
theorem dX5_greatestCommon_24 : decode cX5_greatestCommon 24 = .ok (.istore_n 2, 1) := by decide +kernel
theorem dX5_greatestCommon_25 : decode cX5_greatestCommon 25 = .ok (.iload 5, 2) := by decide +kernel
theorem dX5_greatestCommon_27 : decode cX5_greatestCommon 27 = .ok (.istore_n 3, 1) := by decide +kernel
theorem dX5_greatestCommon_28 : decode cX5_greatestCommon 28 = .ok (.iinc 4 1, 3) := by decide +kernel
theorem dX5_greatestCommon_31 : decode cX5_greatestCommon 31 = .ok (.goto (-24), 3) := by decide +kernel
theorem dX5_greatestCommon_34 : decode cX5_greatestCommon 34 = .ok (.iload_n 2, 1) := by decide +kernel
theorem dX5_greatestCommon_35 : decode cX5_greatestCommon 35 = .ok (.iconst 1, 1) := by decide +kernel
theorem dX5_greatestCommon_36 : decode cX5_greatestCommon 36 = .ok (.invokestatic 245, 3) := by decide +kernel
theorem dX5_greatestCommon_39 : decode cX5_greatestCommon 39 = .ok (.ireturn, 1) := by decide +kernel
theorem dX5_areActs_0 : decode cX5_areActs 0 = .ok (.iconst 0, 1) := by decide +kernel
theorem dX5_areActs_1 : decode cX5_areActs 1 = .ok (.istore_n 3, 1) := by decide +kernel
theorem dX5_areActs_2 : decode cX5_areActs 2 = .ok (.iload_n 3, 1) := by decide +kernel
theorem dX5_areActs_3 : decode cX5_areActs 3 = .ok (.iload_n 2, 1) := by decide +kernel
theorem dX5_areActs_4 : decode cX5_areActs 4 = .ok (.if_icmp .ge 37, 3) := by decide +kernel
theorem dX5_areActs_7 : decode cX5_areActs 7 = .ok (.aload_n 0, 1) := by decide +kernel
theorem dX5_areActs_8 : decode cX5_areActs 8 = .ok (.iload_n 1, 1) := by decide +kernel
theorem dX5_areActs_9 : decode cX5_areActs 9 = .ok (.iconst 2, 1) := by decide +kernel
theorem dX5_areActs_10 : decode cX5_areActs 10 = .ok (.iload_n 3, 1) := by decide +kernel
theorem dX5_areActs_11 : decode cX5_areActs 11 = .ok (.imul, 1) := by decide +kernel
theorem dX5_areActs_12 : decode cX5_areActs 12 = .ok (.iadd, 1) := by decide +kernel
theorem dX5_areActs_13 : decode cX5_areActs 13 = .ok (.invokevirtual 208, 3) := by decide +kernel
theorem dX5_areActs_16 : decode cX5_areActs 16 = .ok (.aload_n 0, 1) := by decide +kernel
theorem dX5_areActs_17 : decode cX5_areActs 17 = .ok (.iload_n 1, 1) := by decide +kernel
theorem dX5_areActs_18 : decode cX5_areActs 18 = .ok (.iconst 2, 1) := by decide +kernel
theorem dX5_areActs_19 : decode cX5_areActs 19 = .ok (.iload_n 3, 1) := by decide +kernel
theorem dX5_areActs_20 : decode cX5_areActs 20 = .ok (.imul, 1) := by decide +kernel
theorem dX5_areActs_21 : decode cX5_areActs 21 = .ok (.iadd, 1) := by decide +kernel
theorem dX5_areActs_22 : decode cX5_areActs 22 = .ok (.iconst 1, 1) := by decide +kernel
theorem dX5_areActs_23 : decode cX5_areActs 23 = .ok (.iadd, 1) := by decide +kernel
theorem dX5_areActs_24 : decode cX5_areActs 24 = .ok (.invokevirtual 208, 3) := by decide +kernel
theorem dX5_areActs_27 : decode cX5_areActs 27 = .ok (.invokestatic 250, 3) := by decide +kernel
theorem dX5_areActs_30 : decode cX5_areActs 30 = .ok (.ifCond .ne 5, 3) := by decide +kernel
theorem dX5_areActs_33 : decode cX5_areActs 33 = .ok (.iconst 0, 1) := by decide +kernel
theorem dX5_areActs_34 : decode cX5_areActs 34 = .ok (.ireturn, 1) := by decide +kernel
theorem dX5_areActs_35 : decode cX5_areActs 35 = .ok (.iinc 3 1, 3) := by decide +kernel
theorem dX5_areActs_38 : decode cX5_areActs 38 = .ok (.goto (-36), 3) := by decide +kernel
theorem dX5_areActs_41 : decode cX5_areActs 41 = .ok (.iconst 1, 1) := by decide +kernel
theorem dX5_areActs_42 : decode cX5_areActs 42 = .ok (.ireturn, 1) := by decide +kernel
theorem dX5_isAct_0 : decode cX5_isAct 0 = .ok (.iload_n 1, 1) := by decide +kernel
theorem dX5_isAct_1 : decode cX5_isAct 1 = .ok (.iconst 0, 1) := by decide +kernel
theorem dX5_isAct_2 : decode cX5_isAct 2 = .ok (.bipush 6, 2) := by decide +kernel
theorem dX5_isAct_4 : decode cX5_isAct 4 = .ok (.invokestatic 43, 3) := by decide +kernel
theorem dX5_isAct_7 : decode cX5_isAct 7 = .ok (.ifCond .eq 11, 3) := by decide +kernel
theorem dX5_isAct_10 : decode cX5_isAct 10 = .ok (.iload_n 0, 1) := by decide +kernel
theorem dX5_isAct_11 : decode cX5_isAct 11 = .ok (.iconst 1, 1) := by decide +kernel
theorem dX5_isAct_12 : decode cX5_isAct 12 = .ok (.bipush 9, 2) := by decide +kernel
theorem dX5_isAct_14 : decode cX5_isAct 14 = .ok (.invokestatic 43, 3) := by decide +kernel
theorem dX5_isAct_17 : decode cX5_isAct 17 = .ok (.ireturn, 1) := by decide +kernel
theorem dX5_isAct_18 : decode cX5_isAct 18 = .ok (.iload_n 1, 1) := by decide +kernel
theorem dX5_isAct_19 : decode cX5_isAct 19 = .ok (.bipush 10, 2) := by decide +kernel
theorem dX5_isAct_21 : decode cX5_isAct 21 = .ok (.bipush 16, 2) := by decide +kernel
theorem dX5_isAct_23 : decode cX5_isAct 23 = .ok (.invokestatic 43, 3) := by decide +kernel
theorem dX5_isAct_26 : decode cX5_isAct 26 = .ok (.ifCond .eq 13, 3) := by decide +kernel
theorem dX5_isAct_29 : decode cX5_isAct 29 = .ok (.iload_n 0, 1) := by decide +kernel
theorem dX5_isAct_30 : decode cX5_isAct 30 = .ok (.ifCond .ne 7, 3) := by decide +kernel
theorem dX5_isAct_33 : decode cX5_isAct 33 = .ok (.iconst 1, 1) := by decide +kernel
theorem dX5_isAct_34 : decode cX5_isAct 34 = .ok (.goto 4, 3) := by decide +kernel
theorem dX5_isAct_37 : decode cX5_isAct 37 = .ok (.iconst 0, 1) := by decide +kernel
theorem dX5_isAct_38 : decode cX5_isAct 38 = .ok (.ireturn, 1) := by decide +kernel
theorem dX5_isAct_39 : decode cX5_isAct 39 = .ok (.iload_n 1, 1) := by decide +kernel
theorem dX5_isAct_40 : decode cX5_isAct 40 = .ok (.bipush 20, 2) := by decide +kernel
theorem dX5_isAct_42 : decode cX5_isAct 42 = .ok (.if_icmp .ne 16, 3) := by decide +kernel
theorem dX5_isAct_45 : decode cX5_isAct 45 = .ok (.iload_n 0, 1) := by decide +kernel
theorem dX5_isAct_46 : decode cX5_isAct 46 = .ok (.iconst 0, 1) := by decide +kernel
theorem dX5_isAct_47 : decode cX5_isAct 47 = .ok (.iconst 5, 1) := by decide +kernel
theorem dX5_isAct_48 : decode cX5_isAct 48 = .ok (.invokestatic 43, 3) := by decide +kernel
theorem dX5_isAct_51 : decode cX5_isAct 51 = .ok (.ifCond .eq 7, 3) := by decide +kernel
theorem dX5_isAct_54 : decode cX5_isAct 54 = .ok (.iconst 1, 1) := by decide +kernel
theorem dX5_isAct_55 : decode cX5_isAct 55 = .ok (.goto 4, 3) := by decide +kernel
theorem dX5_isAct_58 : decode cX5_isAct 58 = .ok (.iconst 0, 1) := by decide +kernel
theorem dX5_isAct_59 : decode cX5_isAct 59 = .ok (.ireturn, 1) := by decide +kernel
theorem dX5_playDay_0 : decode cX5_playDay 0 = .ok (.iconst 0, 1) := by decide +kernel
theorem dX5_playDay_1 : decode cX5_playDay 1 = .ok (.istore 4, 2) := by decide +kernel
theorem dX5_playDay_3 : decode cX5_playDay 3 = .ok (.iload 4, 2) := by decide +kernel
theorem dX5_playDay_5 : decode cX5_playDay 5 = .ok (.iload_n 3, 1) := by decide +kernel
theorem dX5_playDay_6 : decode cX5_playDay 6 = .ok (.if_icmp .ge 41, 3) := by decide +kernel
theorem dX5_playDay_9 : decode cX5_playDay 9 = .ok (.aload_n 0, 1) := by decide +kernel
theorem dX5_playDay_10 : decode cX5_playDay 10 = .ok (.aload_n 1, 1) := by decide +kernel
theorem dX5_playDay_11 : decode cX5_playDay 11 = .ok (.iload_n 2, 1) := by decide +kernel
theorem dX5_playDay_12 : decode cX5_playDay 12 = .ok (.iconst 2, 1) := by decide +kernel
theorem dX5_playDay_13 : decode cX5_playDay 13 = .ok (.iload 4, 2) := by decide +kernel
theorem dX5_playDay_15 : decode cX5_playDay 15 = .ok (.imul, 1) := by decide +kernel
theorem dX5_playDay_16 : decode cX5_playDay 16 = .ok (.iadd, 1) := by decide +kernel
theorem dX5_playDay_17 : decode cX5_playDay 17 = .ok (.invokevirtual 208, 3) := by decide +kernel
theorem dX5_playDay_20 : decode cX5_playDay 20 = .ok (.aload_n 1, 1) := by decide +kernel
theorem dX5_playDay_21 : decode cX5_playDay 21 = .ok (.iload_n 2, 1) := by decide +kernel
theorem dX5_playDay_22 : decode cX5_playDay 22 = .ok (.iconst 2, 1) := by decide +kernel
theorem dX5_playDay_23 : decode cX5_playDay 23 = .ok (.iload 4, 2) := by decide +kernel
theorem dX5_playDay_25 : decode cX5_playDay 25 = .ok (.imul, 1) := by decide +kernel
theorem dX5_playDay_26 : decode cX5_playDay 26 = .ok (.iadd, 1) := by decide +kernel
theorem dX5_playDay_27 : decode cX5_playDay 27 = .ok (.iconst 1, 1) := by decide +kernel
theorem dX5_playDay_28 : decode cX5_playDay 28 = .ok (.iadd, 1) := by decide +kernel
theorem dX5_playDay_29 : decode cX5_playDay 29 = .ok (.invokevirtual 208, 3) := by decide +kernel
theorem dX5_playDay_32 : decode cX5_playDay 32 = .ok (.invokevirtual 253, 3) := by decide +kernel
theorem dX5_playDay_35 : decode cX5_playDay 35 = .ok (.ifCond .ne 6, 3) := by decide +kernel
theorem dX5_playDay_38 : decode cX5_playDay 38 = .ok (.iload 4, 2) := by decide +kernel
theorem dX5_playDay_40 : decode cX5_playDay 40 = .ok (.ireturn, 1) := by decide +kernel
theorem dX5_playDay_41 : decode cX5_playDay 41 = .ok (.iinc 4 1, 3) := by decide +kernel
theorem dX5_playDay_44 : decode cX5_playDay 44 = .ok (.goto (-41), 3) := by decide +kernel
theorem dX5_playDay_47 : decode cX5_playDay 47 = .ok (.bipush (-9), 2) := by decide +kernel
theorem dX5_playDay_49 : decode cX5_playDay 49 = .ok (.ireturn, 1) := by decide +kernel
theorem dX5_playAct_0 : decode cX5_playAct 0 = .ok (.iload_n 2, 1) := by decide +kernel
theorem dX5_playAct_1 : decode cX5_playAct 1 = .ok (.bipush 20, 2) := by decide +kernel
theorem dX5_playAct_3 : decode cX5_playAct 3 = .ok (.if_icmp .ne 26, 3) := by decide +kernel
theorem dX5_playAct_6 : decode cX5_playAct 6 = .ok (.aload_n 0, 1) := by decide +kernel
theorem dX5_playAct_7 : decode cX5_playAct 7 = .ok (.getfield 18, 3) := by decide +kernel
theorem dX5_playAct_10 : decode cX5_playAct 10 = .ok (.iload_n 1, 1) := by decide +kernel
theorem dX5_playAct_11 : decode cX5_playAct 11 = .ok (.invokevirtual 116, 3) := by decide +kernel
theorem dX5_playAct_14 : decode cX5_playAct 14 = .ok (.ifCond .ne 5, 3) := by decide +kernel
theorem dX5_playAct_17 : decode cX5_playAct 17 = .ok (.iconst 0, 1) := by decide +kernel
theorem dX5_playAct_18 : decode cX5_playAct 18 = .ok (.ireturn, 1) := by decide +kernel
theorem dX5_playAct_19 : decode cX5_playAct 19 = .ok (.aload_n 0, 1) := by decide +kernel
theorem dX5_playAct_20 : decode cX5_playAct 20 = .ok (.getfield 18, 3) := by decide +kernel
theorem dX5_playAct_23 : decode cX5_playAct 23 = .ok (.iload_n 1, 1) := by decide +kernel
theorem dX5_playAct_24 : decode cX5_playAct 24 = .ok (.invokevirtual 119, 3) := by decide +kernel
theorem dX5_playAct_27 : decode cX5_playAct 27 = .ok (.iconst 1, 1) := by decide +kernel
theorem dX5_playAct_28 : decode cX5_playAct 28 = .ok (.ireturn, 1) := by decide +kernel
theorem dX5_playAct_29 : decode cX5_playAct 29 = .ok (.iload_n 2, 1) := by decide +kernel
theorem dX5_playAct_30 : decode cX5_playAct 30 = .ok (.bipush 10, 2) := by decide +kernel
theorem dX5_playAct_32 : decode cX5_playAct 32 = .ok (.if_icmp .lt 43, 3) := by decide +kernel
theorem dX5_playAct_35 : decode cX5_playAct 35 = .ok (.aload_n 0, 1) := by decide +kernel
theorem dX5_playAct_36 : decode cX5_playAct 36 = .ok (.getfield 18, 3) := by decide +kernel
theorem dX5_playAct_39 : decode cX5_playAct 39 = .ok (.iload_n 2, 1) := by decide +kernel
theorem dX5_playAct_40 : decode cX5_playAct 40 = .ok (.bipush 10, 2) := by decide +kernel
theorem dX5_playAct_42 : decode cX5_playAct 42 = .ok (.isub, 1) := by decide +kernel
theorem dX5_playAct_43 : decode cX5_playAct 43 = .ok (.invokevirtual 74, 3) := by decide +kernel
theorem dX5_playAct_46 : decode cX5_playAct 46 = .ok (.ifCond .eq 14, 3) := by decide +kernel
theorem dX5_playAct_49 : decode cX5_playAct 49 = .ok (.aload_n 0, 1) := by decide +kernel
theorem dX5_playAct_50 : decode cX5_playAct 50 = .ok (.getfield 18, 3) := by decide +kernel
theorem dX5_playAct_53 : decode cX5_playAct 53 = .ok (.getfield 71, 3) := by decide +kernel
theorem dX5_playAct_56 : decode cX5_playAct 56 = .ok (.iconst 1, 1) := by decide +kernel
theorem dX5_playAct_57 : decode cX5_playAct 57 = .ok (.if_icmp .ne 5, 3) := by decide +kernel
theorem dX5_playAct_60 : decode cX5_playAct 60 = .ok (.iconst 0, 1) := by decide +kernel
theorem dX5_playAct_61 : decode cX5_playAct 61 = .ok (.ireturn, 1) := by decide +kernel
theorem dX5_playAct_62 : decode cX5_playAct 62 = .ok (.aload_n 0, 1) := by decide +kernel
theorem dX5_playAct_63 : decode cX5_playAct 63 = .ok (.getfield 18, 3) := by decide +kernel
theorem dX5_playAct_66 : decode cX5_playAct 66 = .ok (.iload_n 2, 1) := by decide +kernel
theorem dX5_playAct_67 : decode cX5_playAct 67 = .ok (.bipush 10, 2) := by decide +kernel
theorem dX5_playAct_69 : decode cX5_playAct 69 = .ok (.isub, 1) := by decide +kernel
theorem dX5_playAct_70 : decode cX5_playAct 70 = .ok (.invokevirtual 113, 3) := by decide +kernel
theorem dX5_playAct_73 : decode cX5_playAct 73 = .ok (.iconst 1, 1) := by decide +kernel
theorem dX5_playAct_74 : decode cX5_playAct 74 = .ok (.ireturn, 1) := by decide +kernel
theorem dX5_playAct_75 : decode cX5_playAct 75 = .ok (.aload_n 0, 1) := by decide +kernel
theorem dX5_playAct_76 : decode cX5_playAct 76 = .ok (.getfield 18, 3) := by decide +kernel
theorem dX5_playAct_79 : decode cX5_playAct 79 = .ok (.iload_n 2, 1) := by decide +kernel
theorem dX5_playAct_80 : decode cX5_playAct 80 = .ok (.invokevirtual 74, 3) := by decide +kernel
theorem dX5_playAct_83 : decode cX5_playAct 83 = .ok (.ifCond .ne 5, 3) := by decide +kernel
theorem dX5_playAct_86 : decode cX5_playAct 86 = .ok (.iconst 0, 1) := by decide +kernel
theorem dX5_playAct_87 : decode cX5_playAct 87 = .ok (.ireturn, 1) := by decide +kernel
theorem dX5_playAct_88 : decode cX5_playAct 88 = .ok (.aload_n 0, 1) := by decide +kernel
theorem dX5_playAct_89 : decode cX5_playAct 89 = .ok (.getfield 18, 3) := by decide +kernel
theorem dX5_playAct_92 : decode cX5_playAct 92 = .ok (.getfield 77, 3) := by decide +kernel
theorem dX5_playAct_95 : decode cX5_playAct 95 = .ok (.iload_n 2, 1) := by decide +kernel
theorem dX5_playAct_96 : decode cX5_playAct 96 = .ok (.aaload, 1) := by decide +kernel
theorem dX5_playAct_97 : decode cX5_playAct 97 = .ok (.iload_n 1, 1) := by decide +kernel
theorem dX5_playAct_98 : decode cX5_playAct 98 = .ok (.putfield 89, 3) := by decide +kernel
theorem dX5_playAct_101 : decode cX5_playAct 101 = .ok (.iconst 1, 1) := by decide +kernel
theorem dX5_playAct_102 : decode cX5_playAct 102 = .ok (.ireturn, 1) := by decide +kernel
theorem dX5_ofDay_0 : decode cX5_ofDay 0 = .ok (.iload_n 1, 1) := by decide +kernel
theorem dX5_ofDay_1 : decode cX5_ofDay 1 = .ok (.tableswitch 67 0 4 #[35, 67, 43, 51, 59], 35) := by decide +kernel
theorem dX5_ofDay_36 : decode cX5_ofDay 36 = .ok (.aload_n 0, 1) := by decide +kernel
theorem dX5_ofDay_37 : decode cX5_ofDay 37 = .ok (.getfield 18, 3) := by decide +kernel
theorem dX5_ofDay_40 : decode cX5_ofDay 40 = .ok (.invokevirtual 176, 3) := by decide +kernel
theorem dX5_ofDay_43 : decode cX5_ofDay 43 = .ok (.ireturn, 1) := by decide +kernel
theorem dX5_ofDay_44 : decode cX5_ofDay 44 = .ok (.aload_n 0, 1) := by decide +kernel
theorem dX5_ofDay_45 : decode cX5_ofDay 45 = .ok (.getfield 18, 3) := by decide +kernel
theorem dX5_ofDay_48 : decode cX5_ofDay 48 = .ok (.invokevirtual 170, 3) := by decide +kernel
theorem dX5_ofDay_51 : decode cX5_ofDay 51 = .ok (.ireturn, 1) := by decide +kernel
theorem dX5_ofDay_52 : decode cX5_ofDay 52 = .ok (.aload_n 0, 1) := by decide +kernel
theorem dX5_ofDay_53 : decode cX5_ofDay 53 = .ok (.getfield 18, 3) := by decide +kernel
theorem dX5_ofDay_56 : decode cX5_ofDay 56 = .ok (.invokevirtual 167, 3) := by decide +kernel
theorem dX5_ofDay_59 : decode cX5_ofDay 59 = .ok (.ireturn, 1) := by decide +kernel
theorem dX5_ofDay_60 : decode cX5_ofDay 60 = .ok (.aload_n 0, 1) := by decide +kernel
theorem dX5_ofDay_61 : decode cX5_ofDay 61 = .ok (.getfield 18, 3) := by decide +kernel
theorem dX5_ofDay_64 : decode cX5_ofDay 64 = .ok (.invokevirtual 179, 3) := by decide +kernel
theorem dX5_ofDay_67 : decode cX5_ofDay 67 = .ok (.ireturn, 1) := by decide +kernel
theorem dX5_ofDay_68 : decode cX5_ofDay 68 = .ok (.aload_n 0, 1) := by decide +kernel
theorem dX5_ofDay_69 : decode cX5_ofDay 69 = .ok (.getfield 18, 3) := by decide +kernel
theorem dX5_ofDay_72 : decode cX5_ofDay 72 = .ok (.iload_n 1, 1) := by decide +kernel
theorem dX5_ofDay_73 : decode cX5_ofDay 73 = .ok (.bipush 10, 2) := by decide +kernel
theorem dX5_ofDay_75 : decode cX5_ofDay 75 = .ok (.isub, 1) := by decide +kernel
theorem dX5_ofDay_76 : decode cX5_ofDay 76 = .ok (.iconst (-1), 1) := by decide +kernel
theorem dX5_ofDay_77 : decode cX5_ofDay 77 = .ok (.invokevirtual 242, 3) := by decide +kernel
theorem dX5_ofDay_80 : decode cX5_ofDay 80 = .ok (.ireturn, 1) := by decide +kernel
theorem dX5_leave_0 : decode cX5_leave 0 = .ok (.aload_n 0, 1) := by decide +kernel
theorem dX5_leave_1 : decode cX5_leave 1 = .ok (.bipush 31, 2) := by decide +kernel
theorem dX5_leave_3 : decode cX5_leave 3 = .ok (.aload_n 0, 1) := by decide +kernel
theorem dX5_leave_4 : decode cX5_leave 4 = .ok (.getfield 239, 3) := by decide +kernel
theorem dX5_leave_7 : decode cX5_leave 7 = .ok (.imul, 1) := by decide +kernel
theorem dX5_leave_8 : decode cX5_leave 8 = .ok (.iload_n 1, 1) := by decide +kernel
theorem dX5_leave_9 : decode cX5_leave 9 = .ok (.iadd, 1) := by decide +kernel
theorem dX5_leave_10 : decode cX5_leave 10 = .ok (.putfield 239, 3) := by decide +kernel
theorem dX5_leave_13 : decode cX5_leave 13 = .ok (.return_, 1) := by decide +kernel
theorem dX5_plainBody_0 : decode cX5_plainBody 0 = .ok (.aload_n 0, 1) := by decide +kernel
theorem dX5_plainBody_1 : decode cX5_plainBody 1 = .ok (.iconst 1, 1) := by decide +kernel
theorem dX5_plainBody_2 : decode cX5_plainBody 2 = .ok (.invokevirtual 256, 3) := by decide +kernel
theorem dX5_plainBody_5 : decode cX5_plainBody 5 = .ok (.aload_n 1, 1) := by decide +kernel
theorem dX5_plainBody_6 : decode cX5_plainBody 6 = .ok (.getfield 89, 3) := by decide +kernel
theorem dX5_plainBody_9 : decode cX5_plainBody 9 = .ok (.ireturn, 1) := by decide +kernel
theorem dX5_bulkyBody_0 : decode cX5_bulkyBody 0 = .ok (.aload_n 0, 1) := by decide +kernel
theorem dX5_bulkyBody_1 : decode cX5_bulkyBody 1 = .ok (.iconst 2, 1) := by decide +kernel
theorem dX5_bulkyBody_2 : decode cX5_bulkyBody 2 = .ok (.invokevirtual 256, 3) := by decide +kernel
theorem dX5_bulkyBody_5 : decode cX5_bulkyBody 5 = .ok (.aload_n 0, 1) := by decide +kernel
theorem dX5_bulkyBody_6 : decode cX5_bulkyBody 6 = .ok (.aload_n 1, 1) := by decide +kernel
theorem dX5_bulkyBody_7 : decode cX5_bulkyBody 7 = .ok (.invokevirtual 230, 3) := by decide +kernel
theorem dX5_bulkyBody_10 : decode cX5_bulkyBody 10 = .ok (.bipush 100, 2) := by decide +kernel
theorem dX5_bulkyBody_12 : decode cX5_bulkyBody 12 = .ok (.iadd, 1) := by decide +kernel
theorem dX5_bulkyBody_13 : decode cX5_bulkyBody 13 = .ok (.ireturn, 1) := by decide +kernel
theorem dX5_doubleBody_0 : decode cX5_doubleBody 0 = .ok (.aload_n 0, 1) := by decide +kernel
theorem dX5_doubleBody_1 : decode cX5_doubleBody 1 = .ok (.iconst 3, 1) := by decide +kernel
theorem dX5_doubleBody_2 : decode cX5_doubleBody 2 = .ok (.invokevirtual 256, 3) := by decide +kernel
theorem dX5_doubleBody_5 : decode cX5_doubleBody 5 = .ok (.aload_n 0, 1) := by decide +kernel
theorem dX5_doubleBody_6 : decode cX5_doubleBody 6 = .ok (.aload_n 1, 1) := by decide +kernel
theorem dX5_doubleBody_7 : decode cX5_doubleBody 7 = .ok (.invokevirtual 223, 3) := by decide +kernel
theorem dX5_doubleBody_10 : decode cX5_doubleBody 10 = .ok (.istore_n 2, 1) := by decide +kernel
theorem dX5_doubleBody_11 : decode cX5_doubleBody 11 = .ok (.iload_n 2, 1) := by decide +kernel
theorem dX5_doubleBody_12 : decode cX5_doubleBody 12 = .ok (.aload_n 0, 1) := by decide +kernel
theorem dX5_doubleBody_13 : decode cX5_doubleBody 13 = .ok (.aload_n 1, 1) := by decide +kernel
theorem dX5_doubleBody_14 : decode cX5_doubleBody 14 = .ok (.invokevirtual 230, 3) := by decide +kernel
theorem dX5_doubleBody_17 : decode cX5_doubleBody 17 = .ok (.iadd, 1) := by decide +kernel
theorem dX5_doubleBody_18 : decode cX5_doubleBody 18 = .ok (.ireturn, 1) := by decide +kernel
theorem dX5_lentCiteBody_0 : decode cX5_lentCiteBody 0 = .ok (.aload_n 0, 1) := by decide +kernel
theorem dX5_lentCiteBody_1 : decode cX5_lentCiteBody 1 = .ok (.iconst 4, 1) := by decide +kernel
theorem dX5_lentCiteBody_2 : decode cX5_lentCiteBody 2 = .ok (.invokevirtual 256, 3) := by decide +kernel
theorem dX5_lentCiteBody_5 : decode cX5_lentCiteBody 5 = .ok (.aload_n 1, 1) := by decide +kernel
theorem dX5_lentCiteBody_6 : decode cX5_lentCiteBody 6 = .ok (.getfield 92, 3) := by decide +kernel
theorem dX5_lentCiteBody_9 : decode cX5_lentCiteBody 9 = .ok (.ireturn, 1) := by decide +kernel
theorem dX5_ownCiteBody_0 : decode cX5_ownCiteBody 0 = .ok (.aload_n 0, 1) := by decide +kernel
theorem dX5_ownCiteBody_1 : decode cX5_ownCiteBody 1 = .ok (.iconst 5, 1) := by decide +kernel
theorem dX5_ownCiteBody_2 : decode cX5_ownCiteBody 2 = .ok (.invokevirtual 256, 3) := by decide +kernel
theorem dX5_ownCiteBody_5 : decode cX5_ownCiteBody 5 = .ok (.bipush 60, 2) := by decide +kernel
theorem dX5_ownCiteBody_7 : decode cX5_ownCiteBody 7 = .ok (.ireturn, 1) := by decide +kernel
theorem dX6_init_0 : decode cX6_init 0 = .ok (.aload_n 0, 1) := by decide +kernel
theorem dX6_init_1 : decode cX6_init 1 = .ok (.invokespecial 1, 3) := by decide +kernel
theorem dX6_init_4 : decode cX6_init 4 = .ok (.aload_n 0, 1) := by decide +kernel
theorem dX6_init_5 : decode cX6_init 5 = .ok (.iconst 4, 1) := by decide +kernel
theorem dX6_init_6 : decode cX6_init 6 = .ok (.newarray .int, 2) := by decide +kernel
theorem dX6_init_8 : decode cX6_init 8 = .ok (.dup, 1) := by decide +kernel
theorem dX6_init_9 : decode cX6_init 9 = .ok (.iconst 0, 1) := by decide +kernel
theorem dX6_init_10 : decode cX6_init 10 = .ok (.bipush (-9), 2) := by decide +kernel
theorem dX6_init_12 : decode cX6_init 12 = .ok (.iastore, 1) := by decide +kernel
theorem dX6_init_13 : decode cX6_init 13 = .ok (.dup, 1) := by decide +kernel
theorem dX6_init_14 : decode cX6_init 14 = .ok (.iconst 1, 1) := by decide +kernel
theorem dX6_init_15 : decode cX6_init 15 = .ok (.bipush (-9), 2) := by decide +kernel
theorem dX6_init_17 : decode cX6_init 17 = .ok (.iastore, 1) := by decide +kernel
theorem dX6_init_18 : decode cX6_init 18 = .ok (.dup, 1) := by decide +kernel
theorem dX6_init_19 : decode cX6_init 19 = .ok (.iconst 2, 1) := by decide +kernel
theorem dX6_init_20 : decode cX6_init 20 = .ok (.bipush (-9), 2) := by decide +kernel
theorem dX6_init_22 : decode cX6_init 22 = .ok (.iastore, 1) := by decide +kernel
theorem dX6_init_23 : decode cX6_init 23 = .ok (.dup, 1) := by decide +kernel
theorem dX6_init_24 : decode cX6_init 24 = .ok (.iconst 3, 1) := by decide +kernel
theorem dX6_init_25 : decode cX6_init 25 = .ok (.bipush (-9), 2) := by decide +kernel
theorem dX6_init_27 : decode cX6_init 27 = .ok (.iastore, 1) := by decide +kernel
theorem dX6_init_28 : decode cX6_init 28 = .ok (.putfield 9, 3) := by decide +kernel
theorem dX6_init_31 : decode cX6_init 31 = .ok (.aload_n 0, 1) := by decide +kernel
theorem dX6_init_32 : decode cX6_init 32 = .ok (.iconst 4, 1) := by decide +kernel
theorem dX6_init_33 : decode cX6_init 33 = .ok (.newarray .int, 2) := by decide +kernel
theorem dX6_init_35 : decode cX6_init 35 = .ok (.putfield 13, 3) := by decide +kernel
theorem dX6_init_38 : decode cX6_init 38 = .ok (.aload_n 0, 1) := by decide +kernel
theorem dX6_init_39 : decode cX6_init 39 = .ok (.sipush 240, 3) := by decide +kernel
theorem dX6_init_42 : decode cX6_init 42 = .ok (.newarray .int, 2) := by decide +kernel
theorem dX6_init_44 : decode cX6_init 44 = .ok (.putfield 16, 3) := by decide +kernel
theorem dX6_init_47 : decode cX6_init 47 = .ok (.aload_n 0, 1) := by decide +kernel
theorem dX6_init_48 : decode cX6_init 48 = .ok (.bipush 35, 2) := by decide +kernel
theorem dX6_init_50 : decode cX6_init 50 = .ok (.newarray .int, 2) := by decide +kernel
theorem dX6_init_52 : decode cX6_init 52 = .ok (.putfield 19, 3) := by decide +kernel
theorem dX6_init_55 : decode cX6_init 55 = .ok (.aload_n 0, 1) := by decide +kernel
theorem dX6_init_56 : decode cX6_init 56 = .ok (.bipush 35, 2) := by decide +kernel
theorem dX6_init_58 : decode cX6_init 58 = .ok (.newarray .int, 2) := by decide +kernel
theorem dX6_init_60 : decode cX6_init 60 = .ok (.putfield 22, 3) := by decide +kernel
theorem dX6_init_63 : decode cX6_init 63 = .ok (.aload_n 0, 1) := by decide +kernel
theorem dX6_init_64 : decode cX6_init 64 = .ok (.bipush 8, 2) := by decide +kernel
theorem dX6_init_66 : decode cX6_init 66 = .ok (.newarray .int, 2) := by decide +kernel
theorem dX6_init_68 : decode cX6_init 68 = .ok (.putfield 25, 3) := by decide +kernel
theorem dX6_init_71 : decode cX6_init 71 = .ok (.aload_n 0, 1) := by decide +kernel
theorem dX6_init_72 : decode cX6_init 72 = .ok (.bipush 35, 2) := by decide +kernel
theorem dX6_init_74 : decode cX6_init 74 = .ok (.newarray .int, 2) := by decide +kernel
theorem dX6_init_76 : decode cX6_init 76 = .ok (.putfield 28, 3) := by decide +kernel
theorem dX6_init_79 : decode cX6_init 79 = .ok (.aload_n 0, 1) := by decide +kernel
theorem dX6_init_80 : decode cX6_init 80 = .ok (.bipush 8, 2) := by decide +kernel
theorem dX6_init_82 : decode cX6_init 82 = .ok (.newarray .int, 2) := by decide +kernel
theorem dX6_init_84 : decode cX6_init 84 = .ok (.putfield 31, 3) := by decide +kernel
theorem dX6_init_87 : decode cX6_init 87 = .ok (.aload_n 0, 1) := by decide +kernel
theorem dX6_init_88 : decode cX6_init 88 = .ok (.bipush 8, 2) := by decide +kernel
theorem dX6_init_90 : decode cX6_init 90 = .ok (.newarray .int, 2) := by decide +kernel
theorem dX6_init_92 : decode cX6_init 92 = .ok (.putfield 34, 3) := by decide +kernel
theorem dX6_init_95 : decode cX6_init 95 = .ok (.return_, 1) := by decide +kernel
theorem dX6_fails_0 : decode cX6_fails 0 = .ok (.aload_n 0, 1) := by decide +kernel
theorem dX6_fails_1 : decode cX6_fails 1 = .ok (.iload_n 1, 1) := by decide +kernel
theorem dX6_fails_2 : decode cX6_fails 2 = .ok (.putfield 37, 3) := by decide +kernel
theorem dX6_fails_5 : decode cX6_fails 5 = .ok (.bipush (-10), 2) := by decide +kernel
theorem dX6_fails_7 : decode cX6_fails 7 = .ok (.iload_n 1, 1) := by decide +kernel
theorem dX6_fails_8 : decode cX6_fails 8 = .ok (.isub, 1) := by decide +kernel
theorem dX6_fails_9 : decode cX6_fails 9 = .ok (.ireturn, 1) := by decide +kernel
theorem dX6_lost_0 : decode cX6_lost 0 = .ok (.aload_n 0, 1) := by decide +kernel
theorem dX6_lost_1 : decode cX6_lost 1 = .ok (.iload_n 1, 1) := by decide +kernel
theorem dX6_lost_2 : decode cX6_lost 2 = .ok (.putfield 37, 3) := by decide +kernel
theorem dX6_lost_5 : decode cX6_lost 5 = .ok (.ldc2_w 41, 3) := by decide +kernel
theorem dX6_lost_8 : decode cX6_lost 8 = .ok (.lreturn, 1) := by decide +kernel
theorem dX6_within_0 : decode cX6_within 0 = .ok (.iload_n 0, 1) := by decide +kernel
theorem dX6_within_1 : decode cX6_within 1 = .ok (.iload_n 1, 1) := by decide +kernel
theorem dX6_within_2 : decode cX6_within 2 = .ok (.if_icmp .lt 12, 3) := by decide +kernel
theorem dX6_within_5 : decode cX6_within 5 = .ok (.iload_n 0, 1) := by decide +kernel
theorem dX6_within_6 : decode cX6_within 6 = .ok (.iload_n 2, 1) := by decide +kernel
theorem dX6_within_7 : decode cX6_within 7 = .ok (.if_icmp .gt 7, 3) := by decide +kernel
theorem dX6_within_10 : decode cX6_within 10 = .ok (.iconst 1, 1) := by decide +kernel
theorem dX6_within_11 : decode cX6_within 11 = .ok (.goto 4, 3) := by decide +kernel
theorem dX6_within_14 : decode cX6_within 14 = .ok (.iconst 0, 1) := by decide +kernel
theorem dX6_within_15 : decode cX6_within 15 = .ok (.ireturn, 1) := by decide +kernel
theorem dX6_isSheet_0 : decode cX6_isSheet 0 = .ok (.iload_n 0, 1) := by decide +kernel
theorem dX6_isSheet_1 : decode cX6_isSheet 1 = .ok (.iconst 0, 1) := by decide +kernel
theorem dX6_isSheet_2 : decode cX6_isSheet 2 = .ok (.iconst 3, 1) := by decide +kernel
theorem dX6_isSheet_3 : decode cX6_isSheet 3 = .ok (.invokestatic 43, 3) := by decide +kernel
theorem dX6_isSheet_6 : decode cX6_isSheet 6 = .ok (.ireturn, 1) := by decide +kernel
theorem dX6_isSort_0 : decode cX6_isSort 0 = .ok (.iload_n 0, 1) := by decide +kernel
theorem dX6_isSort_1 : decode cX6_isSort 1 = .ok (.iconst 0, 1) := by decide +kernel
theorem dX6_isSort_2 : decode cX6_isSort 2 = .ok (.iconst 2, 1) := by decide +kernel
theorem dX6_isSort_3 : decode cX6_isSort 3 = .ok (.invokestatic 43, 3) := by decide +kernel
theorem dX6_isSort_6 : decode cX6_isSort 6 = .ok (.ireturn, 1) := by decide +kernel
theorem dX6_against_0 : decode cX6_against 0 = .ok (.aload_n 0, 1) := by decide +kernel
theorem dX6_against_1 : decode cX6_against 1 = .ok (.getfield 9, 3) := by decide +kernel
theorem dX6_against_4 : decode cX6_against 4 = .ok (.iload_n 1, 1) := by decide +kernel
theorem dX6_against_5 : decode cX6_against 5 = .ok (.iaload, 1) := by decide +kernel
theorem dX6_against_6 : decode cX6_against 6 = .ok (.bipush (-9), 2) := by decide +kernel
theorem dX6_against_8 : decode cX6_against 8 = .ok (.if_icmp .eq 15, 3) := by decide +kernel
theorem dX6_against_11 : decode cX6_against 11 = .ok (.aload_n 0, 1) := by decide +kernel
theorem dX6_against_12 : decode cX6_against 12 = .ok (.getfield 9, 3) := by decide +kernel
theorem dX6_against_15 : decode cX6_against 15 = .ok (.iload_n 1, 1) := by decide +kernel
theorem dX6_against_16 : decode cX6_against 16 = .ok (.iaload, 1) := by decide +kernel
theorem dX6_against_17 : decode cX6_against 17 = .ok (.iload_n 2, 1) := by decide +kernel
theorem dX6_against_18 : decode cX6_against 18 = .ok (.if_icmp .eq 5, 3) := by decide +kernel
theorem dX6_against_21 : decode cX6_against 21 = .ok (.iconst 2, 1) := by decide +kernel
theorem dX6_against_22 : decode cX6_against 22 = .ok (.ireturn, 1) := by decide +kernel
theorem dX6_against_23 : decode cX6_against 23 = .ok (.aload_n 0, 1) := by decide +kernel
theorem dX6_against_24 : decode cX6_against 24 = .ok (.getfield 9, 3) := by decide +kernel
theorem dX6_against_27 : decode cX6_against 27 = .ok (.iload_n 1, 1) := by decide +kernel
theorem dX6_against_28 : decode cX6_against 28 = .ok (.iaload, 1) := by decide +kernel
theorem dX6_against_29 : decode cX6_against 29 = .ok (.bipush (-9), 2) := by decide +kernel
theorem dX6_against_31 : decode cX6_against 31 = .ok (.if_icmp .ne 5, 3) := by decide +kernel
theorem dX6_against_34 : decode cX6_against 34 = .ok (.iconst 1, 1) := by decide +kernel
theorem dX6_against_35 : decode cX6_against 35 = .ok (.ireturn, 1) := by decide +kernel
theorem dX6_against_36 : decode cX6_against 36 = .ok (.iload 4, 2) := by decide +kernel
theorem dX6_against_38 : decode cX6_against 38 = .ok (.ifCond .ge 5, 3) := by decide +kernel
theorem dX6_against_41 : decode cX6_against 41 = .ok (.iconst 4, 1) := by decide +kernel
theorem dX6_against_42 : decode cX6_against 42 = .ok (.ireturn, 1) := by decide +kernel
theorem dX6_against_43 : decode cX6_against 43 = .ok (.iload_n 3, 1) := by decide +kernel
theorem dX6_against_44 : decode cX6_against 44 = .ok (.ifCond .lt 26, 3) := by decide +kernel
theorem dX6_against_47 : decode cX6_against 47 = .ok (.iload_n 3, 1) := by decide +kernel
theorem dX6_against_48 : decode cX6_against 48 = .ok (.aload_n 0, 1) := by decide +kernel
theorem dX6_against_49 : decode cX6_against 49 = .ok (.getfield 13, 3) := by decide +kernel
theorem dX6_against_52 : decode cX6_against 52 = .ok (.iload_n 1, 1) := by decide +kernel
theorem dX6_against_53 : decode cX6_against 53 = .ok (.iaload, 1) := by decide +kernel
theorem dX6_against_54 : decode cX6_against 54 = .ok (.if_icmp .gt 16, 3) := by decide +kernel
theorem dX6_against_57 : decode cX6_against 57 = .ok (.iload 4, 2) := by decide +kernel
theorem dX6_against_59 : decode cX6_against 59 = .ok (.aload_n 0, 1) := by decide +kernel
theorem dX6_against_60 : decode cX6_against 60 = .ok (.getfield 13, 3) := by decide +kernel
theorem dX6_against_63 : decode cX6_against 63 = .ok (.iload_n 1, 1) := by decide +kernel
theorem dX6_against_64 : decode cX6_against 64 = .ok (.iaload, 1) := by decide +kernel
theorem dX6_against_65 : decode cX6_against 65 = .ok (.iload_n 3, 1) := by decide +kernel
theorem dX6_against_66 : decode cX6_against 66 = .ok (.isub, 1) := by decide +kernel
theorem dX6_against_67 : decode cX6_against 67 = .ok (.if_icmp .le 7, 3) := by decide +kernel
theorem dX6_against_70 : decode cX6_against 70 = .ok (.iconst 3, 1) := by decide +kernel
theorem dX6_against_71 : decode cX6_against 71 = .ok (.goto 4, 3) := by decide +kernel
theorem dX6_against_74 : decode cX6_against 74 = .ok (.iconst 0, 1) := by decide +kernel
theorem dX6_against_75 : decode cX6_against 75 = .ok (.ireturn, 1) := by decide +kernel
theorem dX6_isRule_0 : decode cX6_isRule 0 = .ok (.iload_n 1, 1) := by decide +kernel
theorem dX6_isRule_1 : decode cX6_isRule 1 = .ok (.ifCond .lt 15, 3) := by decide +kernel
theorem dX6_isRule_4 : decode cX6_isRule 4 = .ok (.iload_n 1, 1) := by decide +kernel
theorem dX6_isRule_5 : decode cX6_isRule 5 = .ok (.aload_n 0, 1) := by decide +kernel
theorem dX6_isRule_6 : decode cX6_isRule 6 = .ok (.getfield 47, 3) := by decide +kernel
theorem dX6_isRule_9 : decode cX6_isRule 9 = .ok (.if_icmp .ge 7, 3) := by decide +kernel
theorem dX6_isRule_12 : decode cX6_isRule 12 = .ok (.iconst 1, 1) := by decide +kernel
theorem dX6_isRule_13 : decode cX6_isRule 13 = .ok (.goto 4, 3) := by decide +kernel
theorem dX6_isRule_16 : decode cX6_isRule 16 = .ok (.iconst 0, 1) := by decide +kernel
theorem dX6_isRule_17 : decode cX6_isRule 17 = .ok (.ireturn, 1) := by decide +kernel
theorem dX6_isPoint_0 : decode cX6_isPoint 0 = .ok (.iload_n 0, 1) := by decide +kernel
theorem dX6_isPoint_1 : decode cX6_isPoint 1 = .ok (.iconst 0, 1) := by decide +kernel
theorem dX6_isPoint_2 : decode cX6_isPoint 2 = .ok (.bipush 25, 2) := by decide +kernel
theorem dX6_isPoint_4 : decode cX6_isPoint 4 = .ok (.invokestatic 43, 3) := by decide +kernel
theorem dX6_isPoint_7 : decode cX6_isPoint 7 = .ok (.ireturn, 1) := by decide +kernel
theorem dX6_kindOf_0 : decode cX6_kindOf 0 = .ok (.aload_n 0, 1) := by decide +kernel
theorem dX6_kindOf_1 : decode cX6_kindOf 1 = .ok (.getfield 19, 3) := by decide +kernel
theorem dX6_kindOf_4 : decode cX6_kindOf 4 = .ok (.iconst 5, 1) := by decide +kernel
theorem dX6_kindOf_5 : decode cX6_kindOf 5 = .ok (.iload_n 1, 1) := by decide +kernel
theorem dX6_kindOf_6 : decode cX6_kindOf 6 = .ok (.imul, 1) := by decide +kernel
theorem dX6_kindOf_7 : decode cX6_kindOf 7 = .ok (.iaload, 1) := by decide +kernel
theorem dX6_kindOf_8 : decode cX6_kindOf 8 = .ok (.ireturn, 1) := by decide +kernel
theorem dX6_deedOf_0 : decode cX6_deedOf 0 = .ok (.aload_n 0, 1) := by decide +kernel
theorem dX6_deedOf_1 : decode cX6_deedOf 1 = .ok (.getfield 19, 3) := by decide +kernel
theorem dX6_deedOf_4 : decode cX6_deedOf 4 = .ok (.iconst 5, 1) := by decide +kernel
theorem dX6_deedOf_5 : decode cX6_deedOf 5 = .ok (.iload_n 1, 1) := by decide +kernel
theorem dX6_deedOf_6 : decode cX6_deedOf 6 = .ok (.imul, 1) := by decide +kernel
theorem dX6_deedOf_7 : decode cX6_deedOf 7 = .ok (.iconst 1, 1) := by decide +kernel
theorem dX6_deedOf_8 : decode cX6_deedOf 8 = .ok (.iadd, 1) := by decide +kernel
theorem dX6_deedOf_9 : decode cX6_deedOf 9 = .ok (.iaload, 1) := by decide +kernel
theorem dX6_deedOf_10 : decode cX6_deedOf 10 = .ok (.ireturn, 1) := by decide +kernel
theorem dX6_numberOf_0 : decode cX6_numberOf 0 = .ok (.aload_n 0, 1) := by decide +kernel
theorem dX6_numberOf_1 : decode cX6_numberOf 1 = .ok (.getfield 19, 3) := by decide +kernel
theorem dX6_numberOf_4 : decode cX6_numberOf 4 = .ok (.iconst 5, 1) := by decide +kernel
theorem dX6_numberOf_5 : decode cX6_numberOf 5 = .ok (.iload_n 1, 1) := by decide +kernel
theorem dX6_numberOf_6 : decode cX6_numberOf 6 = .ok (.imul, 1) := by decide +kernel
theorem dX6_numberOf_7 : decode cX6_numberOf 7 = .ok (.iconst 2, 1) := by decide +kernel
theorem dX6_numberOf_8 : decode cX6_numberOf 8 = .ok (.iadd, 1) := by decide +kernel
theorem dX6_numberOf_9 : decode cX6_numberOf 9 = .ok (.iaload, 1) := by decide +kernel
theorem dX6_numberOf_10 : decode cX6_numberOf 10 = .ok (.ireturn, 1) := by decide +kernel
theorem dX6_hasPoint_0 : decode cX6_hasPoint 0 = .ok (.iload_n 2, 1) := by decide +kernel
theorem dX6_hasPoint_1 : decode cX6_hasPoint 1 = .ok (.aload_n 0, 1) := by decide +kernel
theorem dX6_hasPoint_2 : decode cX6_hasPoint 2 = .ok (.getfield 19, 3) := by decide +kernel
theorem dX6_hasPoint_5 : decode cX6_hasPoint 5 = .ok (.iconst 5, 1) := by decide +kernel
theorem dX6_hasPoint_6 : decode cX6_hasPoint 6 = .ok (.iload_n 1, 1) := by decide +kernel
theorem dX6_hasPoint_7 : decode cX6_hasPoint 7 = .ok (.imul, 1) := by decide +kernel
theorem dX6_hasPoint_8 : decode cX6_hasPoint 8 = .ok (.iconst 3, 1) := by decide +kernel
theorem dX6_hasPoint_9 : decode cX6_hasPoint 9 = .ok (.iadd, 1) := by decide +kernel
theorem dX6_hasPoint_10 : decode cX6_hasPoint 10 = .ok (.iaload, 1) := by decide +kernel
theorem dX6_hasPoint_11 : decode cX6_hasPoint 11 = .ok (.if_icmp .lt 21, 3) := by decide +kernel
theorem dX6_hasPoint_14 : decode cX6_hasPoint 14 = .ok (.iload_n 2, 1) := by decide +kernel
theorem dX6_hasPoint_15 : decode cX6_hasPoint 15 = .ok (.aload_n 0, 1) := by decide +kernel
theorem dX6_hasPoint_16 : decode cX6_hasPoint 16 = .ok (.getfield 19, 3) := by decide +kernel
theorem dX6_hasPoint_19 : decode cX6_hasPoint 19 = .ok (.iconst 5, 1) := by decide +kernel
theorem dX6_hasPoint_20 : decode cX6_hasPoint 20 = .ok (.iload_n 1, 1) := by decide +kernel
theorem dX6_hasPoint_21 : decode cX6_hasPoint 21 = .ok (.imul, 1) := by decide +kernel
theorem dX6_hasPoint_22 : decode cX6_hasPoint 22 = .ok (.iconst 4, 1) := by decide +kernel
theorem dX6_hasPoint_23 : decode cX6_hasPoint 23 = .ok (.iadd, 1) := by decide +kernel
theorem dX6_hasPoint_24 : decode cX6_hasPoint 24 = .ok (.iaload, 1) := by decide +kernel
theorem dX6_hasPoint_25 : decode cX6_hasPoint 25 = .ok (.if_icmp .gt 7, 3) := by decide +kernel
theorem dX6_hasPoint_28 : decode cX6_hasPoint 28 = .ok (.iconst 1, 1) := by decide +kernel
theorem dX6_hasPoint_29 : decode cX6_hasPoint 29 = .ok (.goto 4, 3) := by decide +kernel
theorem dX6_hasPoint_32 : decode cX6_hasPoint 32 = .ok (.iconst 0, 1) := by decide +kernel
theorem dX6_hasPoint_33 : decode cX6_hasPoint 33 = .ok (.ireturn, 1) := by decide +kernel
theorem dX6_worthOf_0 : decode cX6_worthOf 0 = .ok (.aload_n 0, 1) := by decide +kernel
theorem dX6_worthOf_1 : decode cX6_worthOf 1 = .ok (.iload_n 1, 1) := by decide +kernel
theorem dX6_worthOf_2 : decode cX6_worthOf 2 = .ok (.invokevirtual 50, 3) := by decide +kernel
theorem dX6_worthOf_5 : decode cX6_worthOf 5 = .ok (.ifCond .ne 11, 3) := by decide +kernel
theorem dX6_worthOf_8 : decode cX6_worthOf 8 = .ok (.aload_n 0, 1) := by decide +kernel
theorem dX6_worthOf_9 : decode cX6_worthOf 9 = .ok (.iload_n 1, 1) := by decide +kernel
theorem dX6_worthOf_10 : decode cX6_worthOf 10 = .ok (.invokevirtual 54, 3) := by decide +kernel
theorem dX6_worthOf_13 : decode cX6_worthOf 13 = .ok (.goto 29, 3) := by decide +kernel
theorem dX6_worthOf_16 : decode cX6_worthOf 16 = .ok (.aload_n 0, 1) := by decide +kernel
theorem dX6_worthOf_17 : decode cX6_worthOf 17 = .ok (.iload_n 1, 1) := by decide +kernel
theorem dX6_worthOf_18 : decode cX6_worthOf 18 = .ok (.invokevirtual 50, 3) := by decide +kernel
theorem dX6_worthOf_21 : decode cX6_worthOf 21 = .ok (.iconst 1, 1) := by decide +kernel
theorem dX6_worthOf_22 : decode cX6_worthOf 22 = .ok (.if_icmp .ne 13, 3) := by decide +kernel
theorem dX6_worthOf_25 : decode cX6_worthOf 25 = .ok (.aload_n 0, 1) := by decide +kernel
theorem dX6_worthOf_26 : decode cX6_worthOf 26 = .ok (.iload_n 1, 1) := by decide +kernel
theorem dX6_worthOf_27 : decode cX6_worthOf 27 = .ok (.invokevirtual 54, 3) := by decide +kernel
theorem dX6_worthOf_30 : decode cX6_worthOf 30 = .ok (.iconst 1, 1) := by decide +kernel
theorem dX6_worthOf_31 : decode cX6_worthOf 31 = .ok (.iadd, 1) := by decide +kernel
theorem dX6_worthOf_32 : decode cX6_worthOf 32 = .ok (.goto 10, 3) := by decide +kernel
theorem dX6_worthOf_35 : decode cX6_worthOf 35 = .ok (.iconst 2, 1) := by decide +kernel
theorem dX6_worthOf_36 : decode cX6_worthOf 36 = .ok (.aload_n 0, 1) := by decide +kernel
theorem dX6_worthOf_37 : decode cX6_worthOf 37 = .ok (.iload_n 1, 1) := by decide +kernel
theorem dX6_worthOf_38 : decode cX6_worthOf 38 = .ok (.invokevirtual 54, 3) := by decide +kernel
theorem dX6_worthOf_41 : decode cX6_worthOf 41 = .ok (.imul, 1) := by decide +kernel
theorem dX6_worthOf_42 : decode cX6_worthOf 42 = .ok (.ireturn, 1) := by decide +kernel
theorem dX6_rules_0 : decode cX6_rules 0 = .ok (.aload_n 0, 1) := by decide +kernel
theorem dX6_rules_1 : decode cX6_rules 1 = .ok (.iconst 0, 1) := by decide +kernel
theorem dX6_rules_2 : decode cX6_rules 2 = .ok (.putfield 37, 3) := by decide +kernel
theorem dX6_rules_5 : decode cX6_rules 5 = .ok (.iload_n 1, 1) := by decide +kernel
theorem dX6_rules_6 : decode cX6_rules 6 = .ok (.invokestatic 57, 3) := by decide +kernel
theorem dX6_rules_9 : decode cX6_rules 9 = .ok (.ifCond .ne 5, 3) := by decide +kernel
theorem dX6_rules_12 : decode cX6_rules 12 = .ok (.iconst (-1), 1) := by decide +kernel
theorem dX6_rules_13 : decode cX6_rules 13 = .ok (.ireturn, 1) := by decide +kernel
theorem dX6_rules_14 : decode cX6_rules 14 = .ok (.iload_n 2, 1) := by decide +kernel
theorem dX6_rules_15 : decode cX6_rules 15 = .ok (.invokestatic 61, 3) := by decide +kernel
theorem dX6_rules_18 : decode cX6_rules 18 = .ok (.ifCond .ne 6, 3) := by decide +kernel
theorem dX6_rules_21 : decode cX6_rules 21 = .ok (.bipush (-2), 2) := by decide +kernel
theorem dX6_rules_23 : decode cX6_rules 23 = .ok (.ireturn, 1) := by decide +kernel
theorem dX6_rules_24 : decode cX6_rules 24 = .ok (.aload_n 0, 1) := by decide +kernel
theorem dX6_rules_25 : decode cX6_rules 25 = .ok (.iload_n 1, 1) := by decide +kernel
theorem dX6_rules_26 : decode cX6_rules 26 = .ok (.iload_n 2, 1) := by decide +kernel
theorem dX6_rules_27 : decode cX6_rules 27 = .ok (.iload_n 3, 1) := by decide +kernel
theorem dX6_rules_28 : decode cX6_rules 28 = .ok (.iload 4, 2) := by decide +kernel
theorem dX6_rules_30 : decode cX6_rules 30 = .ok (.invokevirtual 64, 3) := by decide +kernel
theorem dX6_rules_33 : decode cX6_rules 33 = .ok (.istore 5, 2) := by decide +kernel
theorem dX6_rules_35 : decode cX6_rules 35 = .ok (.iload 5, 2) := by decide +kernel
theorem dX6_rules_37 : decode cX6_rules 37 = .ok (.ifCond .eq 10, 3) := by decide +kernel
theorem dX6_rules_40 : decode cX6_rules 40 = .ok (.aload_n 0, 1) := by decide +kernel
theorem dX6_rules_41 : decode cX6_rules 41 = .ok (.iload 5, 2) := by decide +kernel
theorem dX6_rules_43 : decode cX6_rules 43 = .ok (.invokevirtual 68, 3) := by decide +kernel
theorem dX6_rules_46 : decode cX6_rules 46 = .ok (.ireturn, 1) := by decide +kernel
theorem dX6_rules_47 : decode cX6_rules 47 = .ok (.bipush 60, 2) := by decide +kernel
theorem dX6_rules_49 : decode cX6_rules 49 = .ok (.iload_n 1, 1) := by decide +kernel
theorem dX6_rules_50 : decode cX6_rules 50 = .ok (.imul, 1) := by decide +kernel
theorem dX6_rules_51 : decode cX6_rules 51 = .ok (.iload_n 3, 1) := by decide +kernel
theorem dX6_rules_52 : decode cX6_rules 52 = .ok (.iadd, 1) := by decide +kernel
theorem dX6_rules_53 : decode cX6_rules 53 = .ok (.istore 6, 2) := by decide +kernel
theorem dX6_rules_55 : decode cX6_rules 55 = .ok (.aload_n 0, 1) := by decide +kernel
theorem dX6_rules_56 : decode cX6_rules 56 = .ok (.iload 6, 2) := by decide +kernel
theorem dX6_rules_58 : decode cX6_rules 58 = .ok (.putfield 71, 3) := by decide +kernel
theorem dX6_rules_61 : decode cX6_rules 61 = .ok (.aload_n 0, 1) := by decide +kernel
theorem dX6_rules_62 : decode cX6_rules 62 = .ok (.iload 6, 2) := by decide +kernel
theorem dX6_rules_64 : decode cX6_rules 64 = .ok (.iload 4, 2) := by decide +kernel
theorem dX6_rules_66 : decode cX6_rules 66 = .ok (.iadd, 1) := by decide +kernel
theorem dX6_rules_67 : decode cX6_rules 67 = .ok (.invokevirtual 74, 3) := by decide +kernel
theorem dX6_rules_70 : decode cX6_rules 70 = .ok (.ifCond .ne 14, 3) := by decide +kernel
theorem dX6_rules_73 : decode cX6_rules 73 = .ok (.bipush (-100), 2) := by decide +kernel
theorem dX6_rules_75 : decode cX6_rules 75 = .ok (.aload_n 0, 1) := by decide +kernel
theorem dX6_rules_76 : decode cX6_rules 76 = .ok (.getfield 71, 3) := by decide +kernel
theorem dX6_rules_79 : decode cX6_rules 79 = .ok (.iload 6, 2) := by decide +kernel
theorem dX6_rules_81 : decode cX6_rules 81 = .ok (.isub, 1) := by decide +kernel
theorem dX6_rules_82 : decode cX6_rules 82 = .ok (.isub, 1) := by decide +kernel
theorem dX6_rules_83 : decode cX6_rules 83 = .ok (.ireturn, 1) := by decide +kernel
theorem dX6_rules_84 : decode cX6_rules 84 = .ok (.aload_n 0, 1) := by decide +kernel
theorem dX6_rules_85 : decode cX6_rules 85 = .ok (.aload_n 0, 1) := by decide +kernel
theorem dX6_rules_86 : decode cX6_rules 86 = .ok (.getfield 77, 3) := by decide +kernel
theorem dX6_rules_89 : decode cX6_rules 89 = .ok (.putfield 47, 3) := by decide +kernel
theorem dX6_rules_92 : decode cX6_rules 92 = .ok (.iconst 0, 1) := by decide +kernel
theorem dX6_rules_93 : decode cX6_rules 93 = .ok (.istore 7, 2) := by decide +kernel
theorem dX6_rules_95 : decode cX6_rules 95 = .ok (.iload 7, 2) := by decide +kernel
theorem dX6_rules_97 : decode cX6_rules 97 = .ok (.bipush 35, 2) := by decide +kernel
theorem dX6_rules_99 : decode cX6_rules 99 = .ok (.if_icmp .ge 23, 3) := by decide +kernel
theorem dX6_rules_102 : decode cX6_rules 102 = .ok (.aload_n 0, 1) := by decide +kernel
theorem dX6_rules_103 : decode cX6_rules 103 = .ok (.getfield 19, 3) := by decide +kernel
theorem dX6_rules_106 : decode cX6_rules 106 = .ok (.iload 7, 2) := by decide +kernel
theorem dX6_rules_108 : decode cX6_rules 108 = .ok (.aload_n 0, 1) := by decide +kernel
theorem dX6_rules_109 : decode cX6_rules 109 = .ok (.getfield 22, 3) := by decide +kernel
theorem dX6_rules_112 : decode cX6_rules 112 = .ok (.iload 7, 2) := by decide +kernel
theorem dX6_rules_114 : decode cX6_rules 114 = .ok (.iaload, 1) := by decide +kernel
theorem dX6_rules_115 : decode cX6_rules 115 = .ok (.iastore, 1) := by decide +kernel
theorem dX6_rules_116 : decode cX6_rules 116 = .ok (.iinc 7 1, 3) := by decide +kernel
theorem dX6_rules_119 : decode cX6_rules 119 = .ok (.goto (-24), 3) := by decide +kernel
theorem dX6_rules_122 : decode cX6_rules 122 = .ok (.aload_n 0, 1) := by decide +kernel
theorem dX6_rules_123 : decode cX6_rules 123 = .ok (.iconst 0, 1) := by decide +kernel
theorem dX6_rules_124 : decode cX6_rules 124 = .ok (.putfield 80, 3) := by decide +kernel
theorem dX6_rules_127 : decode cX6_rules 127 = .ok (.aload_n 0, 1) := by decide +kernel
theorem dX6_rules_128 : decode cX6_rules 128 = .ok (.getfield 47, 3) := by decide +kernel
theorem dX6_rules_131 : decode cX6_rules 131 = .ok (.ireturn, 1) := by decide +kernel
theorem dX6_isSign_0 : decode cX6_isSign 0 = .ok (.aload_n 0, 1) := by decide +kernel
theorem dX6_isSign_1 : decode cX6_isSign 1 = .ok (.getfield 71, 3) := by decide +kernel
theorem dX6_isSign_4 : decode cX6_isSign 4 = .ok (.iload_n 1, 1) := by decide +kernel
theorem dX6_isSign_5 : decode cX6_isSign 5 = .ok (.if_icmp .ge 16, 3) := by decide +kernel
theorem dX6_isSign_8 : decode cX6_isSign 8 = .ok (.aload_n 0, 1) := by decide +kernel
theorem dX6_isSign_9 : decode cX6_isSign 9 = .ok (.getfield 16, 3) := by decide +kernel
theorem dX6_isSign_12 : decode cX6_isSign 12 = .ok (.aload_n 0, 1) := by decide +kernel
theorem dX6_isSign_13 : decode cX6_isSign 13 = .ok (.getfield 71, 3) := by decide +kernel
theorem dX6_isSign_16 : decode cX6_isSign 16 = .ok (.iaload, 1) := by decide +kernel
theorem dX6_isSign_17 : decode cX6_isSign 17 = .ok (.iload_n 2, 1) := by decide +kernel
theorem dX6_isSign_18 : decode cX6_isSign 18 = .ok (.if_icmp .eq 5, 3) := by decide +kernel
theorem dX6_isSign_21 : decode cX6_isSign 21 = .ok (.iconst 0, 1) := by decide +kernel
theorem dX6_isSign_22 : decode cX6_isSign 22 = .ok (.ireturn, 1) := by decide +kernel
theorem dX6_isSign_23 : decode cX6_isSign 23 = .ok (.aload_n 0, 1) := by decide +kernel
theorem dX6_isSign_24 : decode cX6_isSign 24 = .ok (.dup, 1) := by decide +kernel
theorem dX6_isSign_25 : decode cX6_isSign 25 = .ok (.getfield 71, 3) := by decide +kernel
theorem dX6_isSign_28 : decode cX6_isSign 28 = .ok (.iconst 1, 1) := by decide +kernel
theorem dX6_isSign_29 : decode cX6_isSign 29 = .ok (.iadd, 1) := by decide +kernel
theorem dX6_isSign_30 : decode cX6_isSign 30 = .ok (.putfield 71, 3) := by decide +kernel
theorem dX6_isSign_33 : decode cX6_isSign 33 = .ok (.iconst 1, 1) := by decide +kernel
theorem dX6_isSign_34 : decode cX6_isSign 34 = .ok (.ireturn, 1) := by decide +kernel
theorem dX6_readAll_0 : decode cX6_readAll 0 = .ok (.aload_n 0, 1) := by decide +kernel
theorem dX6_readAll_1 : decode cX6_readAll 1 = .ok (.iconst 0, 1) := by decide +kernel
theorem dX6_readAll_2 : decode cX6_readAll 2 = .ok (.putfield 77, 3) := by decide +kernel
theorem dX6_readAll_5 : decode cX6_readAll 5 = .ok (.aload_n 0, 1) := by decide +kernel
theorem dX6_readAll_6 : decode cX6_readAll 6 = .ok (.iload_n 1, 1) := by decide +kernel
theorem dX6_readAll_7 : decode cX6_readAll 7 = .ok (.bipush 113, 2) := by decide +kernel
theorem dX6_readAll_9 : decode cX6_readAll 9 = .ok (.invokevirtual 83, 3) := by decide +kernel
theorem dX6_readAll_12 : decode cX6_readAll 12 = .ok (.ifCond .ne 5, 3) := by decide +kernel
theorem dX6_readAll_15 : decode cX6_readAll 15 = .ok (.iconst 0, 1) := by decide +kernel
theorem dX6_readAll_16 : decode cX6_readAll 16 = .ok (.ireturn, 1) := by decide +kernel
theorem dX6_readAll_17 : decode cX6_readAll 17 = .ok (.aload_n 0, 1) := by decide +kernel
theorem dX6_readAll_18 : decode cX6_readAll 18 = .ok (.getfield 77, 3) := by decide +kernel
theorem dX6_readAll_21 : decode cX6_readAll 21 = .ok (.ifCond .eq 20, 3) := by decide +kernel
theorem dX6_readAll_24 : decode cX6_readAll 24 = .ok (.aload_n 0, 1) := by decide +kernel
theorem dX6_readAll_25 : decode cX6_readAll 25 = .ok (.getfield 77, 3) := by decide +kernel
theorem dX6_readAll_28 : decode cX6_readAll 28 = .ok (.bipush 7, 2) := by decide +kernel
theorem dX6_readAll_30 : decode cX6_readAll 30 = .ok (.if_icmp .ge 50, 3) := by decide +kernel
theorem dX6_readAll_33 : decode cX6_readAll 33 = .ok (.aload_n 0, 1) := by decide +kernel
theorem dX6_readAll_34 : decode cX6_readAll 34 = .ok (.getfield 71, 3) := by decide +kernel
theorem dX6_readAll_37 : decode cX6_readAll 37 = .ok (.iload_n 1, 1) := by decide +kernel
theorem dX6_readAll_38 : decode cX6_readAll 38 = .ok (.if_icmp .ge 42, 3) := by decide +kernel
theorem dX6_readAll_41 : decode cX6_readAll 41 = .ok (.aload_n 0, 1) := by decide +kernel
theorem dX6_readAll_42 : decode cX6_readAll 42 = .ok (.iload_n 1, 1) := by decide +kernel
theorem dX6_readAll_43 : decode cX6_readAll 43 = .ok (.bipush 59, 2) := by decide +kernel
theorem dX6_readAll_45 : decode cX6_readAll 45 = .ok (.invokevirtual 83, 3) := by decide +kernel
theorem dX6_readAll_48 : decode cX6_readAll 48 = .ok (.ifCond .eq 17, 3) := by decide +kernel
theorem dX6_readAll_51 : decode cX6_readAll 51 = .ok (.aload_n 0, 1) := by decide +kernel
theorem dX6_readAll_52 : decode cX6_readAll 52 = .ok (.iload_n 1, 1) := by decide +kernel
theorem dX6_readAll_53 : decode cX6_readAll 53 = .ok (.iconst 5, 1) := by decide +kernel
theorem dX6_readAll_54 : decode cX6_readAll 54 = .ok (.aload_n 0, 1) := by decide +kernel
theorem dX6_readAll_55 : decode cX6_readAll 55 = .ok (.getfield 77, 3) := by decide +kernel
theorem dX6_readAll_58 : decode cX6_readAll 58 = .ok (.imul, 1) := by decide +kernel
theorem dX6_readAll_59 : decode cX6_readAll 59 = .ok (.invokevirtual 87, 3) := by decide +kernel
theorem dX6_readAll_62 : decode cX6_readAll 62 = .ok (.ifCond .ne 5, 3) := by decide +kernel
theorem dX6_readAll_65 : decode cX6_readAll 65 = .ok (.iconst 0, 1) := by decide +kernel
theorem dX6_readAll_66 : decode cX6_readAll 66 = .ok (.ireturn, 1) := by decide +kernel
theorem dX6_readAll_67 : decode cX6_readAll 67 = .ok (.aload_n 0, 1) := by decide +kernel
theorem dX6_readAll_68 : decode cX6_readAll 68 = .ok (.dup, 1) := by decide +kernel
theorem dX6_readAll_69 : decode cX6_readAll 69 = .ok (.getfield 77, 3) := by decide +kernel
theorem dX6_readAll_72 : decode cX6_readAll 72 = .ok (.iconst 1, 1) := by decide +kernel
theorem dX6_readAll_73 : decode cX6_readAll 73 = .ok (.iadd, 1) := by decide +kernel
theorem dX6_readAll_74 : decode cX6_readAll 74 = .ok (.putfield 77, 3) := by decide +kernel
theorem dX6_readAll_77 : decode cX6_readAll 77 = .ok (.goto (-60), 3) := by decide +kernel
theorem dX6_readAll_80 : decode cX6_readAll 80 = .ok (.aload_n 0, 1) := by decide +kernel
theorem dX6_readAll_81 : decode cX6_readAll 81 = .ok (.getfield 71, 3) := by decide +kernel
theorem dX6_readAll_84 : decode cX6_readAll 84 = .ok (.iload_n 1, 1) := by decide +kernel
theorem dX6_readAll_85 : decode cX6_readAll 85 = .ok (.if_icmp .ne 7, 3) := by decide +kernel
theorem dX6_readAll_88 : decode cX6_readAll 88 = .ok (.iconst 1, 1) := by decide +kernel
theorem dX6_readAll_89 : decode cX6_readAll 89 = .ok (.goto 4, 3) := by decide +kernel
theorem dX6_readAll_92 : decode cX6_readAll 92 = .ok (.iconst 0, 1) := by decide +kernel
theorem dX6_readAll_93 : decode cX6_readAll 93 = .ok (.ireturn, 1) := by decide +kernel
theorem dX6_readRule_0 : decode cX6_readRule 0 = .ok (.aload_n 0, 1) := by decide +kernel
theorem dX6_readRule_1 : decode cX6_readRule 1 = .ok (.getfield 71, 3) := by decide +kernel
theorem dX6_readRule_4 : decode cX6_readRule 4 = .ok (.iload_n 1, 1) := by decide +kernel
theorem dX6_readRule_5 : decode cX6_readRule 5 = .ok (.if_icmp .ge 15, 3) := by decide +kernel
theorem dX6_readRule_8 : decode cX6_readRule 8 = .ok (.aload_n 0, 1) := by decide +kernel
theorem dX6_readRule_9 : decode cX6_readRule 9 = .ok (.getfield 16, 3) := by decide +kernel
theorem dX6_readRule_12 : decode cX6_readRule 12 = .ok (.aload_n 0, 1) := by decide +kernel
theorem dX6_readRule_13 : decode cX6_readRule 13 = .ok (.getfield 71, 3) := by decide +kernel
theorem dX6_readRule_16 : decode cX6_readRule 16 = .ok (.iaload, 1) := by decide +kernel
theorem dX6_readRule_17 : decode cX6_readRule 17 = .ok (.goto 4, 3) := by decide +kernel
theorem dX6_readRule_20 : decode cX6_readRule 20 = .ok (.iconst 0, 1) := by decide +kernel
theorem dX6_readRule_21 : decode cX6_readRule 21 = .ok (.istore_n 3, 1) := by decide +kernel
theorem dX6_readRule_22 : decode cX6_readRule 22 = .ok (.aload_n 0, 1) := by decide +kernel
theorem dX6_readRule_23 : decode cX6_readRule 23 = .ok (.getfield 22, 3) := by decide +kernel
theorem dX6_readRule_26 : decode cX6_readRule 26 = .ok (.iload_n 2, 1) := by decide +kernel
theorem dX6_readRule_27 : decode cX6_readRule 27 = .ok (.iload_n 3, 1) := by decide +kernel
theorem dX6_readRule_28 : decode cX6_readRule 28 = .ok (.bipush 80, 2) := by decide +kernel
theorem dX6_readRule_30 : decode cX6_readRule 30 = .ok (.if_icmp .ne 7, 3) := by decide +kernel
theorem dX6_readRule_33 : decode cX6_readRule 33 = .ok (.iconst 0, 1) := by decide +kernel
theorem dX6_readRule_34 : decode cX6_readRule 34 = .ok (.goto 25, 3) := by decide +kernel
theorem dX6_readRule_37 : decode cX6_readRule 37 = .ok (.iload_n 3, 1) := by decide +kernel
theorem dX6_readRule_38 : decode cX6_readRule 38 = .ok (.bipush 66, 2) := by decide +kernel
theorem dX6_readRule_40 : decode cX6_readRule 40 = .ok (.if_icmp .ne 7, 3) := by decide +kernel
theorem dX6_readRule_43 : decode cX6_readRule 43 = .ok (.iconst 1, 1) := by decide +kernel
theorem dX6_readRule_44 : decode cX6_readRule 44 = .ok (.goto 15, 3) := by decide +kernel
theorem dX6_readRule_47 : decode cX6_readRule 47 = .ok (.iload_n 3, 1) := by decide +kernel
theorem dX6_readRule_48 : decode cX6_readRule 48 = .ok (.bipush 87, 2) := by decide +kernel
theorem dX6_readRule_50 : decode cX6_readRule 50 = .ok (.if_icmp .ne 7, 3) := by decide +kernel
theorem dX6_readRule_53 : decode cX6_readRule 53 = .ok (.iconst 2, 1) := by decide +kernel
theorem dX6_readRule_54 : decode cX6_readRule 54 = .ok (.goto 5, 3) := by decide +kernel
theorem dX6_readRule_57 : decode cX6_readRule 57 = .ok (.bipush (-9), 2) := by decide +kernel
theorem dX6_readRule_59 : decode cX6_readRule 59 = .ok (.iastore, 1) := by decide +kernel
theorem dX6_readRule_60 : decode cX6_readRule 60 = .ok (.aload_n 0, 1) := by decide +kernel
theorem dX6_readRule_61 : decode cX6_readRule 61 = .ok (.getfield 22, 3) := by decide +kernel
theorem dX6_readRule_64 : decode cX6_readRule 64 = .ok (.iload_n 2, 1) := by decide +kernel
theorem dX6_readRule_65 : decode cX6_readRule 65 = .ok (.iaload, 1) := by decide +kernel
theorem dX6_readRule_66 : decode cX6_readRule 66 = .ok (.bipush (-9), 2) := by decide +kernel
theorem dX6_readRule_68 : decode cX6_readRule 68 = .ok (.if_icmp .ne 5, 3) := by decide +kernel
theorem dX6_readRule_71 : decode cX6_readRule 71 = .ok (.iconst 0, 1) := by decide +kernel
theorem dX6_readRule_72 : decode cX6_readRule 72 = .ok (.ireturn, 1) := by decide +kernel
theorem dX6_readRule_73 : decode cX6_readRule 73 = .ok (.aload_n 0, 1) := by decide +kernel
theorem dX6_readRule_74 : decode cX6_readRule 74 = .ok (.dup, 1) := by decide +kernel
theorem dX6_readRule_75 : decode cX6_readRule 75 = .ok (.getfield 71, 3) := by decide +kernel
theorem dX6_readRule_78 : decode cX6_readRule 78 = .ok (.iconst 1, 1) := by decide +kernel
theorem dX6_readRule_79 : decode cX6_readRule 79 = .ok (.iadd, 1) := by decide +kernel
theorem dX6_readRule_80 : decode cX6_readRule 80 = .ok (.putfield 71, 3) := by decide +kernel
theorem dX6_readRule_83 : decode cX6_readRule 83 = .ok (.aload_n 0, 1) := by decide +kernel
theorem dX6_readRule_84 : decode cX6_readRule 84 = .ok (.getfield 71, 3) := by decide +kernel
theorem dX6_readRule_87 : decode cX6_readRule 87 = .ok (.iload_n 1, 1) := by decide +kernel
theorem dX6_readRule_88 : decode cX6_readRule 88 = .ok (.if_icmp .ge 15, 3) := by decide +kernel
theorem dX6_readRule_91 : decode cX6_readRule 91 = .ok (.aload_n 0, 1) := by decide +kernel
theorem dX6_readRule_92 : decode cX6_readRule 92 = .ok (.getfield 16, 3) := by decide +kernel
theorem dX6_readRule_95 : decode cX6_readRule 95 = .ok (.aload_n 0, 1) := by decide +kernel
theorem dX6_readRule_96 : decode cX6_readRule 96 = .ok (.getfield 71, 3) := by decide +kernel
theorem dX6_readRule_99 : decode cX6_readRule 99 = .ok (.iaload, 1) := by decide +kernel
theorem dX6_readRule_100 : decode cX6_readRule 100 = .ok (.goto 4, 3) := by decide +kernel
theorem dX6_readRule_103 : decode cX6_readRule 103 = .ok (.iconst 0, 1) := by decide +kernel
theorem dX6_readRule_104 : decode cX6_readRule 104 = .ok (.istore_n 3, 1) := by decide +kernel
theorem dX6_readRule_105 : decode cX6_readRule 105 = .ok (.aload_n 0, 1) := by decide +kernel
theorem dX6_readRule_106 : decode cX6_readRule 106 = .ok (.getfield 22, 3) := by decide +kernel
theorem dX6_readRule_109 : decode cX6_readRule 109 = .ok (.iload_n 2, 1) := by decide +kernel
theorem dX6_readRule_110 : decode cX6_readRule 110 = .ok (.iconst 1, 1) := by decide +kernel
theorem dX6_readRule_111 : decode cX6_readRule 111 = .ok (.iadd, 1) := by decide +kernel
theorem dX6_readRule_112 : decode cX6_readRule 112 = .ok (.iload_n 3, 1) := by decide +kernel
theorem dX6_readRule_113 : decode cX6_readRule 113 = .ok (.bipush 71, 2) := by decide +kernel
theorem dX6_readRule_115 : decode cX6_readRule 115 = .ok (.if_icmp .ne 7, 3) := by decide +kernel
theorem dX6_readRule_118 : decode cX6_readRule 118 = .ok (.iconst 0, 1) := by decide +kernel
theorem dX6_readRule_119 : decode cX6_readRule 119 = .ok (.goto 25, 3) := by decide +kernel
theorem dX6_readRule_122 : decode cX6_readRule 122 = .ok (.iload_n 3, 1) := by decide +kernel
theorem dX6_readRule_123 : decode cX6_readRule 123 = .ok (.bipush 68, 2) := by decide +kernel
theorem dX6_readRule_125 : decode cX6_readRule 125 = .ok (.if_icmp .ne 7, 3) := by decide +kernel
theorem dX6_readRule_128 : decode cX6_readRule 128 = .ok (.iconst 1, 1) := by decide +kernel
theorem dX6_readRule_129 : decode cX6_readRule 129 = .ok (.goto 15, 3) := by decide +kernel
theorem dX6_readRule_132 : decode cX6_readRule 132 = .ok (.iload_n 3, 1) := by decide +kernel
theorem dX6_readRule_133 : decode cX6_readRule 133 = .ok (.bipush 74, 2) := by decide +kernel
theorem dX6_readRule_135 : decode cX6_readRule 135 = .ok (.if_icmp .ne 7, 3) := by decide +kernel
theorem dX6_readRule_138 : decode cX6_readRule 138 = .ok (.iconst 2, 1) := by decide +kernel
theorem dX6_readRule_139 : decode cX6_readRule 139 = .ok (.goto 5, 3) := by decide +kernel
theorem dX6_readRule_142 : decode cX6_readRule 142 = .ok (.bipush (-9), 2) := by decide +kernel
theorem dX6_readRule_144 : decode cX6_readRule 144 = .ok (.iastore, 1) := by decide +kernel
theorem dX6_readRule_145 : decode cX6_readRule 145 = .ok (.aload_n 0, 1) := by decide +kernel
theorem dX6_readRule_146 : decode cX6_readRule 146 = .ok (.getfield 22, 3) := by decide +kernel
theorem dX6_readRule_149 : decode cX6_readRule 149 = .ok (.iload_n 2, 1) := by decide +kernel
theorem dX6_readRule_150 : decode cX6_readRule 150 = .ok (.iconst 1, 1) := by decide +kernel
theorem dX6_readRule_151 : decode cX6_readRule 151 = .ok (.iadd, 1) := by decide +kernel
theorem dX6_readRule_152 : decode cX6_readRule 152 = .ok (.iaload, 1) := by decide +kernel
theorem dX6_readRule_153 : decode cX6_readRule 153 = .ok (.bipush (-9), 2) := by decide +kernel
theorem dX6_readRule_155 : decode cX6_readRule 155 = .ok (.if_icmp .ne 5, 3) := by decide +kernel
theorem dX6_readRule_158 : decode cX6_readRule 158 = .ok (.iconst 0, 1) := by decide +kernel
theorem dX6_readRule_159 : decode cX6_readRule 159 = .ok (.ireturn, 1) := by decide +kernel
theorem dX6_readRule_160 : decode cX6_readRule 160 = .ok (.aload_n 0, 1) := by decide +kernel
theorem dX6_readRule_161 : decode cX6_readRule 161 = .ok (.dup, 1) := by decide +kernel
theorem dX6_readRule_162 : decode cX6_readRule 162 = .ok (.getfield 71, 3) := by decide +kernel
theorem dX6_readRule_165 : decode cX6_readRule 165 = .ok (.iconst 1, 1) := by decide +kernel
theorem dX6_readRule_166 : decode cX6_readRule 166 = .ok (.iadd, 1) := by decide +kernel
theorem dX6_readRule_167 : decode cX6_readRule 167 = .ok (.putfield 71, 3) := by decide +kernel
theorem dX6_readRule_170 : decode cX6_readRule 170 = .ok (.aload_n 0, 1) := by decide +kernel
theorem dX6_readRule_171 : decode cX6_readRule 171 = .ok (.iload_n 1, 1) := by decide +kernel
theorem dX6_readRule_172 : decode cX6_readRule 172 = .ok (.iload_n 2, 1) := by decide +kernel
theorem dX6_readRule_173 : decode cX6_readRule 173 = .ok (.iconst 2, 1) := by decide +kernel
theorem dX6_readRule_174 : decode cX6_readRule 174 = .ok (.iadd, 1) := by decide +kernel
theorem dX6_readRule_175 : decode cX6_readRule 175 = .ok (.bipush 49, 2) := by decide +kernel
theorem dX6_readRule_177 : decode cX6_readRule 177 = .ok (.bipush 57, 2) := by decide +kernel
theorem dX6_readRule_179 : decode cX6_readRule 179 = .ok (.bipush 48, 2) := by decide +kernel
theorem dX6_readRule_181 : decode cX6_readRule 181 = .ok (.invokevirtual 90, 3) := by decide +kernel
theorem dX6_readRule_184 : decode cX6_readRule 184 = .ok (.ifCond .eq 50, 3) := by decide +kernel
theorem dX6_readRule_187 : decode cX6_readRule 187 = .ok (.aload_n 0, 1) := by decide +kernel
theorem dX6_readRule_188 : decode cX6_readRule 188 = .ok (.iload_n 1, 1) := by decide +kernel
theorem dX6_readRule_189 : decode cX6_readRule 189 = .ok (.iload_n 2, 1) := by decide +kernel
theorem dX6_readRule_190 : decode cX6_readRule 190 = .ok (.iconst 3, 1) := by decide +kernel
theorem dX6_readRule_191 : decode cX6_readRule 191 = .ok (.iadd, 1) := by decide +kernel
theorem dX6_readRule_192 : decode cX6_readRule 192 = .ok (.bipush 97, 2) := by decide +kernel
theorem dX6_readRule_194 : decode cX6_readRule 194 = .ok (.bipush 122, 2) := by decide +kernel
theorem dX6_readRule_196 : decode cX6_readRule 196 = .ok (.bipush 97, 2) := by decide +kernel
theorem dX6_readRule_198 : decode cX6_readRule 198 = .ok (.invokevirtual 90, 3) := by decide +kernel
theorem dX6_readRule_201 : decode cX6_readRule 201 = .ok (.ifCond .eq 33, 3) := by decide +kernel
theorem dX6_readRule_204 : decode cX6_readRule 204 = .ok (.aload_n 0, 1) := by decide +kernel
theorem dX6_readRule_205 : decode cX6_readRule 205 = .ok (.iload_n 1, 1) := by decide +kernel
theorem dX6_readRule_206 : decode cX6_readRule 206 = .ok (.iload_n 2, 1) := by decide +kernel
theorem dX6_readRule_207 : decode cX6_readRule 207 = .ok (.iconst 4, 1) := by decide +kernel
theorem dX6_readRule_208 : decode cX6_readRule 208 = .ok (.iadd, 1) := by decide +kernel
theorem dX6_readRule_209 : decode cX6_readRule 209 = .ok (.bipush 97, 2) := by decide +kernel
theorem dX6_readRule_211 : decode cX6_readRule 211 = .ok (.aload_n 0, 1) := by decide +kernel
theorem dX6_readRule_212 : decode cX6_readRule 212 = .ok (.getfield 22, 3) := by decide +kernel
theorem dX6_readRule_215 : decode cX6_readRule 215 = .ok (.iload_n 2, 1) := by decide +kernel
theorem dX6_readRule_216 : decode cX6_readRule 216 = .ok (.iconst 3, 1) := by decide +kernel
theorem dX6_readRule_217 : decode cX6_readRule 217 = .ok (.iadd, 1) := by decide +kernel
theorem dX6_readRule_218 : decode cX6_readRule 218 = .ok (.iaload, 1) := by decide +kernel
theorem dX6_readRule_219 : decode cX6_readRule 219 = .ok (.iadd, 1) := by decide +kernel
theorem dX6_readRule_220 : decode cX6_readRule 220 = .ok (.bipush 122, 2) := by decide +kernel
theorem dX6_readRule_222 : decode cX6_readRule 222 = .ok (.bipush 97, 2) := by decide +kernel
theorem dX6_readRule_224 : decode cX6_readRule 224 = .ok (.invokevirtual 90, 3) := by decide +kernel
theorem dX6_readRule_227 : decode cX6_readRule 227 = .ok (.ifCond .eq 7, 3) := by decide +kernel
theorem dX6_readRule_230 : decode cX6_readRule 230 = .ok (.iconst 1, 1) := by decide +kernel
