theorem dX6_day_171 : decode cX6_day 171 = .ok (.iload 9, 2) := by decide +kernel
theorem dX6_day_173 : decode cX6_day 173 = .ok (.aload_n 0, 1) := by decide +kernel
theorem dX6_day_174 : decode cX6_day 174 = .ok (.getfield 19, 3) := by decide +kernel
theorem dX6_day_177 : decode cX6_day 177 = .ok (.iload 9, 2) := by decide +kernel
theorem dX6_day_179 : decode cX6_day 179 = .ok (.iaload, 1) := by decide +kernel
theorem dX6_day_180 : decode cX6_day 180 = .ok (.iastore, 1) := by decide +kernel
theorem dX6_day_181 : decode cX6_day 181 = .ok (.iinc 9 1, 3) := by decide +kernel
theorem dX6_day_184 : decode cX6_day 184 = .ok (.goto (-24), 3) := by decide +kernel
theorem dX6_day_187 : decode cX6_day 187 = .ok (.aload_n 0, 1) := by decide +kernel
theorem dX6_day_188 : decode cX6_day 188 = .ok (.iload 7, 2) := by decide +kernel
theorem dX6_day_190 : decode cX6_day 190 = .ok (.iload 4, 2) := by decide +kernel
theorem dX6_day_192 : decode cX6_day 192 = .ok (.invokevirtual 142, 3) := by decide +kernel
theorem dX6_day_195 : decode cX6_day 195 = .ok (.istore 9, 2) := by decide +kernel
theorem dX6_day_197 : decode cX6_day 197 = .ok (.aload_n 0, 1) := by decide +kernel
theorem dX6_day_198 : decode cX6_day 198 = .ok (.iload 5, 2) := by decide +kernel
theorem dX6_day_200 : decode cX6_day 200 = .ok (.invokevirtual 146, 3) := by decide +kernel
theorem dX6_day_203 : decode cX6_day 203 = .ok (.istore 10, 2) := by decide +kernel
theorem dX6_day_205 : decode cX6_day 205 = .ok (.aload_n 0, 1) := by decide +kernel
theorem dX6_day_206 : decode cX6_day 206 = .ok (.iload 8, 2) := by decide +kernel
theorem dX6_day_208 : decode cX6_day 208 = .ok (.putfield 47, 3) := by decide +kernel
theorem dX6_day_211 : decode cX6_day 211 = .ok (.iconst 0, 1) := by decide +kernel
theorem dX6_day_212 : decode cX6_day 212 = .ok (.istore 11, 2) := by decide +kernel
theorem dX6_day_214 : decode cX6_day 214 = .ok (.iload 11, 2) := by decide +kernel
theorem dX6_day_216 : decode cX6_day 216 = .ok (.bipush 35, 2) := by decide +kernel
theorem dX6_day_218 : decode cX6_day 218 = .ok (.if_icmp .ge 23, 3) := by decide +kernel
theorem dX6_day_221 : decode cX6_day 221 = .ok (.aload_n 0, 1) := by decide +kernel
theorem dX6_day_222 : decode cX6_day 222 = .ok (.getfield 19, 3) := by decide +kernel
theorem dX6_day_225 : decode cX6_day 225 = .ok (.iload 11, 2) := by decide +kernel
theorem dX6_day_227 : decode cX6_day 227 = .ok (.aload_n 0, 1) := by decide +kernel
theorem dX6_day_228 : decode cX6_day 228 = .ok (.getfield 28, 3) := by decide +kernel
theorem dX6_day_231 : decode cX6_day 231 = .ok (.iload 11, 2) := by decide +kernel
theorem dX6_day_233 : decode cX6_day 233 = .ok (.iaload, 1) := by decide +kernel
theorem dX6_day_234 : decode cX6_day 234 = .ok (.iastore, 1) := by decide +kernel
theorem dX6_day_235 : decode cX6_day 235 = .ok (.iinc 11 1, 3) := by decide +kernel
theorem dX6_day_238 : decode cX6_day 238 = .ok (.goto (-24), 3) := by decide +kernel
theorem dX6_day_241 : decode cX6_day 241 = .ok (.iload 5, 2) := by decide +kernel
theorem dX6_day_243 : decode cX6_day 243 = .ok (.iconst 1, 1) := by decide +kernel
theorem dX6_day_244 : decode cX6_day 244 = .ok (.if_icmp .ne 8, 3) := by decide +kernel
theorem dX6_day_247 : decode cX6_day 247 = .ok (.iload 9, 2) := by decide +kernel
theorem dX6_day_249 : decode cX6_day 249 = .ok (.goto 20, 3) := by decide +kernel
theorem dX6_day_252 : decode cX6_day 252 = .ok (.iload 9, 2) := by decide +kernel
theorem dX6_day_254 : decode cX6_day 254 = .ok (.bipush (-9), 2) := by decide +kernel
theorem dX6_day_256 : decode cX6_day 256 = .ok (.if_icmp .ne 8, 3) := by decide +kernel
theorem dX6_day_259 : decode cX6_day 259 = .ok (.iload 10, 2) := by decide +kernel
theorem dX6_day_261 : decode cX6_day 261 = .ok (.goto 8, 3) := by decide +kernel
theorem dX6_day_264 : decode cX6_day 264 = .ok (.bipush (-100), 2) := by decide +kernel
theorem dX6_day_266 : decode cX6_day 266 = .ok (.iload 9, 2) := by decide +kernel
theorem dX6_day_268 : decode cX6_day 268 = .ok (.isub, 1) := by decide +kernel
theorem dX6_day_269 : decode cX6_day 269 = .ok (.ireturn, 1) := by decide +kernel
theorem dX6_tellDay_0 : decode cX6_tellDay 0 = .ok (.iload_n 1, 1) := by decide +kernel
theorem dX6_tellDay_1 : decode cX6_tellDay 1 = .ok (.bipush 10, 2) := by decide +kernel
theorem dX6_tellDay_3 : decode cX6_tellDay 3 = .ok (.if_icmp .lt 18, 3) := by decide +kernel
theorem dX6_tellDay_6 : decode cX6_tellDay 6 = .ok (.aload_n 0, 1) := by decide +kernel
theorem dX6_tellDay_7 : decode cX6_tellDay 7 = .ok (.iload_n 1, 1) := by decide +kernel
theorem dX6_tellDay_8 : decode cX6_tellDay 8 = .ok (.bipush 10, 2) := by decide +kernel
theorem dX6_tellDay_10 : decode cX6_tellDay 10 = .ok (.isub, 1) := by decide +kernel
theorem dX6_tellDay_11 : decode cX6_tellDay 11 = .ok (.bipush (-9), 2) := by decide +kernel
theorem dX6_tellDay_13 : decode cX6_tellDay 13 = .ok (.invokevirtual 132, 3) := by decide +kernel
theorem dX6_tellDay_16 : decode cX6_tellDay 16 = .ok (.aload_n 0, 1) := by decide +kernel
theorem dX6_tellDay_17 : decode cX6_tellDay 17 = .ok (.getfield 100, 3) := by decide +kernel
theorem dX6_tellDay_20 : decode cX6_tellDay 20 = .ok (.ireturn, 1) := by decide +kernel
theorem dX6_tellDay_21 : decode cX6_tellDay 21 = .ok (.iload_n 1, 1) := by decide +kernel
theorem dX6_tellDay_22 : decode cX6_tellDay 22 = .ok (.ifCond .ne 10, 3) := by decide +kernel
theorem dX6_tellDay_25 : decode cX6_tellDay 25 = .ok (.aload_n 0, 1) := by decide +kernel
theorem dX6_tellDay_26 : decode cX6_tellDay 26 = .ok (.invokevirtual 149, 3) := by decide +kernel
theorem dX6_tellDay_29 : decode cX6_tellDay 29 = .ok (.goto 31, 3) := by decide +kernel
theorem dX6_tellDay_32 : decode cX6_tellDay 32 = .ok (.iload_n 1, 1) := by decide +kernel
theorem dX6_tellDay_33 : decode cX6_tellDay 33 = .ok (.iconst 2, 1) := by decide +kernel
theorem dX6_tellDay_34 : decode cX6_tellDay 34 = .ok (.if_icmp .ne 10, 3) := by decide +kernel
theorem dX6_tellDay_37 : decode cX6_tellDay 37 = .ok (.aload_n 0, 1) := by decide +kernel
theorem dX6_tellDay_38 : decode cX6_tellDay 38 = .ok (.invokevirtual 153, 3) := by decide +kernel
theorem dX6_tellDay_41 : decode cX6_tellDay 41 = .ok (.goto 19, 3) := by decide +kernel
theorem dX6_tellDay_44 : decode cX6_tellDay 44 = .ok (.iload_n 1, 1) := by decide +kernel
theorem dX6_tellDay_45 : decode cX6_tellDay 45 = .ok (.iconst 3, 1) := by decide +kernel
theorem dX6_tellDay_46 : decode cX6_tellDay 46 = .ok (.if_icmp .ne 10, 3) := by decide +kernel
theorem dX6_tellDay_49 : decode cX6_tellDay 49 = .ok (.aload_n 0, 1) := by decide +kernel
theorem dX6_tellDay_50 : decode cX6_tellDay 50 = .ok (.invokevirtual 156, 3) := by decide +kernel
theorem dX6_tellDay_53 : decode cX6_tellDay 53 = .ok (.goto 7, 3) := by decide +kernel
theorem dX6_tellDay_56 : decode cX6_tellDay 56 = .ok (.aload_n 0, 1) := by decide +kernel
theorem dX6_tellDay_57 : decode cX6_tellDay 57 = .ok (.invokevirtual 159, 3) := by decide +kernel
theorem dX6_tellDay_60 : decode cX6_tellDay 60 = .ok (.ireturn, 1) := by decide +kernel
theorem dX6_ofRun_0 : decode cX6_ofRun 0 = .ok (.iload_n 1, 1) := by decide +kernel
theorem dX6_ofRun_1 : decode cX6_ofRun 1 = .ok (.ifCond .lt 11, 3) := by decide +kernel
theorem dX6_ofRun_4 : decode cX6_ofRun 4 = .ok (.iload_n 1, 1) := by decide +kernel
theorem dX6_ofRun_5 : decode cX6_ofRun 5 = .ok (.aload_n 0, 1) := by decide +kernel
theorem dX6_ofRun_6 : decode cX6_ofRun 6 = .ok (.invokevirtual 156, 3) := by decide +kernel
theorem dX6_ofRun_9 : decode cX6_ofRun 9 = .ok (.if_icmp .lt 5, 3) := by decide +kernel
theorem dX6_ofRun_12 : decode cX6_ofRun 12 = .ok (.iconst (-1), 1) := by decide +kernel
theorem dX6_ofRun_13 : decode cX6_ofRun 13 = .ok (.ireturn, 1) := by decide +kernel
theorem dX6_ofRun_14 : decode cX6_ofRun 14 = .ok (.iconst 0, 1) := by decide +kernel
theorem dX6_ofRun_15 : decode cX6_ofRun 15 = .ok (.istore_n 3, 1) := by decide +kernel
theorem dX6_ofRun_16 : decode cX6_ofRun 16 = .ok (.iload_n 1, 1) := by decide +kernel
theorem dX6_ofRun_17 : decode cX6_ofRun 17 = .ok (.istore 4, 2) := by decide +kernel
theorem dX6_ofRun_19 : decode cX6_ofRun 19 = .ok (.iload 4, 2) := by decide +kernel
theorem dX6_ofRun_21 : decode cX6_ofRun 21 = .ok (.ifCond .le 34, 3) := by decide +kernel
theorem dX6_ofRun_24 : decode cX6_ofRun 24 = .ok (.iinc 3 1, 3) := by decide +kernel
theorem dX6_ofRun_27 : decode cX6_ofRun 27 = .ok (.iload 4, 2) := by decide +kernel
theorem dX6_ofRun_29 : decode cX6_ofRun 29 = .ok (.aload_n 0, 1) := by decide +kernel
theorem dX6_ofRun_30 : decode cX6_ofRun 30 = .ok (.iload_n 3, 1) := by decide +kernel
theorem dX6_ofRun_31 : decode cX6_ofRun 31 = .ok (.invokevirtual 113, 3) := by decide +kernel
theorem dX6_ofRun_34 : decode cX6_ofRun 34 = .ok (.aload_n 0, 1) := by decide +kernel
theorem dX6_ofRun_35 : decode cX6_ofRun 35 = .ok (.iload_n 3, 1) := by decide +kernel
theorem dX6_ofRun_36 : decode cX6_ofRun 36 = .ok (.iconst 1, 1) := by decide +kernel
theorem dX6_ofRun_37 : decode cX6_ofRun 37 = .ok (.isub, 1) := by decide +kernel
theorem dX6_ofRun_38 : decode cX6_ofRun 38 = .ok (.invokevirtual 113, 3) := by decide +kernel
theorem dX6_ofRun_41 : decode cX6_ofRun 41 = .ok (.if_icmp .ne 7, 3) := by decide +kernel
theorem dX6_ofRun_44 : decode cX6_ofRun 44 = .ok (.iconst 0, 1) := by decide +kernel
theorem dX6_ofRun_45 : decode cX6_ofRun 45 = .ok (.goto 4, 3) := by decide +kernel
theorem dX6_ofRun_48 : decode cX6_ofRun 48 = .ok (.iconst 1, 1) := by decide +kernel
theorem dX6_ofRun_49 : decode cX6_ofRun 49 = .ok (.isub, 1) := by decide +kernel
theorem dX6_ofRun_50 : decode cX6_ofRun 50 = .ok (.istore 4, 2) := by decide +kernel
theorem dX6_ofRun_52 : decode cX6_ofRun 52 = .ok (.goto (-33), 3) := by decide +kernel
theorem dX6_ofRun_55 : decode cX6_ofRun 55 = .ok (.iconst 1, 1) := by decide +kernel
theorem dX6_ofRun_56 : decode cX6_ofRun 56 = .ok (.istore 5, 2) := by decide +kernel
theorem dX6_ofRun_58 : decode cX6_ofRun 58 = .ok (.iload_n 3, 1) := by decide +kernel
theorem dX6_ofRun_59 : decode cX6_ofRun 59 = .ok (.iload 5, 2) := by decide +kernel
theorem dX6_ofRun_61 : decode cX6_ofRun 61 = .ok (.iadd, 1) := by decide +kernel
theorem dX6_ofRun_62 : decode cX6_ofRun 62 = .ok (.bipush 26, 2) := by decide +kernel
theorem dX6_ofRun_64 : decode cX6_ofRun 64 = .ok (.if_icmp .ge 25, 3) := by decide +kernel
theorem dX6_ofRun_67 : decode cX6_ofRun 67 = .ok (.aload_n 0, 1) := by decide +kernel
theorem dX6_ofRun_68 : decode cX6_ofRun 68 = .ok (.iload_n 3, 1) := by decide +kernel
theorem dX6_ofRun_69 : decode cX6_ofRun 69 = .ok (.iload 5, 2) := by decide +kernel
theorem dX6_ofRun_71 : decode cX6_ofRun 71 = .ok (.iadd, 1) := by decide +kernel
theorem dX6_ofRun_72 : decode cX6_ofRun 72 = .ok (.invokevirtual 113, 3) := by decide +kernel
theorem dX6_ofRun_75 : decode cX6_ofRun 75 = .ok (.aload_n 0, 1) := by decide +kernel
theorem dX6_ofRun_76 : decode cX6_ofRun 76 = .ok (.iload_n 3, 1) := by decide +kernel
theorem dX6_ofRun_77 : decode cX6_ofRun 77 = .ok (.invokevirtual 113, 3) := by decide +kernel
theorem dX6_ofRun_80 : decode cX6_ofRun 80 = .ok (.if_icmp .ne 9, 3) := by decide +kernel
theorem dX6_ofRun_83 : decode cX6_ofRun 83 = .ok (.iinc 5 1, 3) := by decide +kernel
theorem dX6_ofRun_86 : decode cX6_ofRun 86 = .ok (.goto (-28), 3) := by decide +kernel
theorem dX6_ofRun_89 : decode cX6_ofRun 89 = .ok (.iload_n 2, 1) := by decide +kernel
theorem dX6_ofRun_90 : decode cX6_ofRun 90 = .ok (.ifCond .ne 7, 3) := by decide +kernel
theorem dX6_ofRun_93 : decode cX6_ofRun 93 = .ok (.iload_n 3, 1) := by decide +kernel
theorem dX6_ofRun_94 : decode cX6_ofRun 94 = .ok (.goto 28, 3) := by decide +kernel
theorem dX6_ofRun_97 : decode cX6_ofRun 97 = .ok (.iload_n 2, 1) := by decide +kernel
theorem dX6_ofRun_98 : decode cX6_ofRun 98 = .ok (.iconst 1, 1) := by decide +kernel
theorem dX6_ofRun_99 : decode cX6_ofRun 99 = .ok (.if_icmp .ne 8, 3) := by decide +kernel
theorem dX6_ofRun_102 : decode cX6_ofRun 102 = .ok (.iload 5, 2) := by decide +kernel
theorem dX6_ofRun_104 : decode cX6_ofRun 104 = .ok (.goto 18, 3) := by decide +kernel
theorem dX6_ofRun_107 : decode cX6_ofRun 107 = .ok (.iload_n 2, 1) := by decide +kernel
theorem dX6_ofRun_108 : decode cX6_ofRun 108 = .ok (.iconst 2, 1) := by decide +kernel
theorem dX6_ofRun_109 : decode cX6_ofRun 109 = .ok (.if_icmp .ne 11, 3) := by decide +kernel
theorem dX6_ofRun_112 : decode cX6_ofRun 112 = .ok (.aload_n 0, 1) := by decide +kernel
theorem dX6_ofRun_113 : decode cX6_ofRun 113 = .ok (.iload_n 3, 1) := by decide +kernel
theorem dX6_ofRun_114 : decode cX6_ofRun 114 = .ok (.invokevirtual 113, 3) := by decide +kernel
theorem dX6_ofRun_117 : decode cX6_ofRun 117 = .ok (.goto 5, 3) := by decide +kernel
theorem dX6_ofRun_120 : decode cX6_ofRun 120 = .ok (.bipush (-2), 2) := by decide +kernel
theorem dX6_ofRun_122 : decode cX6_ofRun 122 = .ok (.ireturn, 1) := by decide +kernel
theorem dX6_whole_0 : decode cX6_whole 0 = .ok (.iload_n 1, 1) := by decide +kernel
theorem dX6_whole_1 : decode cX6_whole 1 = .ok (.iconst 0, 1) := by decide +kernel
theorem dX6_whole_2 : decode cX6_whole 2 = .ok (.iconst 4, 1) := by decide +kernel
theorem dX6_whole_3 : decode cX6_whole 3 = .ok (.invokestatic 43, 3) := by decide +kernel
theorem dX6_whole_6 : decode cX6_whole 6 = .ok (.ifCond .ne 6, 3) := by decide +kernel
theorem dX6_whole_9 : decode cX6_whole 9 = .ok (.bipush (-2), 2) := by decide +kernel
theorem dX6_whole_11 : decode cX6_whole 11 = .ok (.ireturn, 1) := by decide +kernel
theorem dX6_whole_12 : decode cX6_whole 12 = .ok (.aload_n 0, 1) := by decide +kernel
theorem dX6_whole_13 : decode cX6_whole 13 = .ok (.getfield 47, 3) := by decide +kernel
theorem dX6_whole_16 : decode cX6_whole 16 = .ok (.ifCond .ne 6, 3) := by decide +kernel
theorem dX6_whole_19 : decode cX6_whole 19 = .ok (.bipush (-3), 2) := by decide +kernel
theorem dX6_whole_21 : decode cX6_whole 21 = .ok (.ireturn, 1) := by decide +kernel
theorem dX6_whole_22 : decode cX6_whole 22 = .ok (.iload_n 1, 1) := by decide +kernel
theorem dX6_whole_23 : decode cX6_whole 23 = .ok (.ifCond .ne 10, 3) := by decide +kernel
theorem dX6_whole_26 : decode cX6_whole 26 = .ok (.aload_n 0, 1) := by decide +kernel
theorem dX6_whole_27 : decode cX6_whole 27 = .ok (.invokevirtual 156, 3) := by decide +kernel
theorem dX6_whole_30 : decode cX6_whole 30 = .ok (.goto 43, 3) := by decide +kernel
theorem dX6_whole_33 : decode cX6_whole 33 = .ok (.iload_n 1, 1) := by decide +kernel
theorem dX6_whole_34 : decode cX6_whole 34 = .ok (.iconst 1, 1) := by decide +kernel
theorem dX6_whole_35 : decode cX6_whole 35 = .ok (.if_icmp .ne 10, 3) := by decide +kernel
theorem dX6_whole_38 : decode cX6_whole 38 = .ok (.aload_n 0, 1) := by decide +kernel
theorem dX6_whole_39 : decode cX6_whole 39 = .ok (.invokevirtual 153, 3) := by decide +kernel
theorem dX6_whole_42 : decode cX6_whole 42 = .ok (.goto 31, 3) := by decide +kernel
theorem dX6_whole_45 : decode cX6_whole 45 = .ok (.iload_n 1, 1) := by decide +kernel
theorem dX6_whole_46 : decode cX6_whole 46 = .ok (.iconst 2, 1) := by decide +kernel
theorem dX6_whole_47 : decode cX6_whole 47 = .ok (.if_icmp .ne 10, 3) := by decide +kernel
theorem dX6_whole_50 : decode cX6_whole 50 = .ok (.aload_n 0, 1) := by decide +kernel
theorem dX6_whole_51 : decode cX6_whole 51 = .ok (.invokevirtual 162, 3) := by decide +kernel
theorem dX6_whole_54 : decode cX6_whole 54 = .ok (.goto 19, 3) := by decide +kernel
theorem dX6_whole_57 : decode cX6_whole 57 = .ok (.iload_n 1, 1) := by decide +kernel
theorem dX6_whole_58 : decode cX6_whole 58 = .ok (.iconst 3, 1) := by decide +kernel
theorem dX6_whole_59 : decode cX6_whole 59 = .ok (.if_icmp .ne 10, 3) := by decide +kernel
theorem dX6_whole_62 : decode cX6_whole 62 = .ok (.aload_n 0, 1) := by decide +kernel
theorem dX6_whole_63 : decode cX6_whole 63 = .ok (.invokevirtual 149, 3) := by decide +kernel
theorem dX6_whole_66 : decode cX6_whole 66 = .ok (.goto 7, 3) := by decide +kernel
theorem dX6_whole_69 : decode cX6_whole 69 = .ok (.aload_n 0, 1) := by decide +kernel
theorem dX6_whole_70 : decode cX6_whole 70 = .ok (.invokevirtual 159, 3) := by decide +kernel
theorem dX6_whole_73 : decode cX6_whole 73 = .ok (.ireturn, 1) := by decide +kernel
theorem dX6_reading_0 : decode cX6_reading 0 = .ok (.aload_n 0, 1) := by decide +kernel
theorem dX6_reading_1 : decode cX6_reading 1 = .ok (.getfield 47, 3) := by decide +kernel
theorem dX6_reading_4 : decode cX6_reading 4 = .ok (.ifCond .ne 6, 3) := by decide +kernel
theorem dX6_reading_7 : decode cX6_reading 7 = .ok (.bipush (-3), 2) := by decide +kernel
theorem dX6_reading_9 : decode cX6_reading 9 = .ok (.ireturn, 1) := by decide +kernel
theorem dX6_reading_10 : decode cX6_reading 10 = .ok (.iload_n 1, 1) := by decide +kernel
theorem dX6_reading_11 : decode cX6_reading 11 = .ok (.invokestatic 122, 3) := by decide +kernel
theorem dX6_reading_14 : decode cX6_reading 14 = .ok (.ifCond .eq 20, 3) := by decide +kernel
theorem dX6_reading_17 : decode cX6_reading 17 = .ok (.iload_n 2, 1) := by decide +kernel
theorem dX6_reading_18 : decode cX6_reading 18 = .ok (.bipush (-9), 2) := by decide +kernel
theorem dX6_reading_20 : decode cX6_reading 20 = .ok (.if_icmp .eq 17, 3) := by decide +kernel
theorem dX6_reading_23 : decode cX6_reading 23 = .ok (.iload_n 2, 1) := by decide +kernel
theorem dX6_reading_24 : decode cX6_reading 24 = .ok (.iconst 0, 1) := by decide +kernel
theorem dX6_reading_25 : decode cX6_reading 25 = .ok (.sipush 200, 3) := by decide +kernel
theorem dX6_reading_28 : decode cX6_reading 28 = .ok (.invokestatic 43, 3) := by decide +kernel
theorem dX6_reading_31 : decode cX6_reading 31 = .ok (.ifCond .ne 6, 3) := by decide +kernel
theorem dX6_reading_34 : decode cX6_reading 34 = .ok (.bipush (-2), 2) := by decide +kernel
theorem dX6_reading_36 : decode cX6_reading 36 = .ok (.ireturn, 1) := by decide +kernel
theorem dX6_reading_37 : decode cX6_reading 37 = .ok (.aload_n 0, 1) := by decide +kernel
theorem dX6_reading_38 : decode cX6_reading 38 = .ok (.getfield 80, 3) := by decide +kernel
theorem dX6_reading_41 : decode cX6_reading 41 = .ok (.bipush 8, 2) := by decide +kernel
theorem dX6_reading_43 : decode cX6_reading 43 = .ok (.if_icmp .ne 6, 3) := by decide +kernel
theorem dX6_reading_46 : decode cX6_reading 46 = .ok (.bipush (-4), 2) := by decide +kernel
theorem dX6_reading_48 : decode cX6_reading 48 = .ok (.ireturn, 1) := by decide +kernel
theorem dX6_reading_49 : decode cX6_reading 49 = .ok (.aload_n 0, 1) := by decide +kernel
theorem dX6_reading_50 : decode cX6_reading 50 = .ok (.getfield 31, 3) := by decide +kernel
theorem dX6_reading_53 : decode cX6_reading 53 = .ok (.aload_n 0, 1) := by decide +kernel
theorem dX6_reading_54 : decode cX6_reading 54 = .ok (.getfield 80, 3) := by decide +kernel
theorem dX6_reading_57 : decode cX6_reading 57 = .ok (.iload_n 1, 1) := by decide +kernel
theorem dX6_reading_58 : decode cX6_reading 58 = .ok (.iastore, 1) := by decide +kernel
theorem dX6_reading_59 : decode cX6_reading 59 = .ok (.aload_n 0, 1) := by decide +kernel
theorem dX6_reading_60 : decode cX6_reading 60 = .ok (.getfield 34, 3) := by decide +kernel
theorem dX6_reading_63 : decode cX6_reading 63 = .ok (.aload_n 0, 1) := by decide +kernel
theorem dX6_reading_64 : decode cX6_reading 64 = .ok (.getfield 80, 3) := by decide +kernel
theorem dX6_reading_67 : decode cX6_reading 67 = .ok (.iload_n 2, 1) := by decide +kernel
theorem dX6_reading_68 : decode cX6_reading 68 = .ok (.iastore, 1) := by decide +kernel
theorem dX6_reading_69 : decode cX6_reading 69 = .ok (.aload_n 0, 1) := by decide +kernel
theorem dX6_reading_70 : decode cX6_reading 70 = .ok (.dup, 1) := by decide +kernel
theorem dX6_reading_71 : decode cX6_reading 71 = .ok (.getfield 80, 3) := by decide +kernel
theorem dX6_reading_74 : decode cX6_reading 74 = .ok (.iconst 1, 1) := by decide +kernel
theorem dX6_reading_75 : decode cX6_reading 75 = .ok (.iadd, 1) := by decide +kernel
theorem dX6_reading_76 : decode cX6_reading 76 = .ok (.putfield 80, 3) := by decide +kernel
theorem dX6_reading_79 : decode cX6_reading 79 = .ok (.aload_n 0, 1) := by decide +kernel
theorem dX6_reading_80 : decode cX6_reading 80 = .ok (.getfield 80, 3) := by decide +kernel
theorem dX6_reading_83 : decode cX6_reading 83 = .ok (.iconst 1, 1) := by decide +kernel
theorem dX6_reading_84 : decode cX6_reading 84 = .ok (.isub, 1) := by decide +kernel
theorem dX6_reading_85 : decode cX6_reading 85 = .ok (.ireturn, 1) := by decide +kernel
theorem dX6_back_0 : decode cX6_back 0 = .ok (.iload_n 1, 1) := by decide +kernel
theorem dX6_back_1 : decode cX6_back 1 = .ok (.iconst 0, 1) := by decide +kernel
theorem dX6_back_2 : decode cX6_back 2 = .ok (.aload_n 0, 1) := by decide +kernel
theorem dX6_back_3 : decode cX6_back 3 = .ok (.getfield 80, 3) := by decide +kernel
theorem dX6_back_6 : decode cX6_back 6 = .ok (.invokestatic 43, 3) := by decide +kernel
theorem dX6_back_9 : decode cX6_back 9 = .ok (.ifCond .ne 6, 3) := by decide +kernel
theorem dX6_back_12 : decode cX6_back 12 = .ok (.bipush (-2), 2) := by decide +kernel
theorem dX6_back_14 : decode cX6_back 14 = .ok (.ireturn, 1) := by decide +kernel
theorem dX6_back_15 : decode cX6_back 15 = .ok (.aload_n 0, 1) := by decide +kernel
theorem dX6_back_16 : decode cX6_back 16 = .ok (.dup, 1) := by decide +kernel
theorem dX6_back_17 : decode cX6_back 17 = .ok (.getfield 80, 3) := by decide +kernel
theorem dX6_back_20 : decode cX6_back 20 = .ok (.iload_n 1, 1) := by decide +kernel
theorem dX6_back_21 : decode cX6_back 21 = .ok (.isub, 1) := by decide +kernel
theorem dX6_back_22 : decode cX6_back 22 = .ok (.putfield 80, 3) := by decide +kernel
theorem dX6_back_25 : decode cX6_back 25 = .ok (.aload_n 0, 1) := by decide +kernel
theorem dX6_back_26 : decode cX6_back 26 = .ok (.getfield 80, 3) := by decide +kernel
theorem dX6_back_29 : decode cX6_back 29 = .ok (.ireturn, 1) := by decide +kernel
theorem dX6_areSo_0 : decode cX6_areSo 0 = .ok (.iconst 0, 1) := by decide +kernel
theorem dX6_areSo_1 : decode cX6_areSo 1 = .ok (.istore_n 1, 1) := by decide +kernel
theorem dX6_areSo_2 : decode cX6_areSo 2 = .ok (.iload_n 1, 1) := by decide +kernel
theorem dX6_areSo_3 : decode cX6_areSo 3 = .ok (.aload_n 0, 1) := by decide +kernel
theorem dX6_areSo_4 : decode cX6_areSo 4 = .ok (.getfield 80, 3) := by decide +kernel
theorem dX6_areSo_7 : decode cX6_areSo 7 = .ok (.if_icmp .ge 36, 3) := by decide +kernel
theorem dX6_areSo_10 : decode cX6_areSo 10 = .ok (.aload_n 0, 1) := by decide +kernel
theorem dX6_areSo_11 : decode cX6_areSo 11 = .ok (.aload_n 0, 1) := by decide +kernel
theorem dX6_areSo_12 : decode cX6_areSo 12 = .ok (.getfield 31, 3) := by decide +kernel
theorem dX6_areSo_15 : decode cX6_areSo 15 = .ok (.iload_n 1, 1) := by decide +kernel
theorem dX6_areSo_16 : decode cX6_areSo 16 = .ok (.iaload, 1) := by decide +kernel
theorem dX6_areSo_17 : decode cX6_areSo 17 = .ok (.bipush (-9), 2) := by decide +kernel
theorem dX6_areSo_19 : decode cX6_areSo 19 = .ok (.invokevirtual 132, 3) := by decide +kernel
theorem dX6_areSo_22 : decode cX6_areSo 22 = .ok (.aload_n 0, 1) := by decide +kernel
theorem dX6_areSo_23 : decode cX6_areSo 23 = .ok (.getfield 100, 3) := by decide +kernel
theorem dX6_areSo_26 : decode cX6_areSo 26 = .ok (.aload_n 0, 1) := by decide +kernel
theorem dX6_areSo_27 : decode cX6_areSo 27 = .ok (.getfield 34, 3) := by decide +kernel
theorem dX6_areSo_30 : decode cX6_areSo 30 = .ok (.iload_n 1, 1) := by decide +kernel
theorem dX6_areSo_31 : decode cX6_areSo 31 = .ok (.iaload, 1) := by decide +kernel
theorem dX6_areSo_32 : decode cX6_areSo 32 = .ok (.if_icmp .eq 5, 3) := by decide +kernel
theorem dX6_areSo_35 : decode cX6_areSo 35 = .ok (.iconst 0, 1) := by decide +kernel
theorem dX6_areSo_36 : decode cX6_areSo 36 = .ok (.ireturn, 1) := by decide +kernel
theorem dX6_areSo_37 : decode cX6_areSo 37 = .ok (.iinc 1 1, 3) := by decide +kernel
theorem dX6_areSo_40 : decode cX6_areSo 40 = .ok (.goto (-38), 3) := by decide +kernel
theorem dX6_areSo_43 : decode cX6_areSo 43 = .ok (.iconst 1, 1) := by decide +kernel
theorem dX6_areSo_44 : decode cX6_areSo 44 = .ok (.ireturn, 1) := by decide +kernel
theorem dX6_kinds_0 : decode cX6_kinds 0 = .ok (.aload_n 0, 1) := by decide +kernel
theorem dX6_kinds_1 : decode cX6_kinds 1 = .ok (.iload_n 1, 1) := by decide +kernel
theorem dX6_kinds_2 : decode cX6_kinds 2 = .ok (.invokevirtual 116, 3) := by decide +kernel
theorem dX6_kinds_5 : decode cX6_kinds 5 = .ok (.ifCond .ne 5, 3) := by decide +kernel
theorem dX6_kinds_8 : decode cX6_kinds 8 = .ok (.iconst (-1), 1) := by decide +kernel
theorem dX6_kinds_9 : decode cX6_kinds 9 = .ok (.ireturn, 1) := by decide +kernel
theorem dX6_kinds_10 : decode cX6_kinds 10 = .ok (.aload_n 0, 1) := by decide +kernel
theorem dX6_kinds_11 : decode cX6_kinds 11 = .ok (.iload_n 1, 1) := by decide +kernel
theorem dX6_kinds_12 : decode cX6_kinds 12 = .ok (.invokevirtual 50, 3) := by decide +kernel
theorem dX6_kinds_15 : decode cX6_kinds 15 = .ok (.istore_n 2, 1) := by decide +kernel
theorem dX6_kinds_16 : decode cX6_kinds 16 = .ok (.iconst 0, 1) := by decide +kernel
theorem dX6_kinds_17 : decode cX6_kinds 17 = .ok (.istore_n 3, 1) := by decide +kernel
theorem dX6_kinds_18 : decode cX6_kinds 18 = .ok (.iconst 0, 1) := by decide +kernel
theorem dX6_kinds_19 : decode cX6_kinds 19 = .ok (.istore 4, 2) := by decide +kernel
theorem dX6_kinds_21 : decode cX6_kinds 21 = .ok (.iload 4, 2) := by decide +kernel
theorem dX6_kinds_23 : decode cX6_kinds 23 = .ok (.iconst 3, 1) := by decide +kernel
theorem dX6_kinds_24 : decode cX6_kinds 24 = .ok (.if_icmp .ge 37, 3) := by decide +kernel
theorem dX6_kinds_27 : decode cX6_kinds 27 = .ok (.aload_n 0, 1) := by decide +kernel
theorem dX6_kinds_28 : decode cX6_kinds 28 = .ok (.getfield 19, 3) := by decide +kernel
theorem dX6_kinds_31 : decode cX6_kinds 31 = .ok (.iconst 5, 1) := by decide +kernel
theorem dX6_kinds_32 : decode cX6_kinds 32 = .ok (.iload_n 1, 1) := by decide +kernel
theorem dX6_kinds_33 : decode cX6_kinds 33 = .ok (.imul, 1) := by decide +kernel
theorem dX6_kinds_34 : decode cX6_kinds 34 = .ok (.iload 4, 2) := by decide +kernel
theorem dX6_kinds_36 : decode cX6_kinds 36 = .ok (.iastore, 1) := by decide +kernel
theorem dX6_kinds_37 : decode cX6_kinds 37 = .ok (.iload_n 3, 1) := by decide +kernel
theorem dX6_kinds_38 : decode cX6_kinds 38 = .ok (.aload_n 0, 1) := by decide +kernel
theorem dX6_kinds_39 : decode cX6_kinds 39 = .ok (.invokevirtual 165, 3) := by decide +kernel
theorem dX6_kinds_42 : decode cX6_kinds 42 = .ok (.ifCond .eq 10, 3) := by decide +kernel
theorem dX6_kinds_45 : decode cX6_kinds 45 = .ok (.iconst 1, 1) := by decide +kernel
theorem dX6_kinds_46 : decode cX6_kinds 46 = .ok (.iload 4, 2) := by decide +kernel
theorem dX6_kinds_48 : decode cX6_kinds 48 = .ok (.ishl, 1) := by decide +kernel
theorem dX6_kinds_49 : decode cX6_kinds 49 = .ok (.goto 4, 3) := by decide +kernel
theorem dX6_kinds_52 : decode cX6_kinds 52 = .ok (.iconst 0, 1) := by decide +kernel
theorem dX6_kinds_53 : decode cX6_kinds 53 = .ok (.ior, 1) := by decide +kernel
theorem dX6_kinds_54 : decode cX6_kinds 54 = .ok (.istore_n 3, 1) := by decide +kernel
theorem dX6_kinds_55 : decode cX6_kinds 55 = .ok (.iinc 4 1, 3) := by decide +kernel
theorem dX6_kinds_58 : decode cX6_kinds 58 = .ok (.goto (-37), 3) := by decide +kernel
theorem dX6_kinds_61 : decode cX6_kinds 61 = .ok (.aload_n 0, 1) := by decide +kernel
theorem dX6_kinds_62 : decode cX6_kinds 62 = .ok (.getfield 19, 3) := by decide +kernel
theorem dX6_kinds_65 : decode cX6_kinds 65 = .ok (.iconst 5, 1) := by decide +kernel
theorem dX6_kinds_66 : decode cX6_kinds 66 = .ok (.iload_n 1, 1) := by decide +kernel
theorem dX6_kinds_67 : decode cX6_kinds 67 = .ok (.imul, 1) := by decide +kernel
theorem dX6_kinds_68 : decode cX6_kinds 68 = .ok (.iload_n 2, 1) := by decide +kernel
theorem dX6_kinds_69 : decode cX6_kinds 69 = .ok (.iastore, 1) := by decide +kernel
theorem dX6_kinds_70 : decode cX6_kinds 70 = .ok (.iload_n 3, 1) := by decide +kernel
theorem dX6_kinds_71 : decode cX6_kinds 71 = .ok (.ireturn, 1) := by decide +kernel
theorem dX6_numbers_0 : decode cX6_numbers 0 = .ok (.aload_n 0, 1) := by decide +kernel
theorem dX6_numbers_1 : decode cX6_numbers 1 = .ok (.iload_n 1, 1) := by decide +kernel
theorem dX6_numbers_2 : decode cX6_numbers 2 = .ok (.invokevirtual 116, 3) := by decide +kernel
theorem dX6_numbers_5 : decode cX6_numbers 5 = .ok (.ifCond .ne 5, 3) := by decide +kernel
theorem dX6_numbers_8 : decode cX6_numbers 8 = .ok (.iconst (-1), 1) := by decide +kernel
theorem dX6_numbers_9 : decode cX6_numbers 9 = .ok (.ireturn, 1) := by decide +kernel
theorem dX6_numbers_10 : decode cX6_numbers 10 = .ok (.aload_n 0, 1) := by decide +kernel
theorem dX6_numbers_11 : decode cX6_numbers 11 = .ok (.iload_n 1, 1) := by decide +kernel
theorem dX6_numbers_12 : decode cX6_numbers 12 = .ok (.invokevirtual 54, 3) := by decide +kernel
theorem dX6_numbers_15 : decode cX6_numbers 15 = .ok (.istore_n 2, 1) := by decide +kernel
theorem dX6_numbers_16 : decode cX6_numbers 16 = .ok (.iconst 0, 1) := by decide +kernel
theorem dX6_numbers_17 : decode cX6_numbers 17 = .ok (.istore_n 3, 1) := by decide +kernel
theorem dX6_numbers_18 : decode cX6_numbers 18 = .ok (.iconst 1, 1) := by decide +kernel
theorem dX6_numbers_19 : decode cX6_numbers 19 = .ok (.istore 4, 2) := by decide +kernel
theorem dX6_numbers_21 : decode cX6_numbers 21 = .ok (.iload 4, 2) := by decide +kernel
theorem dX6_numbers_23 : decode cX6_numbers 23 = .ok (.bipush 9, 2) := by decide +kernel
theorem dX6_numbers_25 : decode cX6_numbers 25 = .ok (.if_icmp .gt 39, 3) := by decide +kernel
theorem dX6_numbers_28 : decode cX6_numbers 28 = .ok (.aload_n 0, 1) := by decide +kernel
theorem dX6_numbers_29 : decode cX6_numbers 29 = .ok (.getfield 19, 3) := by decide +kernel
theorem dX6_numbers_32 : decode cX6_numbers 32 = .ok (.iconst 5, 1) := by decide +kernel
theorem dX6_numbers_33 : decode cX6_numbers 33 = .ok (.iload_n 1, 1) := by decide +kernel
theorem dX6_numbers_34 : decode cX6_numbers 34 = .ok (.imul, 1) := by decide +kernel
theorem dX6_numbers_35 : decode cX6_numbers 35 = .ok (.iconst 2, 1) := by decide +kernel
theorem dX6_numbers_36 : decode cX6_numbers 36 = .ok (.iadd, 1) := by decide +kernel
theorem dX6_numbers_37 : decode cX6_numbers 37 = .ok (.iload 4, 2) := by decide +kernel
theorem dX6_numbers_39 : decode cX6_numbers 39 = .ok (.iastore, 1) := by decide +kernel
theorem dX6_numbers_40 : decode cX6_numbers 40 = .ok (.iload_n 3, 1) := by decide +kernel
theorem dX6_numbers_41 : decode cX6_numbers 41 = .ok (.aload_n 0, 1) := by decide +kernel
theorem dX6_numbers_42 : decode cX6_numbers 42 = .ok (.invokevirtual 165, 3) := by decide +kernel
theorem dX6_numbers_45 : decode cX6_numbers 45 = .ok (.ifCond .eq 10, 3) := by decide +kernel
theorem dX6_numbers_48 : decode cX6_numbers 48 = .ok (.iconst 1, 1) := by decide +kernel
theorem dX6_numbers_49 : decode cX6_numbers 49 = .ok (.iload 4, 2) := by decide +kernel
theorem dX6_numbers_51 : decode cX6_numbers 51 = .ok (.ishl, 1) := by decide +kernel
theorem dX6_numbers_52 : decode cX6_numbers 52 = .ok (.goto 4, 3) := by decide +kernel
theorem dX6_numbers_55 : decode cX6_numbers 55 = .ok (.iconst 0, 1) := by decide +kernel
theorem dX6_numbers_56 : decode cX6_numbers 56 = .ok (.ior, 1) := by decide +kernel
theorem dX6_numbers_57 : decode cX6_numbers 57 = .ok (.istore_n 3, 1) := by decide +kernel
theorem dX6_numbers_58 : decode cX6_numbers 58 = .ok (.iinc 4 1, 3) := by decide +kernel
theorem dX6_numbers_61 : decode cX6_numbers 61 = .ok (.goto (-40), 3) := by decide +kernel
theorem dX6_numbers_64 : decode cX6_numbers 64 = .ok (.aload_n 0, 1) := by decide +kernel
theorem dX6_numbers_65 : decode cX6_numbers 65 = .ok (.getfield 19, 3) := by decide +kernel
theorem dX6_numbers_68 : decode cX6_numbers 68 = .ok (.iconst 5, 1) := by decide +kernel
theorem dX6_numbers_69 : decode cX6_numbers 69 = .ok (.iload_n 1, 1) := by decide +kernel
theorem dX6_numbers_70 : decode cX6_numbers 70 = .ok (.imul, 1) := by decide +kernel
theorem dX6_numbers_71 : decode cX6_numbers 71 = .ok (.iconst 2, 1) := by decide +kernel
theorem dX6_numbers_72 : decode cX6_numbers 72 = .ok (.iadd, 1) := by decide +kernel
theorem dX6_numbers_73 : decode cX6_numbers 73 = .ok (.iload_n 2, 1) := by decide +kernel
theorem dX6_numbers_74 : decode cX6_numbers 74 = .ok (.iastore, 1) := by decide +kernel
theorem dX6_numbers_75 : decode cX6_numbers 75 = .ok (.iload_n 3, 1) := by decide +kernel
theorem dX6_numbers_76 : decode cX6_numbers 76 = .ok (.ireturn, 1) := by decide +kernel
theorem dX6_inLeastTerms_0 : decode cX6_inLeastTerms 0 = .ok (.lload_n 0, 1) := by decide +kernel
theorem dX6_inLeastTerms_1 : decode cX6_inLeastTerms 1 = .ok (.lstore 5, 2) := by decide +kernel
theorem dX6_inLeastTerms_3 : decode cX6_inLeastTerms 3 = .ok (.lload_n 2, 1) := by decide +kernel
theorem dX6_inLeastTerms_4 : decode cX6_inLeastTerms 4 = .ok (.lstore 7, 2) := by decide +kernel
theorem dX6_inLeastTerms_6 : decode cX6_inLeastTerms 6 = .ok (.lload 7, 2) := by decide +kernel
theorem dX6_inLeastTerms_8 : decode cX6_inLeastTerms 8 = .ok (.lconst 0, 1) := by decide +kernel
theorem dX6_inLeastTerms_9 : decode cX6_inLeastTerms 9 = .ok (.lcmp, 1) := by decide +kernel
theorem dX6_inLeastTerms_10 : decode cX6_inLeastTerms 10 = .ok (.ifCond .eq 21, 3) := by decide +kernel
theorem dX6_inLeastTerms_13 : decode cX6_inLeastTerms 13 = .ok (.lload 5, 2) := by decide +kernel
theorem dX6_inLeastTerms_15 : decode cX6_inLeastTerms 15 = .ok (.lload 7, 2) := by decide +kernel
theorem dX6_inLeastTerms_17 : decode cX6_inLeastTerms 17 = .ok (.lrem, 1) := by decide +kernel
theorem dX6_inLeastTerms_18 : decode cX6_inLeastTerms 18 = .ok (.lstore 9, 2) := by decide +kernel
theorem dX6_inLeastTerms_20 : decode cX6_inLeastTerms 20 = .ok (.lload 7, 2) := by decide +kernel
theorem dX6_inLeastTerms_22 : decode cX6_inLeastTerms 22 = .ok (.lstore 5, 2) := by decide +kernel
theorem dX6_inLeastTerms_24 : decode cX6_inLeastTerms 24 = .ok (.lload 9, 2) := by decide +kernel
theorem dX6_inLeastTerms_26 : decode cX6_inLeastTerms 26 = .ok (.lstore 7, 2) := by decide +kernel
theorem dX6_inLeastTerms_28 : decode cX6_inLeastTerms 28 = .ok (.goto (-22), 3) := by decide +kernel
theorem dX6_inLeastTerms_31 : decode cX6_inLeastTerms 31 = .ok (.iload 4, 2) := by decide +kernel
theorem dX6_inLeastTerms_33 : decode cX6_inLeastTerms 33 = .ok (.ifCond .ne 10, 3) := by decide +kernel
theorem dX6_inLeastTerms_36 : decode cX6_inLeastTerms 36 = .ok (.lload_n 0, 1) := by decide +kernel
theorem dX6_inLeastTerms_37 : decode cX6_inLeastTerms 37 = .ok (.lload 5, 2) := by decide +kernel
theorem dX6_inLeastTerms_39 : decode cX6_inLeastTerms 39 = .ok (.ldiv, 1) := by decide +kernel
theorem dX6_inLeastTerms_40 : decode cX6_inLeastTerms 40 = .ok (.goto 7, 3) := by decide +kernel
theorem dX6_inLeastTerms_43 : decode cX6_inLeastTerms 43 = .ok (.lload_n 2, 1) := by decide +kernel
theorem dX6_inLeastTerms_44 : decode cX6_inLeastTerms 44 = .ok (.lload 5, 2) := by decide +kernel
theorem dX6_inLeastTerms_46 : decode cX6_inLeastTerms 46 = .ok (.ldiv, 1) := by decide +kernel
theorem dX6_inLeastTerms_47 : decode cX6_inLeastTerms 47 = .ok (.lreturn, 1) := by decide +kernel
theorem dX6_odds_0 : decode cX6_odds 0 = .ok (.iload_n 1, 1) := by decide +kernel
theorem dX6_odds_1 : decode cX6_odds 1 = .ok (.iconst 0, 1) := by decide +kernel
theorem dX6_odds_2 : decode cX6_odds 2 = .ok (.sipush 200, 3) := by decide +kernel
theorem dX6_odds_5 : decode cX6_odds 5 = .ok (.invokestatic 43, 3) := by decide +kernel
theorem dX6_odds_8 : decode cX6_odds 8 = .ok (.ifCond .eq 19, 3) := by decide +kernel
theorem dX6_odds_11 : decode cX6_odds 11 = .ok (.iload_n 2, 1) := by decide +kernel
theorem dX6_odds_12 : decode cX6_odds 12 = .ok (.iconst 0, 1) := by decide +kernel
theorem dX6_odds_13 : decode cX6_odds 13 = .ok (.iconst 1, 1) := by decide +kernel
theorem dX6_odds_14 : decode cX6_odds 14 = .ok (.invokestatic 43, 3) := by decide +kernel
theorem dX6_odds_17 : decode cX6_odds 17 = .ok (.ifCond .eq 10, 3) := by decide +kernel
theorem dX6_odds_20 : decode cX6_odds 20 = .ok (.aload_n 0, 1) := by decide +kernel
theorem dX6_odds_21 : decode cX6_odds 21 = .ok (.getfield 47, 3) := by decide +kernel
theorem dX6_odds_24 : decode cX6_odds 24 = .ok (.ifCond .ne 7, 3) := by decide +kernel
theorem dX6_odds_27 : decode cX6_odds 27 = .ok (.ldc2_w 41, 3) := by decide +kernel
theorem dX6_odds_30 : decode cX6_odds 30 = .ok (.lreturn, 1) := by decide +kernel
theorem dX6_odds_31 : decode cX6_odds 31 = .ok (.iconst 0, 1) := by decide +kernel
theorem dX6_odds_32 : decode cX6_odds 32 = .ok (.istore_n 3, 1) := by decide +kernel
theorem dX6_odds_33 : decode cX6_odds 33 = .ok (.iconst 0, 1) := by decide +kernel
theorem dX6_odds_34 : decode cX6_odds 34 = .ok (.istore 4, 2) := by decide +kernel
theorem dX6_odds_36 : decode cX6_odds 36 = .ok (.iload 4, 2) := by decide +kernel
theorem dX6_odds_38 : decode cX6_odds 38 = .ok (.bipush 26, 2) := by decide +kernel
theorem dX6_odds_40 : decode cX6_odds 40 = .ok (.if_icmp .ge 40, 3) := by decide +kernel
theorem dX6_odds_43 : decode cX6_odds 43 = .ok (.aload_n 0, 1) := by decide +kernel
theorem dX6_odds_44 : decode cX6_odds 44 = .ok (.iload 4, 2) := by decide +kernel
theorem dX6_odds_46 : decode cX6_odds 46 = .ok (.bipush (-9), 2) := by decide +kernel
theorem dX6_odds_48 : decode cX6_odds 48 = .ok (.invokevirtual 132, 3) := by decide +kernel
theorem dX6_odds_51 : decode cX6_odds 51 = .ok (.iload_n 3, 1) := by decide +kernel
theorem dX6_odds_52 : decode cX6_odds 52 = .ok (.aload_n 0, 1) := by decide +kernel
theorem dX6_odds_53 : decode cX6_odds 53 = .ok (.getfield 97, 3) := by decide +kernel
theorem dX6_odds_56 : decode cX6_odds 56 = .ok (.ifCond .ne 15, 3) := by decide +kernel
theorem dX6_odds_59 : decode cX6_odds 59 = .ok (.aload_n 0, 1) := by decide +kernel
theorem dX6_odds_60 : decode cX6_odds 60 = .ok (.getfield 100, 3) := by decide +kernel
theorem dX6_odds_63 : decode cX6_odds 63 = .ok (.iload_n 1, 1) := by decide +kernel
theorem dX6_odds_64 : decode cX6_odds 64 = .ok (.if_icmp .lt 7, 3) := by decide +kernel
theorem dX6_odds_67 : decode cX6_odds 67 = .ok (.iconst 1, 1) := by decide +kernel
theorem dX6_odds_68 : decode cX6_odds 68 = .ok (.goto 4, 3) := by decide +kernel
theorem dX6_odds_71 : decode cX6_odds 71 = .ok (.iconst 0, 1) := by decide +kernel
theorem dX6_odds_72 : decode cX6_odds 72 = .ok (.iadd, 1) := by decide +kernel
theorem dX6_odds_73 : decode cX6_odds 73 = .ok (.istore_n 3, 1) := by decide +kernel
theorem dX6_odds_74 : decode cX6_odds 74 = .ok (.iinc 4 1, 3) := by decide +kernel
theorem dX6_odds_77 : decode cX6_odds 77 = .ok (.goto (-41), 3) := by decide +kernel
theorem dX6_odds_80 : decode cX6_odds 80 = .ok (.iload_n 3, 1) := by decide +kernel
theorem dX6_odds_81 : decode cX6_odds 81 = .ok (.i2l, 1) := by decide +kernel
theorem dX6_odds_82 : decode cX6_odds 82 = .ok (.ldc2_w 169, 3) := by decide +kernel
theorem dX6_odds_85 : decode cX6_odds 85 = .ok (.iload_n 2, 1) := by decide +kernel
theorem dX6_odds_86 : decode cX6_odds 86 = .ok (.invokestatic 171, 3) := by decide +kernel
theorem dX6_odds_89 : decode cX6_odds 89 = .ok (.lreturn, 1) := by decide +kernel
theorem dX6_sheet_0 : decode cX6_sheet 0 = .ok (.aload_n 0, 1) := by decide +kernel
theorem dX6_sheet_1 : decode cX6_sheet 1 = .ok (.iconst 0, 1) := by decide +kernel
theorem dX6_sheet_2 : decode cX6_sheet 2 = .ok (.putfield 37, 3) := by decide +kernel
theorem dX6_sheet_5 : decode cX6_sheet 5 = .ok (.iload_n 1, 1) := by decide +kernel
theorem dX6_sheet_6 : decode cX6_sheet 6 = .ok (.invokestatic 57, 3) := by decide +kernel
theorem dX6_sheet_9 : decode cX6_sheet 9 = .ok (.ifCond .ne 5, 3) := by decide +kernel
theorem dX6_sheet_12 : decode cX6_sheet 12 = .ok (.iconst (-1), 1) := by decide +kernel
theorem dX6_sheet_13 : decode cX6_sheet 13 = .ok (.ireturn, 1) := by decide +kernel
theorem dX6_sheet_14 : decode cX6_sheet 14 = .ok (.iload_n 2, 1) := by decide +kernel
theorem dX6_sheet_15 : decode cX6_sheet 15 = .ok (.invokestatic 61, 3) := by decide +kernel
theorem dX6_sheet_18 : decode cX6_sheet 18 = .ok (.ifCond .eq 9, 3) := by decide +kernel
theorem dX6_sheet_21 : decode cX6_sheet 21 = .ok (.iload_n 3, 1) := by decide +kernel
theorem dX6_sheet_22 : decode cX6_sheet 22 = .ok (.bipush 60, 2) := by decide +kernel
theorem dX6_sheet_24 : decode cX6_sheet 24 = .ok (.if_icmp .le 6, 3) := by decide +kernel
theorem dX6_sheet_27 : decode cX6_sheet 27 = .ok (.bipush (-2), 2) := by decide +kernel
theorem dX6_sheet_29 : decode cX6_sheet 29 = .ok (.ireturn, 1) := by decide +kernel
theorem dX6_sheet_30 : decode cX6_sheet 30 = .ok (.iload_n 3, 1) := by decide +kernel
theorem dX6_sheet_31 : decode cX6_sheet 31 = .ok (.ifCond .ge 9, 3) := by decide +kernel
theorem dX6_sheet_34 : decode cX6_sheet 34 = .ok (.aload_n 0, 1) := by decide +kernel
theorem dX6_sheet_35 : decode cX6_sheet 35 = .ok (.iconst 4, 1) := by decide +kernel
theorem dX6_sheet_36 : decode cX6_sheet 36 = .ok (.invokevirtual 68, 3) := by decide +kernel
theorem dX6_sheet_39 : decode cX6_sheet 39 = .ok (.ireturn, 1) := by decide +kernel
theorem dX6_sheet_40 : decode cX6_sheet 40 = .ok (.aload_n 0, 1) := by decide +kernel
theorem dX6_sheet_41 : decode cX6_sheet 41 = .ok (.getfield 9, 3) := by decide +kernel
theorem dX6_sheet_44 : decode cX6_sheet 44 = .ok (.iload_n 1, 1) := by decide +kernel
theorem dX6_sheet_45 : decode cX6_sheet 45 = .ok (.iload_n 2, 1) := by decide +kernel
theorem dX6_sheet_46 : decode cX6_sheet 46 = .ok (.iastore, 1) := by decide +kernel
theorem dX6_sheet_47 : decode cX6_sheet 47 = .ok (.aload_n 0, 1) := by decide +kernel
theorem dX6_sheet_48 : decode cX6_sheet 48 = .ok (.getfield 13, 3) := by decide +kernel
theorem dX6_sheet_51 : decode cX6_sheet 51 = .ok (.iload_n 1, 1) := by decide +kernel
theorem dX6_sheet_52 : decode cX6_sheet 52 = .ok (.iload_n 3, 1) := by decide +kernel
theorem dX6_sheet_53 : decode cX6_sheet 53 = .ok (.iastore, 1) := by decide +kernel
theorem dX6_sheet_54 : decode cX6_sheet 54 = .ok (.iconst 0, 1) := by decide +kernel
theorem dX6_sheet_55 : decode cX6_sheet 55 = .ok (.istore 4, 2) := by decide +kernel
theorem dX6_sheet_57 : decode cX6_sheet 57 = .ok (.iload 4, 2) := by decide +kernel
theorem dX6_sheet_59 : decode cX6_sheet 59 = .ok (.bipush 60, 2) := by decide +kernel
theorem dX6_sheet_61 : decode cX6_sheet 61 = .ok (.if_icmp .ge 22, 3) := by decide +kernel
theorem dX6_sheet_64 : decode cX6_sheet 64 = .ok (.aload_n 0, 1) := by decide +kernel
theorem dX6_sheet_65 : decode cX6_sheet 65 = .ok (.getfield 16, 3) := by decide +kernel
theorem dX6_sheet_68 : decode cX6_sheet 68 = .ok (.bipush 60, 2) := by decide +kernel
theorem dX6_sheet_70 : decode cX6_sheet 70 = .ok (.iload_n 1, 1) := by decide +kernel
theorem dX6_sheet_71 : decode cX6_sheet 71 = .ok (.imul, 1) := by decide +kernel
theorem dX6_sheet_72 : decode cX6_sheet 72 = .ok (.iload 4, 2) := by decide +kernel
theorem dX6_sheet_74 : decode cX6_sheet 74 = .ok (.iadd, 1) := by decide +kernel
theorem dX6_sheet_75 : decode cX6_sheet 75 = .ok (.iconst 0, 1) := by decide +kernel
theorem dX6_sheet_76 : decode cX6_sheet 76 = .ok (.iastore, 1) := by decide +kernel
theorem dX6_sheet_77 : decode cX6_sheet 77 = .ok (.iinc 4 1, 3) := by decide +kernel
theorem dX6_sheet_80 : decode cX6_sheet 80 = .ok (.goto (-23), 3) := by decide +kernel
theorem dX6_sheet_83 : decode cX6_sheet 83 = .ok (.iconst 1, 1) := by decide +kernel
theorem dX6_sheet_84 : decode cX6_sheet 84 = .ok (.ireturn, 1) := by decide +kernel
theorem dX6_lose_0 : decode cX6_lose 0 = .ok (.iload_n 1, 1) := by decide +kernel
theorem dX6_lose_1 : decode cX6_lose 1 = .ok (.invokestatic 57, 3) := by decide +kernel
theorem dX6_lose_4 : decode cX6_lose 4 = .ok (.ifCond .ne 5, 3) := by decide +kernel
theorem dX6_lose_7 : decode cX6_lose 7 = .ok (.iconst (-1), 1) := by decide +kernel
theorem dX6_lose_8 : decode cX6_lose 8 = .ok (.ireturn, 1) := by decide +kernel
theorem dX6_lose_9 : decode cX6_lose 9 = .ok (.aload_n 0, 1) := by decide +kernel
theorem dX6_lose_10 : decode cX6_lose 10 = .ok (.getfield 9, 3) := by decide +kernel
theorem dX6_lose_13 : decode cX6_lose 13 = .ok (.iload_n 1, 1) := by decide +kernel
theorem dX6_lose_14 : decode cX6_lose 14 = .ok (.iaload, 1) := by decide +kernel
theorem dX6_lose_15 : decode cX6_lose 15 = .ok (.bipush (-9), 2) := by decide +kernel
theorem dX6_lose_17 : decode cX6_lose 17 = .ok (.if_icmp .ne 7, 3) := by decide +kernel
theorem dX6_lose_20 : decode cX6_lose 20 = .ok (.iconst 0, 1) := by decide +kernel
theorem dX6_lose_21 : decode cX6_lose 21 = .ok (.goto 4, 3) := by decide +kernel
theorem dX6_lose_24 : decode cX6_lose 24 = .ok (.iconst 1, 1) := by decide +kernel
theorem dX6_lose_25 : decode cX6_lose 25 = .ok (.istore_n 2, 1) := by decide +kernel
theorem dX6_lose_26 : decode cX6_lose 26 = .ok (.aload_n 0, 1) := by decide +kernel
theorem dX6_lose_27 : decode cX6_lose 27 = .ok (.getfield 9, 3) := by decide +kernel
theorem dX6_lose_30 : decode cX6_lose 30 = .ok (.iload_n 1, 1) := by decide +kernel
theorem dX6_lose_31 : decode cX6_lose 31 = .ok (.bipush (-9), 2) := by decide +kernel
theorem dX6_lose_33 : decode cX6_lose 33 = .ok (.iastore, 1) := by decide +kernel
theorem dX6_lose_34 : decode cX6_lose 34 = .ok (.iload_n 2, 1) := by decide +kernel
theorem dX6_lose_35 : decode cX6_lose 35 = .ok (.ireturn, 1) := by decide +kernel
theorem dX6_put_0 : decode cX6_put 0 = .ok (.aload_n 0, 1) := by decide +kernel
theorem dX6_put_1 : decode cX6_put 1 = .ok (.iconst 0, 1) := by decide +kernel
theorem dX6_put_2 : decode cX6_put 2 = .ok (.putfield 37, 3) := by decide +kernel
theorem dX6_put_5 : decode cX6_put 5 = .ok (.iload_n 1, 1) := by decide +kernel
theorem dX6_put_6 : decode cX6_put 6 = .ok (.invokestatic 57, 3) := by decide +kernel
theorem dX6_put_9 : decode cX6_put 9 = .ok (.ifCond .ne 5, 3) := by decide +kernel
theorem dX6_put_12 : decode cX6_put 12 = .ok (.iconst (-1), 1) := by decide +kernel
theorem dX6_put_13 : decode cX6_put 13 = .ok (.ireturn, 1) := by decide +kernel
theorem dX6_put_14 : decode cX6_put 14 = .ok (.aload_n 0, 1) := by decide +kernel
theorem dX6_put_15 : decode cX6_put 15 = .ok (.getfield 9, 3) := by decide +kernel
theorem dX6_put_18 : decode cX6_put 18 = .ok (.iload_n 1, 1) := by decide +kernel
theorem dX6_put_19 : decode cX6_put 19 = .ok (.iaload, 1) := by decide +kernel
theorem dX6_put_20 : decode cX6_put 20 = .ok (.bipush (-9), 2) := by decide +kernel
theorem dX6_put_22 : decode cX6_put 22 = .ok (.if_icmp .ne 9, 3) := by decide +kernel
theorem dX6_put_25 : decode cX6_put 25 = .ok (.aload_n 0, 1) := by decide +kernel
theorem dX6_put_26 : decode cX6_put 26 = .ok (.iconst 1, 1) := by decide +kernel
theorem dX6_put_27 : decode cX6_put 27 = .ok (.invokevirtual 68, 3) := by decide +kernel
theorem dX6_put_30 : decode cX6_put 30 = .ok (.ireturn, 1) := by decide +kernel
theorem dX6_put_31 : decode cX6_put 31 = .ok (.iload_n 2, 1) := by decide +kernel
theorem dX6_put_32 : decode cX6_put 32 = .ok (.iconst 0, 1) := by decide +kernel
theorem dX6_put_33 : decode cX6_put 33 = .ok (.aload_n 0, 1) := by decide +kernel
theorem dX6_put_34 : decode cX6_put 34 = .ok (.getfield 13, 3) := by decide +kernel
theorem dX6_put_37 : decode cX6_put 37 = .ok (.iload_n 1, 1) := by decide +kernel
theorem dX6_put_38 : decode cX6_put 38 = .ok (.iaload, 1) := by decide +kernel
theorem dX6_put_39 : decode cX6_put 39 = .ok (.iconst 1, 1) := by decide +kernel
theorem dX6_put_40 : decode cX6_put 40 = .ok (.isub, 1) := by decide +kernel
theorem dX6_put_41 : decode cX6_put 41 = .ok (.invokestatic 43, 3) := by decide +kernel
theorem dX6_put_44 : decode cX6_put 44 = .ok (.ifCond .ne 9, 3) := by decide +kernel
theorem dX6_put_47 : decode cX6_put 47 = .ok (.aload_n 0, 1) := by decide +kernel
theorem dX6_put_48 : decode cX6_put 48 = .ok (.iconst 3, 1) := by decide +kernel
theorem dX6_put_49 : decode cX6_put 49 = .ok (.invokevirtual 68, 3) := by decide +kernel
theorem dX6_put_52 : decode cX6_put 52 = .ok (.ireturn, 1) := by decide +kernel
theorem dX6_put_53 : decode cX6_put 53 = .ok (.aload_n 0, 1) := by decide +kernel
theorem dX6_put_54 : decode cX6_put 54 = .ok (.getfield 16, 3) := by decide +kernel
theorem dX6_put_57 : decode cX6_put 57 = .ok (.bipush 60, 2) := by decide +kernel
theorem dX6_put_59 : decode cX6_put 59 = .ok (.iload_n 1, 1) := by decide +kernel
theorem dX6_put_60 : decode cX6_put 60 = .ok (.imul, 1) := by decide +kernel
theorem dX6_put_61 : decode cX6_put 61 = .ok (.iload_n 2, 1) := by decide +kernel
theorem dX6_put_62 : decode cX6_put 62 = .ok (.iadd, 1) := by decide +kernel
theorem dX6_put_63 : decode cX6_put 63 = .ok (.aload_n 0, 1) := by decide +kernel
theorem dX6_put_64 : decode cX6_put 64 = .ok (.getfield 9, 3) := by decide +kernel
theorem dX6_put_67 : decode cX6_put 67 = .ok (.iload_n 1, 1) := by decide +kernel
theorem dX6_put_68 : decode cX6_put 68 = .ok (.iaload, 1) := by decide +kernel
theorem dX6_put_69 : decode cX6_put 69 = .ok (.ifCond .ne 8, 3) := by decide +kernel
theorem dX6_put_72 : decode cX6_put 72 = .ok (.iload_n 3, 1) := by decide +kernel
theorem dX6_put_73 : decode cX6_put 73 = .ok (.i2b, 1) := by decide +kernel
theorem dX6_put_74 : decode cX6_put 74 = .ok (.goto 19, 3) := by decide +kernel
theorem dX6_put_77 : decode cX6_put 77 = .ok (.aload_n 0, 1) := by decide +kernel
theorem dX6_put_78 : decode cX6_put 78 = .ok (.getfield 9, 3) := by decide +kernel
theorem dX6_put_81 : decode cX6_put 81 = .ok (.iload_n 1, 1) := by decide +kernel
theorem dX6_put_82 : decode cX6_put 82 = .ok (.iaload, 1) := by decide +kernel
theorem dX6_put_83 : decode cX6_put 83 = .ok (.iconst 1, 1) := by decide +kernel
theorem dX6_put_84 : decode cX6_put 84 = .ok (.if_icmp .ne 8, 3) := by decide +kernel
theorem dX6_put_87 : decode cX6_put 87 = .ok (.iload_n 3, 1) := by decide +kernel
theorem dX6_put_88 : decode cX6_put 88 = .ok (.i2s, 1) := by decide +kernel
theorem dX6_put_89 : decode cX6_put 89 = .ok (.goto 4, 3) := by decide +kernel
theorem dX6_put_92 : decode cX6_put 92 = .ok (.iload_n 3, 1) := by decide +kernel
theorem dX6_put_93 : decode cX6_put 93 = .ok (.iastore, 1) := by decide +kernel
theorem dX6_put_94 : decode cX6_put 94 = .ok (.iconst 1, 1) := by decide +kernel
theorem dX6_put_95 : decode cX6_put 95 = .ok (.ireturn, 1) := by decide +kernel
theorem dX6_cell_0 : decode cX6_cell 0 = .ok (.aload_n 0, 1) := by decide +kernel
theorem dX6_cell_1 : decode cX6_cell 1 = .ok (.iconst 0, 1) := by decide +kernel
theorem dX6_cell_2 : decode cX6_cell 2 = .ok (.putfield 37, 3) := by decide +kernel
theorem dX6_cell_5 : decode cX6_cell 5 = .ok (.iload_n 1, 1) := by decide +kernel
theorem dX6_cell_6 : decode cX6_cell 6 = .ok (.invokestatic 57, 3) := by decide +kernel
theorem dX6_cell_9 : decode cX6_cell 9 = .ok (.ifCond .eq 10, 3) := by decide +kernel
theorem dX6_cell_12 : decode cX6_cell 12 = .ok (.iload_n 3, 1) := by decide +kernel
theorem dX6_cell_13 : decode cX6_cell 13 = .ok (.invokestatic 61, 3) := by decide +kernel
theorem dX6_cell_16 : decode cX6_cell 16 = .ok (.ifCond .ne 7, 3) := by decide +kernel
theorem dX6_cell_19 : decode cX6_cell 19 = .ok (.ldc2_w 41, 3) := by decide +kernel
theorem dX6_cell_22 : decode cX6_cell 22 = .ok (.lreturn, 1) := by decide +kernel
theorem dX6_cell_23 : decode cX6_cell 23 = .ok (.aload_n 0, 1) := by decide +kernel
theorem dX6_cell_24 : decode cX6_cell 24 = .ok (.getfield 9, 3) := by decide +kernel
theorem dX6_cell_27 : decode cX6_cell 27 = .ok (.iload_n 1, 1) := by decide +kernel
theorem dX6_cell_28 : decode cX6_cell 28 = .ok (.iaload, 1) := by decide +kernel
theorem dX6_cell_29 : decode cX6_cell 29 = .ok (.bipush (-9), 2) := by decide +kernel
theorem dX6_cell_31 : decode cX6_cell 31 = .ok (.if_icmp .eq 19, 3) := by decide +kernel
theorem dX6_cell_34 : decode cX6_cell 34 = .ok (.aload_n 0, 1) := by decide +kernel
theorem dX6_cell_35 : decode cX6_cell 35 = .ok (.getfield 9, 3) := by decide +kernel
theorem dX6_cell_38 : decode cX6_cell 38 = .ok (.iload_n 1, 1) := by decide +kernel
theorem dX6_cell_39 : decode cX6_cell 39 = .ok (.iaload, 1) := by decide +kernel
theorem dX6_cell_40 : decode cX6_cell 40 = .ok (.iload_n 3, 1) := by decide +kernel
theorem dX6_cell_41 : decode cX6_cell 41 = .ok (.if_icmp .eq 9, 3) := by decide +kernel
theorem dX6_cell_44 : decode cX6_cell 44 = .ok (.aload_n 0, 1) := by decide +kernel
theorem dX6_cell_45 : decode cX6_cell 45 = .ok (.iconst 2, 1) := by decide +kernel
theorem dX6_cell_46 : decode cX6_cell 46 = .ok (.invokevirtual 175, 3) := by decide +kernel
theorem dX6_cell_49 : decode cX6_cell 49 = .ok (.lreturn, 1) := by decide +kernel
theorem dX6_cell_50 : decode cX6_cell 50 = .ok (.aload_n 0, 1) := by decide +kernel
theorem dX6_cell_51 : decode cX6_cell 51 = .ok (.getfield 9, 3) := by decide +kernel
theorem dX6_cell_54 : decode cX6_cell 54 = .ok (.iload_n 1, 1) := by decide +kernel
theorem dX6_cell_55 : decode cX6_cell 55 = .ok (.iaload, 1) := by decide +kernel
theorem dX6_cell_56 : decode cX6_cell 56 = .ok (.bipush (-9), 2) := by decide +kernel
theorem dX6_cell_58 : decode cX6_cell 58 = .ok (.if_icmp .ne 9, 3) := by decide +kernel
theorem dX6_cell_61 : decode cX6_cell 61 = .ok (.aload_n 0, 1) := by decide +kernel
theorem dX6_cell_62 : decode cX6_cell 62 = .ok (.iconst 1, 1) := by decide +kernel
theorem dX6_cell_63 : decode cX6_cell 63 = .ok (.invokevirtual 175, 3) := by decide +kernel
theorem dX6_cell_66 : decode cX6_cell 66 = .ok (.lreturn, 1) := by decide +kernel
theorem dX6_cell_67 : decode cX6_cell 67 = .ok (.iload_n 2, 1) := by decide +kernel
theorem dX6_cell_68 : decode cX6_cell 68 = .ok (.iconst 0, 1) := by decide +kernel
theorem dX6_cell_69 : decode cX6_cell 69 = .ok (.aload_n 0, 1) := by decide +kernel
theorem dX6_cell_70 : decode cX6_cell 70 = .ok (.getfield 13, 3) := by decide +kernel
theorem dX6_cell_73 : decode cX6_cell 73 = .ok (.iload_n 1, 1) := by decide +kernel
theorem dX6_cell_74 : decode cX6_cell 74 = .ok (.iaload, 1) := by decide +kernel
theorem dX6_cell_75 : decode cX6_cell 75 = .ok (.iconst 1, 1) := by decide +kernel
theorem dX6_cell_76 : decode cX6_cell 76 = .ok (.isub, 1) := by decide +kernel
theorem dX6_cell_77 : decode cX6_cell 77 = .ok (.invokestatic 43, 3) := by decide +kernel
theorem dX6_cell_80 : decode cX6_cell 80 = .ok (.ifCond .ne 9, 3) := by decide +kernel
theorem dX6_cell_83 : decode cX6_cell 83 = .ok (.aload_n 0, 1) := by decide +kernel
theorem dX6_cell_84 : decode cX6_cell 84 = .ok (.iconst 3, 1) := by decide +kernel
theorem dX6_cell_85 : decode cX6_cell 85 = .ok (.invokevirtual 175, 3) := by decide +kernel
theorem dX6_cell_88 : decode cX6_cell 88 = .ok (.lreturn, 1) := by decide +kernel
theorem dX6_cell_89 : decode cX6_cell 89 = .ok (.aload_n 0, 1) := by decide +kernel
theorem dX6_cell_90 : decode cX6_cell 90 = .ok (.getfield 16, 3) := by decide +kernel
theorem dX6_cell_93 : decode cX6_cell 93 = .ok (.bipush 60, 2) := by decide +kernel
theorem dX6_cell_95 : decode cX6_cell 95 = .ok (.iload_n 1, 1) := by decide +kernel
theorem dX6_cell_96 : decode cX6_cell 96 = .ok (.imul, 1) := by decide +kernel
theorem dX6_cell_97 : decode cX6_cell 97 = .ok (.iload_n 2, 1) := by decide +kernel
theorem dX6_cell_98 : decode cX6_cell 98 = .ok (.iadd, 1) := by decide +kernel
theorem dX6_cell_99 : decode cX6_cell 99 = .ok (.iaload, 1) := by decide +kernel
theorem dX6_cell_100 : decode cX6_cell 100 = .ok (.i2l, 1) := by decide +kernel
theorem dX6_cell_101 : decode cX6_cell 101 = .ok (.lreturn, 1) := by decide +kernel
theorem dX6_copy_0 : decode cX6_copy 0 = .ok (.aload_n 0, 1) := by decide +kernel
theorem dX6_copy_1 : decode cX6_copy 1 = .ok (.iconst 0, 1) := by decide +kernel
theorem dX6_copy_2 : decode cX6_copy 2 = .ok (.putfield 37, 3) := by decide +kernel
theorem dX6_copy_5 : decode cX6_copy 5 = .ok (.iload_n 1, 1) := by decide +kernel
theorem dX6_copy_6 : decode cX6_copy 6 = .ok (.invokestatic 57, 3) := by decide +kernel
theorem dX6_copy_9 : decode cX6_copy 9 = .ok (.ifCond .eq 10, 3) := by decide +kernel
theorem dX6_copy_12 : decode cX6_copy 12 = .ok (.iload_n 3, 1) := by decide +kernel
theorem dX6_copy_13 : decode cX6_copy 13 = .ok (.invokestatic 57, 3) := by decide +kernel
theorem dX6_copy_16 : decode cX6_copy 16 = .ok (.ifCond .ne 5, 3) := by decide +kernel
theorem dX6_copy_19 : decode cX6_copy 19 = .ok (.iconst (-1), 1) := by decide +kernel
theorem dX6_copy_20 : decode cX6_copy 20 = .ok (.ireturn, 1) := by decide +kernel
theorem dX6_copy_21 : decode cX6_copy 21 = .ok (.aload_n 0, 1) := by decide +kernel
theorem dX6_copy_22 : decode cX6_copy 22 = .ok (.getfield 9, 3) := by decide +kernel
theorem dX6_copy_25 : decode cX6_copy 25 = .ok (.iload_n 1, 1) := by decide +kernel
theorem dX6_copy_26 : decode cX6_copy 26 = .ok (.iaload, 1) := by decide +kernel
theorem dX6_copy_27 : decode cX6_copy 27 = .ok (.bipush (-9), 2) := by decide +kernel
theorem dX6_copy_29 : decode cX6_copy 29 = .ok (.if_icmp .eq 14, 3) := by decide +kernel
theorem dX6_copy_32 : decode cX6_copy 32 = .ok (.aload_n 0, 1) := by decide +kernel
theorem dX6_copy_33 : decode cX6_copy 33 = .ok (.getfield 9, 3) := by decide +kernel
theorem dX6_copy_36 : decode cX6_copy 36 = .ok (.iload_n 3, 1) := by decide +kernel
theorem dX6_copy_37 : decode cX6_copy 37 = .ok (.iaload, 1) := by decide +kernel
theorem dX6_copy_38 : decode cX6_copy 38 = .ok (.bipush (-9), 2) := by decide +kernel
theorem dX6_copy_40 : decode cX6_copy 40 = .ok (.if_icmp .ne 9, 3) := by decide +kernel
theorem dX6_copy_43 : decode cX6_copy 43 = .ok (.aload_n 0, 1) := by decide +kernel
theorem dX6_copy_44 : decode cX6_copy 44 = .ok (.iconst 1, 1) := by decide +kernel
theorem dX6_copy_45 : decode cX6_copy 45 = .ok (.invokevirtual 68, 3) := by decide +kernel
theorem dX6_copy_48 : decode cX6_copy 48 = .ok (.ireturn, 1) := by decide +kernel
theorem dX6_copy_49 : decode cX6_copy 49 = .ok (.aload_n 0, 1) := by decide +kernel
theorem dX6_copy_50 : decode cX6_copy 50 = .ok (.getfield 9, 3) := by decide +kernel
theorem dX6_copy_53 : decode cX6_copy 53 = .ok (.iload_n 1, 1) := by decide +kernel
theorem dX6_copy_54 : decode cX6_copy 54 = .ok (.iaload, 1) := by decide +kernel
theorem dX6_copy_55 : decode cX6_copy 55 = .ok (.aload_n 0, 1) := by decide +kernel
theorem dX6_copy_56 : decode cX6_copy 56 = .ok (.getfield 9, 3) := by decide +kernel
theorem dX6_copy_59 : decode cX6_copy 59 = .ok (.iload_n 3, 1) := by decide +kernel
theorem dX6_copy_60 : decode cX6_copy 60 = .ok (.iaload, 1) := by decide +kernel
theorem dX6_copy_61 : decode cX6_copy 61 = .ok (.if_icmp .eq 9, 3) := by decide +kernel
theorem dX6_copy_64 : decode cX6_copy 64 = .ok (.aload_n 0, 1) := by decide +kernel
theorem dX6_copy_65 : decode cX6_copy 65 = .ok (.iconst 2, 1) := by decide +kernel
theorem dX6_copy_66 : decode cX6_copy 66 = .ok (.invokevirtual 68, 3) := by decide +kernel
theorem dX6_copy_69 : decode cX6_copy 69 = .ok (.ireturn, 1) := by decide +kernel
theorem dX6_copy_70 : decode cX6_copy 70 = .ok (.iload_n 2, 1) := by decide +kernel
theorem dX6_copy_71 : decode cX6_copy 71 = .ok (.ifCond .lt 38, 3) := by decide +kernel
theorem dX6_copy_74 : decode cX6_copy 74 = .ok (.iload 4, 2) := by decide +kernel
theorem dX6_copy_76 : decode cX6_copy 76 = .ok (.ifCond .lt 33, 3) := by decide +kernel
theorem dX6_copy_79 : decode cX6_copy 79 = .ok (.iload 5, 2) := by decide +kernel
theorem dX6_copy_81 : decode cX6_copy 81 = .ok (.ifCond .lt 28, 3) := by decide +kernel
theorem dX6_copy_84 : decode cX6_copy 84 = .ok (.iload_n 2, 1) := by decide +kernel
theorem dX6_copy_85 : decode cX6_copy 85 = .ok (.aload_n 0, 1) := by decide +kernel
theorem dX6_copy_86 : decode cX6_copy 86 = .ok (.getfield 13, 3) := by decide +kernel
theorem dX6_copy_89 : decode cX6_copy 89 = .ok (.iload_n 1, 1) := by decide +kernel
theorem dX6_copy_90 : decode cX6_copy 90 = .ok (.iaload, 1) := by decide +kernel
theorem dX6_copy_91 : decode cX6_copy 91 = .ok (.if_icmp .gt 18, 3) := by decide +kernel
theorem dX6_copy_94 : decode cX6_copy 94 = .ok (.iload 4, 2) := by decide +kernel
theorem dX6_copy_96 : decode cX6_copy 96 = .ok (.aload_n 0, 1) := by decide +kernel
theorem dX6_copy_97 : decode cX6_copy 97 = .ok (.getfield 13, 3) := by decide +kernel
theorem dX6_copy_100 : decode cX6_copy 100 = .ok (.iload_n 3, 1) := by decide +kernel
theorem dX6_copy_101 : decode cX6_copy 101 = .ok (.iaload, 1) := by decide +kernel
theorem dX6_copy_102 : decode cX6_copy 102 = .ok (.if_icmp .gt 7, 3) := by decide +kernel
theorem dX6_copy_105 : decode cX6_copy 105 = .ok (.iconst 1, 1) := by decide +kernel
theorem dX6_copy_106 : decode cX6_copy 106 = .ok (.goto 4, 3) := by decide +kernel
theorem dX6_copy_109 : decode cX6_copy 109 = .ok (.iconst 0, 1) := by decide +kernel
theorem dX6_copy_110 : decode cX6_copy 110 = .ok (.istore 6, 2) := by decide +kernel
theorem dX6_copy_112 : decode cX6_copy 112 = .ok (.iload 6, 2) := by decide +kernel
theorem dX6_copy_114 : decode cX6_copy 114 = .ok (.ifCond .eq 30, 3) := by decide +kernel
theorem dX6_copy_117 : decode cX6_copy 117 = .ok (.iload 5, 2) := by decide +kernel
theorem dX6_copy_119 : decode cX6_copy 119 = .ok (.aload_n 0, 1) := by decide +kernel
theorem dX6_copy_120 : decode cX6_copy 120 = .ok (.getfield 13, 3) := by decide +kernel
theorem dX6_copy_123 : decode cX6_copy 123 = .ok (.iload_n 1, 1) := by decide +kernel
theorem dX6_copy_124 : decode cX6_copy 124 = .ok (.iaload, 1) := by decide +kernel
theorem dX6_copy_125 : decode cX6_copy 125 = .ok (.iload_n 2, 1) := by decide +kernel
theorem dX6_copy_126 : decode cX6_copy 126 = .ok (.isub, 1) := by decide +kernel
theorem dX6_copy_127 : decode cX6_copy 127 = .ok (.if_icmp .gt 17, 3) := by decide +kernel
theorem dX6_copy_130 : decode cX6_copy 130 = .ok (.iload 5, 2) := by decide +kernel
theorem dX6_copy_132 : decode cX6_copy 132 = .ok (.aload_n 0, 1) := by decide +kernel
theorem dX6_copy_133 : decode cX6_copy 133 = .ok (.getfield 13, 3) := by decide +kernel
theorem dX6_copy_136 : decode cX6_copy 136 = .ok (.iload_n 3, 1) := by decide +kernel
theorem dX6_copy_137 : decode cX6_copy 137 = .ok (.iaload, 1) := by decide +kernel
theorem dX6_copy_138 : decode cX6_copy 138 = .ok (.iload 4, 2) := by decide +kernel
theorem dX6_copy_140 : decode cX6_copy 140 = .ok (.isub, 1) := by decide +kernel
theorem dX6_copy_141 : decode cX6_copy 141 = .ok (.if_icmp .le 9, 3) := by decide +kernel
theorem dX6_copy_144 : decode cX6_copy 144 = .ok (.aload_n 0, 1) := by decide +kernel
theorem dX6_copy_145 : decode cX6_copy 145 = .ok (.iconst 3, 1) := by decide +kernel
theorem dX6_copy_146 : decode cX6_copy 146 = .ok (.invokevirtual 68, 3) := by decide +kernel
theorem dX6_copy_149 : decode cX6_copy 149 = .ok (.ireturn, 1) := by decide +kernel
theorem dX6_copy_150 : decode cX6_copy 150 = .ok (.iload_n 2, 1) := by decide +kernel
theorem dX6_copy_151 : decode cX6_copy 151 = .ok (.iload 4, 2) := by decide +kernel
theorem dX6_copy_153 : decode cX6_copy 153 = .ok (.if_icmp .ge 7, 3) := by decide +kernel
theorem dX6_copy_156 : decode cX6_copy 156 = .ok (.iconst 1, 1) := by decide +kernel
theorem dX6_copy_157 : decode cX6_copy 157 = .ok (.goto 4, 3) := by decide +kernel
theorem dX6_copy_160 : decode cX6_copy 160 = .ok (.iconst 0, 1) := by decide +kernel
theorem dX6_copy_161 : decode cX6_copy 161 = .ok (.istore 7, 2) := by decide +kernel
theorem dX6_copy_163 : decode cX6_copy 163 = .ok (.iconst 0, 1) := by decide +kernel
theorem dX6_copy_164 : decode cX6_copy 164 = .ok (.istore 8, 2) := by decide +kernel
theorem dX6_copy_166 : decode cX6_copy 166 = .ok (.iload 8, 2) := by decide +kernel
theorem dX6_copy_168 : decode cX6_copy 168 = .ok (.iload 5, 2) := by decide +kernel
theorem dX6_copy_170 : decode cX6_copy 170 = .ok (.if_icmp .ge 57, 3) := by decide +kernel
theorem dX6_copy_173 : decode cX6_copy 173 = .ok (.iload 7, 2) := by decide +kernel
theorem dX6_copy_175 : decode cX6_copy 175 = .ok (.ifCond .eq 13, 3) := by decide +kernel
theorem dX6_copy_178 : decode cX6_copy 178 = .ok (.iload 5, 2) := by decide +kernel
theorem dX6_copy_180 : decode cX6_copy 180 = .ok (.iconst 1, 1) := by decide +kernel
theorem dX6_copy_181 : decode cX6_copy 181 = .ok (.isub, 1) := by decide +kernel
theorem dX6_copy_182 : decode cX6_copy 182 = .ok (.iload 8, 2) := by decide +kernel
theorem dX6_copy_184 : decode cX6_copy 184 = .ok (.isub, 1) := by decide +kernel
theorem dX6_copy_185 : decode cX6_copy 185 = .ok (.goto 5, 3) := by decide +kernel
theorem dX6_copy_188 : decode cX6_copy 188 = .ok (.iload 8, 2) := by decide +kernel
theorem dX6_copy_190 : decode cX6_copy 190 = .ok (.istore 9, 2) := by decide +kernel
theorem dX6_copy_192 : decode cX6_copy 192 = .ok (.aload_n 0, 1) := by decide +kernel
theorem dX6_copy_193 : decode cX6_copy 193 = .ok (.getfield 16, 3) := by decide +kernel
theorem dX6_copy_196 : decode cX6_copy 196 = .ok (.bipush 60, 2) := by decide +kernel
theorem dX6_copy_198 : decode cX6_copy 198 = .ok (.iload_n 3, 1) := by decide +kernel
theorem dX6_copy_199 : decode cX6_copy 199 = .ok (.imul, 1) := by decide +kernel
theorem dX6_copy_200 : decode cX6_copy 200 = .ok (.iload 4, 2) := by decide +kernel
theorem dX6_copy_202 : decode cX6_copy 202 = .ok (.iadd, 1) := by decide +kernel
theorem dX6_copy_203 : decode cX6_copy 203 = .ok (.iload 9, 2) := by decide +kernel
theorem dX6_copy_205 : decode cX6_copy 205 = .ok (.iadd, 1) := by decide +kernel
theorem dX6_copy_206 : decode cX6_copy 206 = .ok (.aload_n 0, 1) := by decide +kernel
theorem dX6_copy_207 : decode cX6_copy 207 = .ok (.getfield 16, 3) := by decide +kernel
theorem dX6_copy_210 : decode cX6_copy 210 = .ok (.bipush 60, 2) := by decide +kernel
theorem dX6_copy_212 : decode cX6_copy 212 = .ok (.iload_n 1, 1) := by decide +kernel
theorem dX6_copy_213 : decode cX6_copy 213 = .ok (.imul, 1) := by decide +kernel
theorem dX6_copy_214 : decode cX6_copy 214 = .ok (.iload_n 2, 1) := by decide +kernel
theorem dX6_copy_215 : decode cX6_copy 215 = .ok (.iadd, 1) := by decide +kernel
theorem dX6_copy_216 : decode cX6_copy 216 = .ok (.iload 9, 2) := by decide +kernel
theorem dX6_copy_218 : decode cX6_copy 218 = .ok (.iadd, 1) := by decide +kernel
theorem dX6_copy_219 : decode cX6_copy 219 = .ok (.iaload, 1) := by decide +kernel
theorem dX6_copy_220 : decode cX6_copy 220 = .ok (.iastore, 1) := by decide +kernel
theorem dX6_copy_221 : decode cX6_copy 221 = .ok (.iinc 8 1, 3) := by decide +kernel
theorem dX6_copy_224 : decode cX6_copy 224 = .ok (.goto (-58), 3) := by decide +kernel
theorem dX6_copy_227 : decode cX6_copy 227 = .ok (.iload 5, 2) := by decide +kernel
theorem dX6_copy_229 : decode cX6_copy 229 = .ok (.ireturn, 1) := by decide +kernel
theorem dX6_begins_0 : decode cX6_begins 0 = .ok (.aload_n 0, 1) := by decide +kernel
theorem dX6_begins_1 : decode cX6_begins 1 = .ok (.bipush 31, 2) := by decide +kernel
theorem dX6_begins_3 : decode cX6_begins 3 = .ok (.aload_n 0, 1) := by decide +kernel
theorem dX6_begins_4 : decode cX6_begins 4 = .ok (.getfield 179, 3) := by decide +kernel
theorem dX6_begins_7 : decode cX6_begins 7 = .ok (.imul, 1) := by decide +kernel
theorem dX6_begins_8 : decode cX6_begins 8 = .ok (.iload_n 1, 1) := by decide +kernel
theorem dX6_begins_9 : decode cX6_begins 9 = .ok (.iadd, 1) := by decide +kernel
theorem dX6_begins_10 : decode cX6_begins 10 = .ok (.putfield 179, 3) := by decide +kernel
theorem dX6_begins_13 : decode cX6_begins 13 = .ok (.return_, 1) := by decide +kernel
theorem dX6_tell_0 : decode cX6_tell 0 = .ok (.aload_n 0, 1) := by decide +kernel
theorem dX6_tell_1 : decode cX6_tell 1 = .ok (.iload_n 1, 1) := by decide +kernel
theorem dX6_tell_2 : decode cX6_tell 2 = .ok (.invokevirtual 116, 3) := by decide +kernel
theorem dX6_tell_5 : decode cX6_tell 5 = .ok (.ifCond .ne 5, 3) := by decide +kernel
theorem dX6_tell_8 : decode cX6_tell 8 = .ok (.iconst (-1), 1) := by decide +kernel
theorem dX6_tell_9 : decode cX6_tell 9 = .ok (.ireturn, 1) := by decide +kernel
theorem dX6_tell_10 : decode cX6_tell 10 = .ok (.aload_n 0, 1) := by decide +kernel
theorem dX6_tell_11 : decode cX6_tell 11 = .ok (.iload_n 1, 1) := by decide +kernel
theorem dX6_tell_12 : decode cX6_tell 12 = .ok (.invokevirtual 54, 3) := by decide +kernel
theorem dX6_tell_15 : decode cX6_tell 15 = .ok (.istore_n 2, 1) := by decide +kernel
theorem dX6_tell_16 : decode cX6_tell 16 = .ok (.aload_n 0, 1) := by decide +kernel
theorem dX6_tell_17 : decode cX6_tell 17 = .ok (.iload_n 1, 1) := by decide +kernel
theorem dX6_tell_18 : decode cX6_tell 18 = .ok (.invokevirtual 50, 3) := by decide +kernel
theorem dX6_tell_21 : decode cX6_tell 21 = .ok (.lookupswitch 69 #[(1, 27), (2, 42)], 27) := by decide +kernel
theorem dX6_tell_48 : decode cX6_tell 48 = .ok (.aload_n 0, 1) := by decide +kernel
theorem dX6_tell_49 : decode cX6_tell 49 = .ok (.iconst 2, 1) := by decide +kernel
theorem dX6_tell_50 : decode cX6_tell 50 = .ok (.invokevirtual 182, 3) := by decide +kernel
theorem dX6_tell_53 : decode cX6_tell 53 = .ok (.aload_n 0, 1) := by decide +kernel
theorem dX6_tell_54 : decode cX6_tell 54 = .ok (.iconst 1, 1) := by decide +kernel
theorem dX6_tell_55 : decode cX6_tell 55 = .ok (.invokevirtual 182, 3) := by decide +kernel
theorem dX6_tell_58 : decode cX6_tell 58 = .ok (.iload_n 2, 1) := by decide +kernel
theorem dX6_tell_59 : decode cX6_tell 59 = .ok (.bipush 100, 2) := by decide +kernel
theorem dX6_tell_61 : decode cX6_tell 61 = .ok (.iadd, 1) := by decide +kernel
theorem dX6_tell_62 : decode cX6_tell 62 = .ok (.ireturn, 1) := by decide +kernel
theorem dX6_tell_63 : decode cX6_tell 63 = .ok (.aload_n 0, 1) := by decide +kernel
theorem dX6_tell_64 : decode cX6_tell 64 = .ok (.iconst 3, 1) := by decide +kernel
theorem dX6_tell_65 : decode cX6_tell 65 = .ok (.invokevirtual 182, 3) := by decide +kernel
theorem dX6_tell_68 : decode cX6_tell 68 = .ok (.aload_n 0, 1) := by decide +kernel
theorem dX6_tell_69 : decode cX6_tell 69 = .ok (.iconst 2, 1) := by decide +kernel
theorem dX6_tell_70 : decode cX6_tell 70 = .ok (.invokevirtual 182, 3) := by decide +kernel
theorem dX6_tell_73 : decode cX6_tell 73 = .ok (.aload_n 0, 1) := by decide +kernel
theorem dX6_tell_74 : decode cX6_tell 74 = .ok (.iconst 1, 1) := by decide +kernel
theorem dX6_tell_75 : decode cX6_tell 75 = .ok (.invokevirtual 182, 3) := by decide +kernel
theorem dX6_tell_78 : decode cX6_tell 78 = .ok (.aload_n 0, 1) := by decide +kernel
theorem dX6_tell_79 : decode cX6_tell 79 = .ok (.iconst 1, 1) := by decide +kernel
theorem dX6_tell_80 : decode cX6_tell 80 = .ok (.invokevirtual 182, 3) := by decide +kernel
theorem dX6_tell_83 : decode cX6_tell 83 = .ok (.iconst 2, 1) := by decide +kernel
theorem dX6_tell_84 : decode cX6_tell 84 = .ok (.iload_n 2, 1) := by decide +kernel
theorem dX6_tell_85 : decode cX6_tell 85 = .ok (.imul, 1) := by decide +kernel
theorem dX6_tell_86 : decode cX6_tell 86 = .ok (.bipush 100, 2) := by decide +kernel
theorem dX6_tell_88 : decode cX6_tell 88 = .ok (.iadd, 1) := by decide +kernel
theorem dX6_tell_89 : decode cX6_tell 89 = .ok (.ireturn, 1) := by decide +kernel
theorem dX6_tell_90 : decode cX6_tell 90 = .ok (.aload_n 0, 1) := by decide +kernel
theorem dX6_tell_91 : decode cX6_tell 91 = .ok (.iconst 1, 1) := by decide +kernel
theorem dX6_tell_92 : decode cX6_tell 92 = .ok (.invokevirtual 182, 3) := by decide +kernel
theorem dX6_tell_95 : decode cX6_tell 95 = .ok (.iload_n 2, 1) := by decide +kernel
theorem dX6_tell_96 : decode cX6_tell 96 = .ok (.ireturn, 1) := by decide +kernel
theorem dX6_cite_0 : decode cX6_cite 0 = .ok (.aload_n 0, 1) := by decide +kernel
theorem dX6_cite_1 : decode cX6_cite 1 = .ok (.iload_n 1, 1) := by decide +kernel
theorem dX6_cite_2 : decode cX6_cite 2 = .ok (.invokevirtual 116, 3) := by decide +kernel
theorem dX6_cite_5 : decode cX6_cite 5 = .ok (.ifCond .ne 5, 3) := by decide +kernel
theorem dX6_cite_8 : decode cX6_cite 8 = .ok (.iconst (-1), 1) := by decide +kernel
theorem dX6_cite_9 : decode cX6_cite 9 = .ok (.ireturn, 1) := by decide +kernel
theorem dX6_cite_10 : decode cX6_cite 10 = .ok (.aload_n 0, 1) := by decide +kernel
theorem dX6_cite_11 : decode cX6_cite 11 = .ok (.aload_n 0, 1) := by decide +kernel
theorem dX6_cite_12 : decode cX6_cite 12 = .ok (.iload_n 1, 1) := by decide +kernel
theorem dX6_cite_13 : decode cX6_cite 13 = .ok (.invokevirtual 50, 3) := by decide +kernel
theorem dX6_cite_16 : decode cX6_cite 16 = .ok (.iconst 2, 1) := by decide +kernel
theorem dX6_cite_17 : decode cX6_cite 17 = .ok (.if_icmp .ne 7, 3) := by decide +kernel
theorem dX6_cite_20 : decode cX6_cite 20 = .ok (.iconst 5, 1) := by decide +kernel
theorem dX6_cite_21 : decode cX6_cite 21 = .ok (.goto 4, 3) := by decide +kernel
theorem dX6_cite_24 : decode cX6_cite 24 = .ok (.iconst 4, 1) := by decide +kernel
theorem dX6_cite_25 : decode cX6_cite 25 = .ok (.invokevirtual 182, 3) := by decide +kernel
theorem dX6_cite_28 : decode cX6_cite 28 = .ok (.aload_n 0, 1) := by decide +kernel
theorem dX6_cite_29 : decode cX6_cite 29 = .ok (.iload_n 1, 1) := by decide +kernel
theorem dX6_cite_30 : decode cX6_cite 30 = .ok (.invokevirtual 50, 3) := by decide +kernel
theorem dX6_cite_33 : decode cX6_cite 33 = .ok (.iconst 2, 1) := by decide +kernel
theorem dX6_cite_34 : decode cX6_cite 34 = .ok (.if_icmp .ne 8, 3) := by decide +kernel
theorem dX6_cite_37 : decode cX6_cite 37 = .ok (.bipush 60, 2) := by decide +kernel
theorem dX6_cite_39 : decode cX6_cite 39 = .ok (.goto 13, 3) := by decide +kernel
theorem dX6_cite_42 : decode cX6_cite 42 = .ok (.aload_n 0, 1) := by decide +kernel
theorem dX6_cite_43 : decode cX6_cite 43 = .ok (.getfield 19, 3) := by decide +kernel
theorem dX6_cite_46 : decode cX6_cite 46 = .ok (.iconst 5, 1) := by decide +kernel
theorem dX6_cite_47 : decode cX6_cite 47 = .ok (.iload_n 1, 1) := by decide +kernel
theorem dX6_cite_48 : decode cX6_cite 48 = .ok (.imul, 1) := by decide +kernel
theorem dX6_cite_49 : decode cX6_cite 49 = .ok (.iconst 3, 1) := by decide +kernel
theorem dX6_cite_50 : decode cX6_cite 50 = .ok (.iadd, 1) := by decide +kernel
theorem dX6_cite_51 : decode cX6_cite 51 = .ok (.iaload, 1) := by decide +kernel
theorem dX6_cite_52 : decode cX6_cite 52 = .ok (.ireturn, 1) := by decide +kernel
theorem dX6_as_0 : decode cX6_as 0 = .ok (.aload_n 0, 1) := by decide +kernel
theorem dX6_as_1 : decode cX6_as 1 = .ok (.iconst 0, 1) := by decide +kernel
theorem dX6_as_2 : decode cX6_as 2 = .ok (.putfield 37, 3) := by decide +kernel
theorem dX6_as_5 : decode cX6_as 5 = .ok (.aload_n 0, 1) := by decide +kernel
theorem dX6_as_6 : decode cX6_as 6 = .ok (.iload_n 1, 1) := by decide +kernel
theorem dX6_as_7 : decode cX6_as 7 = .ok (.invokevirtual 116, 3) := by decide +kernel
theorem dX6_as_10 : decode cX6_as 10 = .ok (.ifCond .ne 5, 3) := by decide +kernel
theorem dX6_as_13 : decode cX6_as 13 = .ok (.iconst (-1), 1) := by decide +kernel
theorem dX6_as_14 : decode cX6_as 14 = .ok (.ireturn, 1) := by decide +kernel
theorem dX6_as_15 : decode cX6_as 15 = .ok (.iload_n 2, 1) := by decide +kernel
theorem dX6_as_16 : decode cX6_as 16 = .ok (.iconst 0, 1) := by decide +kernel
theorem dX6_as_17 : decode cX6_as 17 = .ok (.iconst 2, 1) := by decide +kernel
theorem dX6_as_18 : decode cX6_as 18 = .ok (.invokestatic 43, 3) := by decide +kernel
theorem dX6_as_21 : decode cX6_as 21 = .ok (.ifCond .ne 6, 3) := by decide +kernel
theorem dX6_as_24 : decode cX6_as 24 = .ok (.bipush (-2), 2) := by decide +kernel
theorem dX6_as_26 : decode cX6_as 26 = .ok (.ireturn, 1) := by decide +kernel
theorem dX6_as_27 : decode cX6_as 27 = .ok (.aload_n 0, 1) := by decide +kernel
theorem dX6_as_28 : decode cX6_as 28 = .ok (.iload_n 1, 1) := by decide +kernel
theorem dX6_as_29 : decode cX6_as 29 = .ok (.invokevirtual 50, 3) := by decide +kernel
theorem dX6_as_32 : decode cX6_as 32 = .ok (.iload_n 2, 1) := by decide +kernel
theorem dX6_as_33 : decode cX6_as 33 = .ok (.if_icmp .lt 7, 3) := by decide +kernel
theorem dX6_as_36 : decode cX6_as 36 = .ok (.iconst 1, 1) := by decide +kernel
theorem dX6_as_37 : decode cX6_as 37 = .ok (.goto 8, 3) := by decide +kernel
theorem dX6_as_40 : decode cX6_as 40 = .ok (.aload_n 0, 1) := by decide +kernel
theorem dX6_as_41 : decode cX6_as 41 = .ok (.iconst 2, 1) := by decide +kernel
theorem dX6_as_42 : decode cX6_as 42 = .ok (.invokevirtual 68, 3) := by decide +kernel
theorem dX6_as_45 : decode cX6_as 45 = .ok (.ireturn, 1) := by decide +kernel
theorem dX6_trace_0 : decode cX6_trace 0 = .ok (.aload_n 0, 1) := by decide +kernel
theorem dX6_trace_1 : decode cX6_trace 1 = .ok (.getfield 179, 3) := by decide +kernel
theorem dX6_trace_4 : decode cX6_trace 4 = .ok (.ireturn, 1) := by decide +kernel
theorem dX6_fault_0 : decode cX6_fault 0 = .ok (.aload_n 0, 1) := by decide +kernel
theorem dX6_fault_1 : decode cX6_fault 1 = .ok (.getfield 37, 3) := by decide +kernel
theorem dX6_fault_4 : decode cX6_fault 4 = .ok (.ireturn, 1) := by decide +kernel
theorem dX6_many_0 : decode cX6_many 0 = .ok (.iload_n 1, 1) := by decide +kernel
theorem dX6_many_1 : decode cX6_many 1 = .ok (.tableswitch 42 0 2 #[27, 32, 37], 27) := by decide +kernel
theorem dX6_many_28 : decode cX6_many 28 = .ok (.aload_n 0, 1) := by decide +kernel
theorem dX6_many_29 : decode cX6_many 29 = .ok (.getfield 47, 3) := by decide +kernel
theorem dX6_many_32 : decode cX6_many 32 = .ok (.ireturn, 1) := by decide +kernel
theorem dX6_many_33 : decode cX6_many 33 = .ok (.aload_n 0, 1) := by decide +kernel
theorem dX6_many_34 : decode cX6_many 34 = .ok (.invokevirtual 156, 3) := by decide +kernel
theorem dX6_many_37 : decode cX6_many 37 = .ok (.ireturn, 1) := by decide +kernel
theorem dX6_many_38 : decode cX6_many 38 = .ok (.aload_n 0, 1) := by decide +kernel
theorem dX6_many_39 : decode cX6_many 39 = .ok (.getfield 80, 3) := by decide +kernel
