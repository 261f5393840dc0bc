theorem dX5_back_11 : decode cX5_back 11 = .ok (.aload_n 0, 1) := by decide +kernel
theorem dX5_back_12 : decode cX5_back 12 = .ok (.getfield 50, 3) := by decide +kernel
theorem dX5_back_15 : decode cX5_back 15 = .ok (.iload_n 1, 1) := by decide +kernel
theorem dX5_back_16 : decode cX5_back 16 = .ok (.aaload, 1) := by decide +kernel
theorem dX5_back_17 : decode cX5_back 17 = .ok (.astore_n 2, 1) := by decide +kernel
theorem dX5_back_18 : decode cX5_back 18 = .ok (.aload_n 2, 1) := by decide +kernel
theorem dX5_back_19 : decode cX5_back 19 = .ok (.ifnonnull 6, 3) := by decide +kernel
theorem dX5_back_22 : decode cX5_back 22 = .ok (.bipush (-2), 2) := by decide +kernel
theorem dX5_back_24 : decode cX5_back 24 = .ok (.ireturn, 1) := by decide +kernel
theorem dX5_back_25 : decode cX5_back 25 = .ok (.aload_n 0, 1) := by decide +kernel
theorem dX5_back_26 : decode cX5_back 26 = .ok (.aload_n 2, 1) := by decide +kernel
theorem dX5_back_27 : decode cX5_back 27 = .ok (.getfield 281, 3) := by decide +kernel
theorem dX5_back_30 : decode cX5_back 30 = .ok (.putfield 37, 3) := by decide +kernel
theorem dX5_back_33 : decode cX5_back 33 = .ok (.aload_n 0, 1) := by decide +kernel
theorem dX5_back_34 : decode cX5_back 34 = .ok (.getfield 44, 3) := by decide +kernel
theorem dX5_back_37 : decode cX5_back 37 = .ok (.aload_n 2, 1) := by decide +kernel
theorem dX5_back_38 : decode cX5_back 38 = .ok (.getfield 282, 3) := by decide +kernel
theorem dX5_back_41 : decode cX5_back 41 = .ok (.invokevirtual 283, 3) := by decide +kernel
theorem dX5_back_44 : decode cX5_back 44 = .ok (.aload_n 0, 1) := by decide +kernel
theorem dX5_back_45 : decode cX5_back 45 = .ok (.getfield 37, 3) := by decide +kernel
theorem dX5_back_48 : decode cX5_back 48 = .ok (.getfield 160, 3) := by decide +kernel
theorem dX5_back_51 : decode cX5_back 51 = .ok (.arraylength, 1) := by decide +kernel
theorem dX5_back_52 : decode cX5_back 52 = .ok (.ireturn, 1) := by decide +kernel
theorem dX5_count_0 : decode cX5_count 0 = .ok (.iload_n 1, 1) := by decide +kernel
theorem dX5_count_1 : decode cX5_count 1 = .ok (.tableswitch 87 0 5 #[39, 47, 55, 63, 71, 79], 39) := by decide +kernel
theorem dX5_count_40 : decode cX5_count 40 = .ok (.aload_n 0, 1) := by decide +kernel
theorem dX5_count_41 : decode cX5_count 41 = .ok (.getfield 26, 3) := by decide +kernel
theorem dX5_count_44 : decode cX5_count 44 = .ok (.getfield 287, 3) := by decide +kernel
theorem dX5_count_47 : decode cX5_count 47 = .ok (.ireturn, 1) := by decide +kernel
theorem dX5_count_48 : decode cX5_count 48 = .ok (.aload_n 0, 1) := by decide +kernel
theorem dX5_count_49 : decode cX5_count 49 = .ok (.getfield 26, 3) := by decide +kernel
theorem dX5_count_52 : decode cX5_count 52 = .ok (.getfield 205, 3) := by decide +kernel
theorem dX5_count_55 : decode cX5_count 55 = .ok (.ireturn, 1) := by decide +kernel
theorem dX5_count_56 : decode cX5_count 56 = .ok (.aload_n 0, 1) := by decide +kernel
theorem dX5_count_57 : decode cX5_count 57 = .ok (.getfield 26, 3) := by decide +kernel
theorem dX5_count_60 : decode cX5_count 60 = .ok (.getfield 290, 3) := by decide +kernel
theorem dX5_count_63 : decode cX5_count 63 = .ok (.ireturn, 1) := by decide +kernel
theorem dX5_count_64 : decode cX5_count 64 = .ok (.aload_n 0, 1) := by decide +kernel
theorem dX5_count_65 : decode cX5_count 65 = .ok (.getfield 19, 3) := by decide +kernel
theorem dX5_count_68 : decode cX5_count 68 = .ok (.getfield 243, 3) := by decide +kernel
theorem dX5_count_71 : decode cX5_count 71 = .ok (.ireturn, 1) := by decide +kernel
theorem dX5_count_72 : decode cX5_count 72 = .ok (.aload_n 0, 1) := by decide +kernel
theorem dX5_count_73 : decode cX5_count 73 = .ok (.getfield 44, 3) := by decide +kernel
theorem dX5_count_76 : decode cX5_count 76 = .ok (.getfield 193, 3) := by decide +kernel
theorem dX5_count_79 : decode cX5_count 79 = .ok (.ireturn, 1) := by decide +kernel
theorem dX5_count_80 : decode cX5_count 80 = .ok (.aload_n 0, 1) := by decide +kernel
theorem dX5_count_81 : decode cX5_count 81 = .ok (.getfield 10, 3) := by decide +kernel
theorem dX5_count_84 : decode cX5_count 84 = .ok (.getfield 80, 3) := by decide +kernel
theorem dX5_count_87 : decode cX5_count 87 = .ok (.ireturn, 1) := by decide +kernel
theorem dX5_count_88 : decode cX5_count 88 = .ok (.iconst (-1), 1) := by decide +kernel
theorem dX5_count_89 : decode cX5_count 89 = .ok (.ireturn, 1) := by decide +kernel
theorem dX5_trace_0 : decode cX5_trace 0 = .ok (.aload_n 0, 1) := by decide +kernel
theorem dX5_trace_1 : decode cX5_trace 1 = .ok (.getfield 54, 3) := by decide +kernel
theorem dX5_trace_4 : decode cX5_trace 4 = .ok (.lreturn, 1) := by decide +kernel
theorem dX5_within_0 : decode cX5_within 0 = .ok (.iload_n 0, 1) := by decide +kernel
theorem dX5_within_1 : decode cX5_within 1 = .ok (.iload_n 1, 1) := by decide +kernel
theorem dX5_within_2 : decode cX5_within 2 = .ok (.if_icmp .lt 12, 3) := by decide +kernel
theorem dX5_within_5 : decode cX5_within 5 = .ok (.iload_n 0, 1) := by decide +kernel
theorem dX5_within_6 : decode cX5_within 6 = .ok (.iload_n 2, 1) := by decide +kernel
theorem dX5_within_7 : decode cX5_within 7 = .ok (.if_icmp .gt 7, 3) := by decide +kernel
theorem dX5_within_10 : decode cX5_within 10 = .ok (.iconst 1, 1) := by decide +kernel
theorem dX5_within_11 : decode cX5_within 11 = .ok (.goto 4, 3) := by decide +kernel
theorem dX5_within_14 : decode cX5_within 14 = .ok (.iconst 0, 1) := by decide +kernel
theorem dX5_within_15 : decode cX5_within 15 = .ok (.ireturn, 1) := by decide +kernel
theorem dX5_part_0 : decode cX5_part 0 = .ok (.iload_n 1, 1) := by decide +kernel
theorem dX5_part_1 : decode cX5_part 1 = .ok (.ifCond .ne 7, 3) := by decide +kernel
theorem dX5_part_4 : decode cX5_part 4 = .ok (.iconst 0, 1) := by decide +kernel
theorem dX5_part_5 : decode cX5_part 5 = .ok (.goto 6, 3) := by decide +kernel
theorem dX5_part_8 : decode cX5_part 8 = .ok (.iload_n 0, 1) := by decide +kernel
theorem dX5_part_9 : decode cX5_part 9 = .ok (.iload_n 1, 1) := by decide +kernel
theorem dX5_part_10 : decode cX5_part 10 = .ok (.idiv, 1) := by decide +kernel
theorem dX5_part_11 : decode cX5_part 11 = .ok (.ireturn, 1) := by decide +kernel
theorem dX5_rest_0 : decode cX5_rest 0 = .ok (.iload_n 1, 1) := by decide +kernel
theorem dX5_rest_1 : decode cX5_rest 1 = .ok (.ifCond .gt 7, 3) := by decide +kernel
theorem dX5_rest_4 : decode cX5_rest 4 = .ok (.iconst 0, 1) := by decide +kernel
theorem dX5_rest_5 : decode cX5_rest 5 = .ok (.goto 8, 3) := by decide +kernel
theorem dX5_rest_8 : decode cX5_rest 8 = .ok (.iload_n 0, 1) := by decide +kernel
theorem dX5_rest_9 : decode cX5_rest 9 = .ok (.iload_n 1, 1) := by decide +kernel
theorem dX5_rest_10 : decode cX5_rest 10 = .ok (.invokestatic 293, 3) := by decide +kernel
theorem dX5_rest_13 : decode cX5_rest 13 = .ok (.ireturn, 1) := by decide +kernel
theorem dX5_greatestDivisor_0 : decode cX5_greatestDivisor 0 = .ok (.iload_n 0, 1) := by decide +kernel
theorem dX5_greatestDivisor_1 : decode cX5_greatestDivisor 1 = .ok (.istore_n 2, 1) := by decide +kernel
theorem dX5_greatestDivisor_2 : decode cX5_greatestDivisor 2 = .ok (.iload_n 1, 1) := by decide +kernel
theorem dX5_greatestDivisor_3 : decode cX5_greatestDivisor 3 = .ok (.istore_n 3, 1) := by decide +kernel
theorem dX5_greatestDivisor_4 : decode cX5_greatestDivisor 4 = .ok (.iconst 0, 1) := by decide +kernel
theorem dX5_greatestDivisor_5 : decode cX5_greatestDivisor 5 = .ok (.istore 4, 2) := by decide +kernel
theorem dX5_greatestDivisor_7 : decode cX5_greatestDivisor 7 = .ok (.iload 4, 2) := by decide +kernel
theorem dX5_greatestDivisor_9 : decode cX5_greatestDivisor 9 = .ok (.bipush 64, 2) := by decide +kernel
theorem dX5_greatestDivisor_11 : decode cX5_greatestDivisor 11 = .ok (.if_icmp .ge 23, 3) := by decide +kernel
theorem dX5_greatestDivisor_14 : decode cX5_greatestDivisor 14 = .ok (.iload_n 3, 1) := by decide +kernel
theorem dX5_greatestDivisor_15 : decode cX5_greatestDivisor 15 = .ok (.ifCond .eq 19, 3) := by decide +kernel
theorem dX5_greatestDivisor_18 : decode cX5_greatestDivisor 18 = .ok (.iload_n 2, 1) := by decide +kernel
theorem dX5_greatestDivisor_19 : decode cX5_greatestDivisor 19 = .ok (.iload_n 3, 1) := by decide +kernel
theorem dX5_greatestDivisor_20 : decode cX5_greatestDivisor 20 = .ok (.irem, 1) := by decide +kernel
theorem dX5_greatestDivisor_21 : decode cX5_greatestDivisor 21 = .ok (.istore 5, 2) := by decide +kernel
theorem dX5_greatestDivisor_23 : decode cX5_greatestDivisor 23 = .ok (.iload_n 3, 1) := by decide +kernel
theorem dX5_greatestDivisor_24 : decode cX5_greatestDivisor 24 = .ok (.istore_n 2, 1) := by decide +kernel
theorem dX5_greatestDivisor_25 : decode cX5_greatestDivisor 25 = .ok (.iload 5, 2) := by decide +kernel
theorem dX5_greatestDivisor_27 : decode cX5_greatestDivisor 27 = .ok (.istore_n 3, 1) := by decide +kernel
theorem dX5_greatestDivisor_28 : decode cX5_greatestDivisor 28 = .ok (.iinc 4 1, 3) := by decide +kernel
theorem dX5_greatestDivisor_31 : decode cX5_greatestDivisor 31 = .ok (.goto (-24), 3) := by decide +kernel
theorem dX5_greatestDivisor_34 : decode cX5_greatestDivisor 34 = .ok (.iload_n 2, 1) := by decide +kernel
theorem dX5_greatestDivisor_35 : decode cX5_greatestDivisor 35 = .ok (.ireturn, 1) := by decide +kernel
theorem dX5_startAnew_0 : decode cX5_startAnew 0 = .ok (.aload_n 0, 1) := by decide +kernel
theorem dX5_startAnew_1 : decode cX5_startAnew 1 = .ok (.aload_n 1, 1) := by decide +kernel
theorem dX5_startAnew_2 : decode cX5_startAnew 2 = .ok (.putfield 26, 3) := by decide +kernel
theorem dX5_startAnew_5 : decode cX5_startAnew 5 = .ok (.aload_n 0, 1) := by decide +kernel
theorem dX5_startAnew_6 : decode cX5_startAnew 6 = .ok (.new 30, 3) := by decide +kernel
theorem dX5_startAnew_9 : decode cX5_startAnew 9 = .ok (.dup, 1) := by decide +kernel
theorem dX5_startAnew_10 : decode cX5_startAnew 10 = .ok (.iconst 0, 1) := by decide +kernel
theorem dX5_startAnew_11 : decode cX5_startAnew 11 = .ok (.aload_n 1, 1) := by decide +kernel
theorem dX5_startAnew_12 : decode cX5_startAnew 12 = .ok (.invokevirtual 296, 3) := by decide +kernel
theorem dX5_startAnew_15 : decode cX5_startAnew 15 = .ok (.iconst 0, 1) := by decide +kernel
theorem dX5_startAnew_16 : decode cX5_startAnew 16 = .ok (.anewarray 32, 3) := by decide +kernel
theorem dX5_startAnew_19 : decode cX5_startAnew 19 = .ok (.invokespecial 34, 3) := by decide +kernel
theorem dX5_startAnew_22 : decode cX5_startAnew 22 = .ok (.putfield 37, 3) := by decide +kernel
theorem dX5_startAnew_25 : decode cX5_startAnew 25 = .ok (.aload_n 0, 1) := by decide +kernel
theorem dX5_startAnew_26 : decode cX5_startAnew 26 = .ok (.getfield 44, 3) := by decide +kernel
theorem dX5_startAnew_29 : decode cX5_startAnew 29 = .ok (.invokevirtual 300, 3) := by decide +kernel
theorem dX5_startAnew_32 : decode cX5_startAnew 32 = .ok (.aload_n 0, 1) := by decide +kernel
theorem dX5_startAnew_33 : decode cX5_startAnew 33 = .ok (.iconst 0, 1) := by decide +kernel
theorem dX5_startAnew_34 : decode cX5_startAnew 34 = .ok (.putfield 68, 3) := by decide +kernel
theorem dX5_startAnew_37 : decode cX5_startAnew 37 = .ok (.aload_n 0, 1) := by decide +kernel
theorem dX5_startAnew_38 : decode cX5_startAnew 38 = .ok (.getfield 19, 3) := by decide +kernel
theorem dX5_startAnew_41 : decode cX5_startAnew 41 = .ok (.invokevirtual 246, 3) := by decide +kernel
theorem dX5_startAnew_44 : decode cX5_startAnew 44 = .ok (.pop, 1) := by decide +kernel
theorem dX5_startAnew_45 : decode cX5_startAnew 45 = .ok (.iconst 0, 1) := by decide +kernel
theorem dX5_startAnew_46 : decode cX5_startAnew 46 = .ok (.istore_n 2, 1) := by decide +kernel
theorem dX5_startAnew_47 : decode cX5_startAnew 47 = .ok (.iload_n 2, 1) := by decide +kernel
theorem dX5_startAnew_48 : decode cX5_startAnew 48 = .ok (.iconst 2, 1) := by decide +kernel
theorem dX5_startAnew_49 : decode cX5_startAnew 49 = .ok (.if_icmp .ge 16, 3) := by decide +kernel
theorem dX5_startAnew_52 : decode cX5_startAnew 52 = .ok (.aload_n 0, 1) := by decide +kernel
theorem dX5_startAnew_53 : decode cX5_startAnew 53 = .ok (.getfield 50, 3) := by decide +kernel
theorem dX5_startAnew_56 : decode cX5_startAnew 56 = .ok (.iload_n 2, 1) := by decide +kernel
theorem dX5_startAnew_57 : decode cX5_startAnew 57 = .ok (.aconst_null, 1) := by decide +kernel
theorem dX5_startAnew_58 : decode cX5_startAnew 58 = .ok (.aastore, 1) := by decide +kernel
theorem dX5_startAnew_59 : decode cX5_startAnew 59 = .ok (.iinc 2 1, 3) := by decide +kernel
theorem dX5_startAnew_62 : decode cX5_startAnew 62 = .ok (.goto (-15), 3) := by decide +kernel
theorem dX5_startAnew_65 : decode cX5_startAnew 65 = .ok (.return_, 1) := by decide +kernel
theorem dX5_changeTo_0 : decode cX5_changeTo 0 = .ok (.aload_n 0, 1) := by decide +kernel
theorem dX5_changeTo_1 : decode cX5_changeTo 1 = .ok (.getfield 44, 3) := by decide +kernel
theorem dX5_changeTo_4 : decode cX5_changeTo 4 = .ok (.aload_n 0, 1) := by decide +kernel
theorem dX5_changeTo_5 : decode cX5_changeTo 5 = .ok (.getfield 37, 3) := by decide +kernel
theorem dX5_changeTo_8 : decode cX5_changeTo 8 = .ok (.invokevirtual 302, 3) := by decide +kernel
theorem dX5_changeTo_11 : decode cX5_changeTo 11 = .ok (.aload_n 0, 1) := by decide +kernel
theorem dX5_changeTo_12 : decode cX5_changeTo 12 = .ok (.aload_n 1, 1) := by decide +kernel
theorem dX5_changeTo_13 : decode cX5_changeTo 13 = .ok (.putfield 37, 3) := by decide +kernel
theorem dX5_changeTo_16 : decode cX5_changeTo 16 = .ok (.return_, 1) := by decide +kernel
theorem dX5_noteShown_0 : decode cX5_noteShown 0 = .ok (.aload_n 0, 1) := by decide +kernel
theorem dX5_noteShown_1 : decode cX5_noteShown 1 = .ok (.getfield 58, 3) := by decide +kernel
theorem dX5_noteShown_4 : decode cX5_noteShown 4 = .ok (.bipush (-9), 2) := by decide +kernel
theorem dX5_noteShown_6 : decode cX5_noteShown 6 = .ok (.invokestatic 304, 3) := by decide +kernel
theorem dX5_noteShown_9 : decode cX5_noteShown 9 = .ok (.iconst 0, 1) := by decide +kernel
theorem dX5_noteShown_10 : decode cX5_noteShown 10 = .ok (.istore_n 2, 1) := by decide +kernel
theorem dX5_noteShown_11 : decode cX5_noteShown 11 = .ok (.iload_n 2, 1) := by decide +kernel
theorem dX5_noteShown_12 : decode cX5_noteShown 12 = .ok (.aload_n 0, 1) := by decide +kernel
theorem dX5_noteShown_13 : decode cX5_noteShown 13 = .ok (.getfield 37, 3) := by decide +kernel
theorem dX5_noteShown_16 : decode cX5_noteShown 16 = .ok (.getfield 160, 3) := by decide +kernel
theorem dX5_noteShown_19 : decode cX5_noteShown 19 = .ok (.arraylength, 1) := by decide +kernel
theorem dX5_noteShown_20 : decode cX5_noteShown 20 = .ok (.if_icmp .ge 60, 3) := by decide +kernel
theorem dX5_noteShown_23 : decode cX5_noteShown 23 = .ok (.aload_n 0, 1) := by decide +kernel
theorem dX5_noteShown_24 : decode cX5_noteShown 24 = .ok (.getfield 37, 3) := by decide +kernel
theorem dX5_noteShown_27 : decode cX5_noteShown 27 = .ok (.iload_n 2, 1) := by decide +kernel
theorem dX5_noteShown_28 : decode cX5_noteShown 28 = .ok (.invokevirtual 135, 3) := by decide +kernel
theorem dX5_noteShown_31 : decode cX5_noteShown 31 = .ok (.astore_n 3, 1) := by decide +kernel
theorem dX5_noteShown_32 : decode cX5_noteShown 32 = .ok (.aload_n 3, 1) := by decide +kernel
theorem dX5_noteShown_33 : decode cX5_noteShown 33 = .ok (.ifnull 41, 3) := by decide +kernel
theorem dX5_noteShown_36 : decode cX5_noteShown 36 = .ok (.aload_n 3, 1) := by decide +kernel
theorem dX5_noteShown_37 : decode cX5_noteShown 37 = .ok (.getfield 145, 3) := by decide +kernel
theorem dX5_noteShown_40 : decode cX5_noteShown 40 = .ok (.iload_n 1, 1) := by decide +kernel
theorem dX5_noteShown_41 : decode cX5_noteShown 41 = .ok (.if_icmp .ne 33, 3) := by decide +kernel
theorem dX5_noteShown_44 : decode cX5_noteShown 44 = .ok (.iconst 0, 1) := by decide +kernel
theorem dX5_noteShown_45 : decode cX5_noteShown 45 = .ok (.istore 4, 2) := by decide +kernel
theorem dX5_noteShown_47 : decode cX5_noteShown 47 = .ok (.iload 4, 2) := by decide +kernel
theorem dX5_noteShown_49 : decode cX5_noteShown 49 = .ok (.aload_n 3, 1) := by decide +kernel
theorem dX5_noteShown_50 : decode cX5_noteShown 50 = .ok (.getfield 228, 3) := by decide +kernel
theorem dX5_noteShown_53 : decode cX5_noteShown 53 = .ok (.if_icmp .ge 21, 3) := by decide +kernel
theorem dX5_noteShown_56 : decode cX5_noteShown 56 = .ok (.aload_n 0, 1) := by decide +kernel
theorem dX5_noteShown_57 : decode cX5_noteShown 57 = .ok (.getfield 58, 3) := by decide +kernel
theorem dX5_noteShown_60 : decode cX5_noteShown 60 = .ok (.aload_n 3, 1) := by decide +kernel
theorem dX5_noteShown_61 : decode cX5_noteShown 61 = .ok (.iload 4, 2) := by decide +kernel
theorem dX5_noteShown_63 : decode cX5_noteShown 63 = .ok (.invokevirtual 231, 3) := by decide +kernel
theorem dX5_noteShown_66 : decode cX5_noteShown 66 = .ok (.iload_n 2, 1) := by decide +kernel
theorem dX5_noteShown_67 : decode cX5_noteShown 67 = .ok (.iastore, 1) := by decide +kernel
theorem dX5_noteShown_68 : decode cX5_noteShown 68 = .ok (.iinc 4 1, 3) := by decide +kernel
theorem dX5_noteShown_71 : decode cX5_noteShown 71 = .ok (.goto (-24), 3) := by decide +kernel
theorem dX5_noteShown_74 : decode cX5_noteShown 74 = .ok (.iinc 2 1, 3) := by decide +kernel
theorem dX5_noteShown_77 : decode cX5_noteShown 77 = .ok (.goto (-66), 3) := by decide +kernel
theorem dX5_noteShown_80 : decode cX5_noteShown 80 = .ok (.return_, 1) := by decide +kernel
theorem dX5_notePens_0 : decode cX5_notePens 0 = .ok (.aload_n 0, 1) := by decide +kernel
theorem dX5_notePens_1 : decode cX5_notePens 1 = .ok (.iload_n 1, 1) := by decide +kernel
theorem dX5_notePens_2 : decode cX5_notePens 2 = .ok (.invokevirtual 310, 3) := by decide +kernel
theorem dX5_notePens_5 : decode cX5_notePens 5 = .ok (.iconst 0, 1) := by decide +kernel
theorem dX5_notePens_6 : decode cX5_notePens 6 = .ok (.istore_n 2, 1) := by decide +kernel
theorem dX5_notePens_7 : decode cX5_notePens 7 = .ok (.iload_n 2, 1) := by decide +kernel
theorem dX5_notePens_8 : decode cX5_notePens 8 = .ok (.sipush 360, 3) := by decide +kernel
theorem dX5_notePens_11 : decode cX5_notePens 11 = .ok (.if_icmp .ge 42, 3) := by decide +kernel
theorem dX5_notePens_14 : decode cX5_notePens 14 = .ok (.aload_n 0, 1) := by decide +kernel
theorem dX5_notePens_15 : decode cX5_notePens 15 = .ok (.getfield 37, 3) := by decide +kernel
theorem dX5_notePens_18 : decode cX5_notePens 18 = .ok (.aload_n 0, 1) := by decide +kernel
theorem dX5_notePens_19 : decode cX5_notePens 19 = .ok (.getfield 58, 3) := by decide +kernel
theorem dX5_notePens_22 : decode cX5_notePens 22 = .ok (.iload_n 2, 1) := by decide +kernel
theorem dX5_notePens_23 : decode cX5_notePens 23 = .ok (.iaload, 1) := by decide +kernel
theorem dX5_notePens_24 : decode cX5_notePens 24 = .ok (.invokevirtual 135, 3) := by decide +kernel
theorem dX5_notePens_27 : decode cX5_notePens 27 = .ok (.astore_n 3, 1) := by decide +kernel
theorem dX5_notePens_28 : decode cX5_notePens 28 = .ok (.aload_n 0, 1) := by decide +kernel
theorem dX5_notePens_29 : decode cX5_notePens 29 = .ok (.getfield 58, 3) := by decide +kernel
theorem dX5_notePens_32 : decode cX5_notePens 32 = .ok (.iload_n 2, 1) := by decide +kernel
theorem dX5_notePens_33 : decode cX5_notePens 33 = .ok (.aload_n 3, 1) := by decide +kernel
theorem dX5_notePens_34 : decode cX5_notePens 34 = .ok (.ifnonnull 8, 3) := by decide +kernel
theorem dX5_notePens_37 : decode cX5_notePens 37 = .ok (.bipush (-9), 2) := by decide +kernel
theorem dX5_notePens_39 : decode cX5_notePens 39 = .ok (.goto 7, 3) := by decide +kernel
theorem dX5_notePens_42 : decode cX5_notePens 42 = .ok (.aload_n 3, 1) := by decide +kernel
theorem dX5_notePens_43 : decode cX5_notePens 43 = .ok (.getfield 151, 3) := by decide +kernel
theorem dX5_notePens_46 : decode cX5_notePens 46 = .ok (.iastore, 1) := by decide +kernel
theorem dX5_notePens_47 : decode cX5_notePens 47 = .ok (.iinc 2 1, 3) := by decide +kernel
theorem dX5_notePens_50 : decode cX5_notePens 50 = .ok (.goto (-43), 3) := by decide +kernel
theorem dX5_notePens_53 : decode cX5_notePens 53 = .ok (.return_, 1) := by decide +kernel
theorem dX5_pointsNoted_0 : decode cX5_pointsNoted 0 = .ok (.iconst 0, 1) := by decide +kernel
theorem dX5_pointsNoted_1 : decode cX5_pointsNoted 1 = .ok (.istore_n 2, 1) := by decide +kernel
theorem dX5_pointsNoted_2 : decode cX5_pointsNoted 2 = .ok (.iconst 0, 1) := by decide +kernel
theorem dX5_pointsNoted_3 : decode cX5_pointsNoted 3 = .ok (.istore_n 3, 1) := by decide +kernel
theorem dX5_pointsNoted_4 : decode cX5_pointsNoted 4 = .ok (.iload_n 3, 1) := by decide +kernel
theorem dX5_pointsNoted_5 : decode cX5_pointsNoted 5 = .ok (.sipush 360, 3) := by decide +kernel
theorem dX5_pointsNoted_8 : decode cX5_pointsNoted 8 = .ok (.if_icmp .ge 22, 3) := by decide +kernel
theorem dX5_pointsNoted_11 : decode cX5_pointsNoted 11 = .ok (.aload_n 0, 1) := by decide +kernel
theorem dX5_pointsNoted_12 : decode cX5_pointsNoted 12 = .ok (.getfield 58, 3) := by decide +kernel
theorem dX5_pointsNoted_15 : decode cX5_pointsNoted 15 = .ok (.iload_n 3, 1) := by decide +kernel
theorem dX5_pointsNoted_16 : decode cX5_pointsNoted 16 = .ok (.iaload, 1) := by decide +kernel
theorem dX5_pointsNoted_17 : decode cX5_pointsNoted 17 = .ok (.iload_n 1, 1) := by decide +kernel
theorem dX5_pointsNoted_18 : decode cX5_pointsNoted 18 = .ok (.if_icmp .ne 6, 3) := by decide +kernel
theorem dX5_pointsNoted_21 : decode cX5_pointsNoted 21 = .ok (.iinc 2 1, 3) := by decide +kernel
theorem dX5_pointsNoted_24 : decode cX5_pointsNoted 24 = .ok (.iinc 3 1, 3) := by decide +kernel
theorem dX5_pointsNoted_27 : decode cX5_pointsNoted 27 = .ok (.goto (-23), 3) := by decide +kernel
theorem dX5_pointsNoted_30 : decode cX5_pointsNoted 30 = .ok (.iload_n 2, 1) := by decide +kernel
theorem dX5_pointsNoted_31 : decode cX5_pointsNoted 31 = .ok (.ireturn, 1) := by decide +kernel
theorem dX5_tipsShown_0 : decode cX5_tipsShown 0 = .ok (.aload_n 0, 1) := by decide +kernel
theorem dX5_tipsShown_1 : decode cX5_tipsShown 1 = .ok (.iload_n 2, 1) := by decide +kernel
theorem dX5_tipsShown_2 : decode cX5_tipsShown 2 = .ok (.invokevirtual 310, 3) := by decide +kernel
theorem dX5_tipsShown_5 : decode cX5_tipsShown 5 = .ok (.aload_n 0, 1) := by decide +kernel
theorem dX5_tipsShown_6 : decode cX5_tipsShown 6 = .ok (.iload_n 1, 1) := by decide +kernel
theorem dX5_tipsShown_7 : decode cX5_tipsShown 7 = .ok (.invokevirtual 313, 3) := by decide +kernel
theorem dX5_tipsShown_10 : decode cX5_tipsShown 10 = .ok (.ireturn, 1) := by decide +kernel
theorem dX5_pointsOfPen_0 : decode cX5_pointsOfPen 0 = .ok (.iconst 0, 1) := by decide +kernel
theorem dX5_pointsOfPen_1 : decode cX5_pointsOfPen 1 = .ok (.istore_n 2, 1) := by decide +kernel
theorem dX5_pointsOfPen_2 : decode cX5_pointsOfPen 2 = .ok (.iconst 1, 1) := by decide +kernel
theorem dX5_pointsOfPen_3 : decode cX5_pointsOfPen 3 = .ok (.istore_n 3, 1) := by decide +kernel
theorem dX5_pointsOfPen_4 : decode cX5_pointsOfPen 4 = .ok (.iload_n 3, 1) := by decide +kernel
theorem dX5_pointsOfPen_5 : decode cX5_pointsOfPen 5 = .ok (.bipush 9, 2) := by decide +kernel
theorem dX5_pointsOfPen_7 : decode cX5_pointsOfPen 7 = .ok (.if_icmp .gt 33, 3) := by decide +kernel
theorem dX5_pointsOfPen_10 : decode cX5_pointsOfPen 10 = .ok (.aload_n 0, 1) := by decide +kernel
theorem dX5_pointsOfPen_11 : decode cX5_pointsOfPen 11 = .ok (.getfield 37, 3) := by decide +kernel
theorem dX5_pointsOfPen_14 : decode cX5_pointsOfPen 14 = .ok (.iload_n 3, 1) := by decide +kernel
theorem dX5_pointsOfPen_15 : decode cX5_pointsOfPen 15 = .ok (.invokevirtual 316, 3) := by decide +kernel
theorem dX5_pointsOfPen_18 : decode cX5_pointsOfPen 18 = .ok (.ifCond .eq 16, 3) := by decide +kernel
theorem dX5_pointsOfPen_21 : decode cX5_pointsOfPen 21 = .ok (.aload_n 0, 1) := by decide +kernel
theorem dX5_pointsOfPen_22 : decode cX5_pointsOfPen 22 = .ok (.iload_n 3, 1) := by decide +kernel
theorem dX5_pointsOfPen_23 : decode cX5_pointsOfPen 23 = .ok (.invokevirtual 319, 3) := by decide +kernel
theorem dX5_pointsOfPen_26 : decode cX5_pointsOfPen 26 = .ok (.iload_n 2, 1) := by decide +kernel
theorem dX5_pointsOfPen_27 : decode cX5_pointsOfPen 27 = .ok (.aload_n 0, 1) := by decide +kernel
theorem dX5_pointsOfPen_28 : decode cX5_pointsOfPen 28 = .ok (.iload_n 1, 1) := by decide +kernel
theorem dX5_pointsOfPen_29 : decode cX5_pointsOfPen 29 = .ok (.invokevirtual 313, 3) := by decide +kernel
theorem dX5_pointsOfPen_32 : decode cX5_pointsOfPen 32 = .ok (.iadd, 1) := by decide +kernel
theorem dX5_pointsOfPen_33 : decode cX5_pointsOfPen 33 = .ok (.istore_n 2, 1) := by decide +kernel
theorem dX5_pointsOfPen_34 : decode cX5_pointsOfPen 34 = .ok (.iinc 3 1, 3) := by decide +kernel
theorem dX5_pointsOfPen_37 : decode cX5_pointsOfPen 37 = .ok (.goto (-33), 3) := by decide +kernel
theorem dX5_pointsOfPen_40 : decode cX5_pointsOfPen 40 = .ok (.iload_n 2, 1) := by decide +kernel
theorem dX5_pointsOfPen_41 : decode cX5_pointsOfPen 41 = .ok (.ireturn, 1) := by decide +kernel
theorem dX5_pointsShown_0 : decode cX5_pointsShown 0 = .ok (.iconst 0, 1) := by decide +kernel
theorem dX5_pointsShown_1 : decode cX5_pointsShown 1 = .ok (.istore_n 1, 1) := by decide +kernel
theorem dX5_pointsShown_2 : decode cX5_pointsShown 2 = .ok (.iconst 1, 1) := by decide +kernel
theorem dX5_pointsShown_3 : decode cX5_pointsShown 3 = .ok (.istore_n 2, 1) := by decide +kernel
theorem dX5_pointsShown_4 : decode cX5_pointsShown 4 = .ok (.iload_n 2, 1) := by decide +kernel
theorem dX5_pointsShown_5 : decode cX5_pointsShown 5 = .ok (.bipush 9, 2) := by decide +kernel
theorem dX5_pointsShown_7 : decode cX5_pointsShown 7 = .ok (.if_icmp .gt 38, 3) := by decide +kernel
theorem dX5_pointsShown_10 : decode cX5_pointsShown 10 = .ok (.aload_n 0, 1) := by decide +kernel
theorem dX5_pointsShown_11 : decode cX5_pointsShown 11 = .ok (.getfield 37, 3) := by decide +kernel
theorem dX5_pointsShown_14 : decode cX5_pointsShown 14 = .ok (.iload_n 2, 1) := by decide +kernel
theorem dX5_pointsShown_15 : decode cX5_pointsShown 15 = .ok (.invokevirtual 316, 3) := by decide +kernel
theorem dX5_pointsShown_18 : decode cX5_pointsShown 18 = .ok (.ifCond .eq 21, 3) := by decide +kernel
theorem dX5_pointsShown_21 : decode cX5_pointsShown 21 = .ok (.aload_n 0, 1) := by decide +kernel
theorem dX5_pointsShown_22 : decode cX5_pointsShown 22 = .ok (.iload_n 2, 1) := by decide +kernel
theorem dX5_pointsShown_23 : decode cX5_pointsShown 23 = .ok (.invokevirtual 310, 3) := by decide +kernel
theorem dX5_pointsShown_26 : decode cX5_pointsShown 26 = .ok (.iload_n 1, 1) := by decide +kernel
theorem dX5_pointsShown_27 : decode cX5_pointsShown 27 = .ok (.sipush 360, 3) := by decide +kernel
theorem dX5_pointsShown_30 : decode cX5_pointsShown 30 = .ok (.aload_n 0, 1) := by decide +kernel
theorem dX5_pointsShown_31 : decode cX5_pointsShown 31 = .ok (.bipush (-9), 2) := by decide +kernel
theorem dX5_pointsShown_33 : decode cX5_pointsShown 33 = .ok (.invokevirtual 313, 3) := by decide +kernel
theorem dX5_pointsShown_36 : decode cX5_pointsShown 36 = .ok (.isub, 1) := by decide +kernel
theorem dX5_pointsShown_37 : decode cX5_pointsShown 37 = .ok (.iadd, 1) := by decide +kernel
theorem dX5_pointsShown_38 : decode cX5_pointsShown 38 = .ok (.istore_n 1, 1) := by decide +kernel
theorem dX5_pointsShown_39 : decode cX5_pointsShown 39 = .ok (.iinc 2 1, 3) := by decide +kernel
theorem dX5_pointsShown_42 : decode cX5_pointsShown 42 = .ok (.goto (-38), 3) := by decide +kernel
theorem dX5_pointsShown_45 : decode cX5_pointsShown 45 = .ok (.iload_n 1, 1) := by decide +kernel
theorem dX5_pointsShown_46 : decode cX5_pointsShown 46 = .ok (.ireturn, 1) := by decide +kernel
theorem dX5_like_0 : decode cX5_like 0 = .ok (.sipush 360, 3) := by decide +kernel
theorem dX5_like_3 : decode cX5_like 3 = .ok (.istore_n 1, 1) := by decide +kernel
theorem dX5_like_4 : decode cX5_like 4 = .ok (.iconst 1, 1) := by decide +kernel
theorem dX5_like_5 : decode cX5_like 5 = .ok (.istore_n 2, 1) := by decide +kernel
theorem dX5_like_6 : decode cX5_like 6 = .ok (.iload_n 2, 1) := by decide +kernel
theorem dX5_like_7 : decode cX5_like 7 = .ok (.bipush 9, 2) := by decide +kernel
theorem dX5_like_9 : decode cX5_like 9 = .ok (.if_icmp .gt 34, 3) := by decide +kernel
theorem dX5_like_12 : decode cX5_like 12 = .ok (.aload_n 0, 1) := by decide +kernel
theorem dX5_like_13 : decode cX5_like 13 = .ok (.getfield 37, 3) := by decide +kernel
theorem dX5_like_16 : decode cX5_like 16 = .ok (.iload_n 2, 1) := by decide +kernel
theorem dX5_like_17 : decode cX5_like 17 = .ok (.invokevirtual 316, 3) := by decide +kernel
theorem dX5_like_20 : decode cX5_like 20 = .ok (.ifCond .eq 17, 3) := by decide +kernel
theorem dX5_like_23 : decode cX5_like 23 = .ok (.aload_n 0, 1) := by decide +kernel
theorem dX5_like_24 : decode cX5_like 24 = .ok (.iload_n 2, 1) := by decide +kernel
theorem dX5_like_25 : decode cX5_like 25 = .ok (.invokevirtual 319, 3) := by decide +kernel
theorem dX5_like_28 : decode cX5_like 28 = .ok (.iload_n 1, 1) := by decide +kernel
theorem dX5_like_29 : decode cX5_like 29 = .ok (.aload_n 0, 1) := by decide +kernel
theorem dX5_like_30 : decode cX5_like 30 = .ok (.invokevirtual 322, 3) := by decide +kernel
theorem dX5_like_33 : decode cX5_like 33 = .ok (.invokestatic 325, 3) := by decide +kernel
theorem dX5_like_36 : decode cX5_like 36 = .ok (.istore_n 1, 1) := by decide +kernel
theorem dX5_like_37 : decode cX5_like 37 = .ok (.iinc 2 1, 3) := by decide +kernel
theorem dX5_like_40 : decode cX5_like 40 = .ok (.goto (-34), 3) := by decide +kernel
theorem dX5_like_43 : decode cX5_like 43 = .ok (.iload_n 1, 1) := by decide +kernel
theorem dX5_like_44 : decode cX5_like 44 = .ok (.ireturn, 1) := by decide +kernel
theorem dX5_likeOfRow_0 : decode cX5_likeOfRow 0 = .ok (.sipush 360, 3) := by decide +kernel
theorem dX5_likeOfRow_3 : decode cX5_likeOfRow 3 = .ok (.istore_n 1, 1) := by decide +kernel
theorem dX5_likeOfRow_4 : decode cX5_likeOfRow 4 = .ok (.iload_n 1, 1) := by decide +kernel
theorem dX5_likeOfRow_5 : decode cX5_likeOfRow 5 = .ok (.iconst 1, 1) := by decide +kernel
theorem dX5_likeOfRow_6 : decode cX5_likeOfRow 6 = .ok (.if_icmp .le 31, 3) := by decide +kernel
theorem dX5_likeOfRow_9 : decode cX5_likeOfRow 9 = .ok (.sipush 360, 3) := by decide +kernel
theorem dX5_likeOfRow_12 : decode cX5_likeOfRow 12 = .ok (.iload_n 1, 1) := by decide +kernel
theorem dX5_likeOfRow_13 : decode cX5_likeOfRow 13 = .ok (.irem, 1) := by decide +kernel
theorem dX5_likeOfRow_14 : decode cX5_likeOfRow 14 = .ok (.ifCond .ne 17, 3) := by decide +kernel
theorem dX5_likeOfRow_17 : decode cX5_likeOfRow 17 = .ok (.aload_n 0, 1) := by decide +kernel
theorem dX5_likeOfRow_18 : decode cX5_likeOfRow 18 = .ok (.sipush 360, 3) := by decide +kernel
theorem dX5_likeOfRow_21 : decode cX5_likeOfRow 21 = .ok (.iload_n 1, 1) := by decide +kernel
theorem dX5_likeOfRow_22 : decode cX5_likeOfRow 22 = .ok (.idiv, 1) := by decide +kernel
theorem dX5_likeOfRow_23 : decode cX5_likeOfRow 23 = .ok (.invokevirtual 328, 3) := by decide +kernel
theorem dX5_likeOfRow_26 : decode cX5_likeOfRow 26 = .ok (.ifCond .eq 5, 3) := by decide +kernel
theorem dX5_likeOfRow_29 : decode cX5_likeOfRow 29 = .ok (.iload_n 1, 1) := by decide +kernel
theorem dX5_likeOfRow_30 : decode cX5_likeOfRow 30 = .ok (.ireturn, 1) := by decide +kernel
theorem dX5_likeOfRow_31 : decode cX5_likeOfRow 31 = .ok (.iinc 1 (-1), 3) := by decide +kernel
theorem dX5_likeOfRow_34 : decode cX5_likeOfRow 34 = .ok (.goto (-30), 3) := by decide +kernel
theorem dX5_likeOfRow_37 : decode cX5_likeOfRow 37 = .ok (.iconst 1, 1) := by decide +kernel
theorem dX5_likeOfRow_38 : decode cX5_likeOfRow 38 = .ok (.ireturn, 1) := by decide +kernel
theorem dX5_isSameTurned_0 : decode cX5_isSameTurned 0 = .ok (.iconst 0, 1) := by decide +kernel
theorem dX5_isSameTurned_1 : decode cX5_isSameTurned 1 = .ok (.istore_n 2, 1) := by decide +kernel
theorem dX5_isSameTurned_2 : decode cX5_isSameTurned 2 = .ok (.iload_n 2, 1) := by decide +kernel
theorem dX5_isSameTurned_3 : decode cX5_isSameTurned 3 = .ok (.sipush 360, 3) := by decide +kernel
theorem dX5_isSameTurned_6 : decode cX5_isSameTurned 6 = .ok (.if_icmp .ge 34, 3) := by decide +kernel
theorem dX5_isSameTurned_9 : decode cX5_isSameTurned 9 = .ok (.aload_n 0, 1) := by decide +kernel
theorem dX5_isSameTurned_10 : decode cX5_isSameTurned 10 = .ok (.getfield 58, 3) := by decide +kernel
theorem dX5_isSameTurned_13 : decode cX5_isSameTurned 13 = .ok (.iload_n 2, 1) := by decide +kernel
theorem dX5_isSameTurned_14 : decode cX5_isSameTurned 14 = .ok (.iaload, 1) := by decide +kernel
theorem dX5_isSameTurned_15 : decode cX5_isSameTurned 15 = .ok (.aload_n 0, 1) := by decide +kernel
theorem dX5_isSameTurned_16 : decode cX5_isSameTurned 16 = .ok (.getfield 58, 3) := by decide +kernel
theorem dX5_isSameTurned_19 : decode cX5_isSameTurned 19 = .ok (.iload_n 2, 1) := by decide +kernel
theorem dX5_isSameTurned_20 : decode cX5_isSameTurned 20 = .ok (.iload_n 1, 1) := by decide +kernel
theorem dX5_isSameTurned_21 : decode cX5_isSameTurned 21 = .ok (.iadd, 1) := by decide +kernel
theorem dX5_isSameTurned_22 : decode cX5_isSameTurned 22 = .ok (.sipush 360, 3) := by decide +kernel
theorem dX5_isSameTurned_25 : decode cX5_isSameTurned 25 = .ok (.invokestatic 237, 3) := by decide +kernel
theorem dX5_isSameTurned_28 : decode cX5_isSameTurned 28 = .ok (.iaload, 1) := by decide +kernel
theorem dX5_isSameTurned_29 : decode cX5_isSameTurned 29 = .ok (.if_icmp .eq 5, 3) := by decide +kernel
theorem dX5_isSameTurned_32 : decode cX5_isSameTurned 32 = .ok (.iconst 0, 1) := by decide +kernel
theorem dX5_isSameTurned_33 : decode cX5_isSameTurned 33 = .ok (.ireturn, 1) := by decide +kernel
theorem dX5_isSameTurned_34 : decode cX5_isSameTurned 34 = .ok (.iinc 2 1, 3) := by decide +kernel
theorem dX5_isSameTurned_37 : decode cX5_isSameTurned 37 = .ok (.goto (-35), 3) := by decide +kernel
theorem dX5_isSameTurned_40 : decode cX5_isSameTurned 40 = .ok (.iconst 1, 1) := by decide +kernel
theorem dX5_isSameTurned_41 : decode cX5_isSameTurned 41 = .ok (.ireturn, 1) := by decide +kernel
theorem dX5_noteBareTeeth_0 : decode cX5_noteBareTeeth 0 = .ok (.aload_n 0, 1) := by decide +kernel
theorem dX5_noteBareTeeth_1 : decode cX5_noteBareTeeth 1 = .ok (.iload_n 2, 1) := by decide +kernel
theorem dX5_noteBareTeeth_2 : decode cX5_noteBareTeeth 2 = .ok (.invokevirtual 310, 3) := by decide +kernel
theorem dX5_noteBareTeeth_5 : decode cX5_noteBareTeeth 5 = .ok (.aload_n 0, 1) := by decide +kernel
theorem dX5_noteBareTeeth_6 : decode cX5_noteBareTeeth 6 = .ok (.getfield 26, 3) := by decide +kernel
theorem dX5_noteBareTeeth_9 : decode cX5_noteBareTeeth 9 = .ok (.iload_n 1, 1) := by decide +kernel
theorem dX5_noteBareTeeth_10 : decode cX5_noteBareTeeth 10 = .ok (.invokevirtual 234, 3) := by decide +kernel
theorem dX5_noteBareTeeth_13 : decode cX5_noteBareTeeth 13 = .ok (.istore_n 3, 1) := by decide +kernel
theorem dX5_noteBareTeeth_14 : decode cX5_noteBareTeeth 14 = .ok (.iconst 0, 1) := by decide +kernel
theorem dX5_noteBareTeeth_15 : decode cX5_noteBareTeeth 15 = .ok (.istore 4, 2) := by decide +kernel
theorem dX5_noteBareTeeth_17 : decode cX5_noteBareTeeth 17 = .ok (.iconst 0, 1) := by decide +kernel
theorem dX5_noteBareTeeth_18 : decode cX5_noteBareTeeth 18 = .ok (.istore 5, 2) := by decide +kernel
theorem dX5_noteBareTeeth_20 : decode cX5_noteBareTeeth 20 = .ok (.iload 5, 2) := by decide +kernel
theorem dX5_noteBareTeeth_22 : decode cX5_noteBareTeeth 22 = .ok (.aload_n 0, 1) := by decide +kernel
theorem dX5_noteBareTeeth_23 : decode cX5_noteBareTeeth 23 = .ok (.getfield 26, 3) := by decide +kernel
theorem dX5_noteBareTeeth_26 : decode cX5_noteBareTeeth 26 = .ok (.iload_n 1, 1) := by decide +kernel
theorem dX5_noteBareTeeth_27 : decode cX5_noteBareTeeth 27 = .ok (.invokevirtual 102, 3) := by decide +kernel
theorem dX5_noteBareTeeth_30 : decode cX5_noteBareTeeth 30 = .ok (.if_icmp .ge 75, 3) := by decide +kernel
theorem dX5_noteBareTeeth_33 : decode cX5_noteBareTeeth 33 = .ok (.iload 5, 2) := by decide +kernel
theorem dX5_noteBareTeeth_35 : decode cX5_noteBareTeeth 35 = .ok (.aload_n 0, 1) := by decide +kernel
theorem dX5_noteBareTeeth_36 : decode cX5_noteBareTeeth 36 = .ok (.getfield 62, 3) := by decide +kernel
theorem dX5_noteBareTeeth_39 : decode cX5_noteBareTeeth 39 = .ok (.arraylength, 1) := by decide +kernel
theorem dX5_noteBareTeeth_40 : decode cX5_noteBareTeeth 40 = .ok (.if_icmp .ge 65, 3) := by decide +kernel
theorem dX5_noteBareTeeth_43 : decode cX5_noteBareTeeth 43 = .ok (.iload_n 3, 1) := by decide +kernel
theorem dX5_noteBareTeeth_44 : decode cX5_noteBareTeeth 44 = .ok (.iload 5, 2) := by decide +kernel
theorem dX5_noteBareTeeth_46 : decode cX5_noteBareTeeth 46 = .ok (.imul, 1) := by decide +kernel
theorem dX5_noteBareTeeth_47 : decode cX5_noteBareTeeth 47 = .ok (.aload_n 0, 1) := by decide +kernel
theorem dX5_noteBareTeeth_48 : decode cX5_noteBareTeeth 48 = .ok (.getfield 37, 3) := by decide +kernel
theorem dX5_noteBareTeeth_51 : decode cX5_noteBareTeeth 51 = .ok (.getfield 164, 3) := by decide +kernel
theorem dX5_noteBareTeeth_54 : decode cX5_noteBareTeeth 54 = .ok (.iadd, 1) := by decide +kernel
theorem dX5_noteBareTeeth_55 : decode cX5_noteBareTeeth 55 = .ok (.sipush 360, 3) := by decide +kernel
theorem dX5_noteBareTeeth_58 : decode cX5_noteBareTeeth 58 = .ok (.invokestatic 237, 3) := by decide +kernel
theorem dX5_noteBareTeeth_61 : decode cX5_noteBareTeeth 61 = .ok (.istore 6, 2) := by decide +kernel
theorem dX5_noteBareTeeth_63 : decode cX5_noteBareTeeth 63 = .ok (.aload_n 0, 1) := by decide +kernel
theorem dX5_noteBareTeeth_64 : decode cX5_noteBareTeeth 64 = .ok (.getfield 62, 3) := by decide +kernel
theorem dX5_noteBareTeeth_67 : decode cX5_noteBareTeeth 67 = .ok (.iload 5, 2) := by decide +kernel
theorem dX5_noteBareTeeth_69 : decode cX5_noteBareTeeth 69 = .ok (.aload_n 0, 1) := by decide +kernel
theorem dX5_noteBareTeeth_70 : decode cX5_noteBareTeeth 70 = .ok (.getfield 58, 3) := by decide +kernel
theorem dX5_noteBareTeeth_73 : decode cX5_noteBareTeeth 73 = .ok (.iload 6, 2) := by decide +kernel
theorem dX5_noteBareTeeth_75 : decode cX5_noteBareTeeth 75 = .ok (.iaload, 1) := by decide +kernel
theorem dX5_noteBareTeeth_76 : decode cX5_noteBareTeeth 76 = .ok (.bipush (-9), 2) := by decide +kernel
theorem dX5_noteBareTeeth_78 : decode cX5_noteBareTeeth 78 = .ok (.if_icmp .ne 7, 3) := by decide +kernel
theorem dX5_noteBareTeeth_81 : decode cX5_noteBareTeeth 81 = .ok (.iconst 1, 1) := by decide +kernel
theorem dX5_noteBareTeeth_82 : decode cX5_noteBareTeeth 82 = .ok (.goto 4, 3) := by decide +kernel
theorem dX5_noteBareTeeth_85 : decode cX5_noteBareTeeth 85 = .ok (.iconst 0, 1) := by decide +kernel
theorem dX5_noteBareTeeth_86 : decode cX5_noteBareTeeth 86 = .ok (.iastore, 1) := by decide +kernel
theorem dX5_noteBareTeeth_87 : decode cX5_noteBareTeeth 87 = .ok (.iload 4, 2) := by decide +kernel
theorem dX5_noteBareTeeth_89 : decode cX5_noteBareTeeth 89 = .ok (.aload_n 0, 1) := by decide +kernel
theorem dX5_noteBareTeeth_90 : decode cX5_noteBareTeeth 90 = .ok (.getfield 62, 3) := by decide +kernel
theorem dX5_noteBareTeeth_93 : decode cX5_noteBareTeeth 93 = .ok (.iload 5, 2) := by decide +kernel
theorem dX5_noteBareTeeth_95 : decode cX5_noteBareTeeth 95 = .ok (.iaload, 1) := by decide +kernel
theorem dX5_noteBareTeeth_96 : decode cX5_noteBareTeeth 96 = .ok (.iadd, 1) := by decide +kernel
theorem dX5_noteBareTeeth_97 : decode cX5_noteBareTeeth 97 = .ok (.istore 4, 2) := by decide +kernel
theorem dX5_noteBareTeeth_99 : decode cX5_noteBareTeeth 99 = .ok (.iinc 5 1, 3) := by decide +kernel
theorem dX5_noteBareTeeth_102 : decode cX5_noteBareTeeth 102 = .ok (.goto (-82), 3) := by decide +kernel
theorem dX5_noteBareTeeth_105 : decode cX5_noteBareTeeth 105 = .ok (.iload 4, 2) := by decide +kernel
theorem dX5_noteBareTeeth_107 : decode cX5_noteBareTeeth 107 = .ok (.ireturn, 1) := by decide +kernel
theorem dX5_curvesNeeded_0 : decode cX5_curvesNeeded 0 = .ok (.iconst 0, 1) := by decide +kernel
theorem dX5_curvesNeeded_1 : decode cX5_curvesNeeded 1 = .ok (.istore_n 3, 1) := by decide +kernel
theorem dX5_curvesNeeded_2 : decode cX5_curvesNeeded 2 = .ok (.iconst 0, 1) := by decide +kernel
theorem dX5_curvesNeeded_3 : decode cX5_curvesNeeded 3 = .ok (.istore 4, 2) := by decide +kernel
theorem dX5_curvesNeeded_5 : decode cX5_curvesNeeded 5 = .ok (.iload 4, 2) := by decide +kernel
theorem dX5_curvesNeeded_7 : decode cX5_curvesNeeded 7 = .ok (.iload_n 2, 1) := by decide +kernel
theorem dX5_curvesNeeded_8 : decode cX5_curvesNeeded 8 = .ok (.if_icmp .ge 23, 3) := by decide +kernel
theorem dX5_curvesNeeded_11 : decode cX5_curvesNeeded 11 = .ok (.aload_n 0, 1) := by decide +kernel
theorem dX5_curvesNeeded_12 : decode cX5_curvesNeeded 12 = .ok (.iload 4, 2) := by decide +kernel
theorem dX5_curvesNeeded_14 : decode cX5_curvesNeeded 14 = .ok (.iload_n 1, 1) := by decide +kernel
theorem dX5_curvesNeeded_15 : decode cX5_curvesNeeded 15 = .ok (.iload_n 2, 1) := by decide +kernel
theorem dX5_curvesNeeded_16 : decode cX5_curvesNeeded 16 = .ok (.invokevirtual 331, 3) := by decide +kernel
theorem dX5_curvesNeeded_19 : decode cX5_curvesNeeded 19 = .ok (.ifCond .eq 6, 3) := by decide +kernel
theorem dX5_curvesNeeded_22 : decode cX5_curvesNeeded 22 = .ok (.iinc 3 1, 3) := by decide +kernel
theorem dX5_curvesNeeded_25 : decode cX5_curvesNeeded 25 = .ok (.iinc 4 1, 3) := by decide +kernel
theorem dX5_curvesNeeded_28 : decode cX5_curvesNeeded 28 = .ok (.goto (-23), 3) := by decide +kernel
theorem dX5_curvesNeeded_31 : decode cX5_curvesNeeded 31 = .ok (.iload_n 3, 1) := by decide +kernel
theorem dX5_curvesNeeded_32 : decode cX5_curvesNeeded 32 = .ok (.ireturn, 1) := by decide +kernel
theorem dX5_isClassBare_0 : decode cX5_isClassBare 0 = .ok (.iload_n 3, 1) := by decide +kernel
theorem dX5_isClassBare_1 : decode cX5_isClassBare 1 = .ok (.iconst 1, 1) := by decide +kernel
theorem dX5_isClassBare_2 : decode cX5_isClassBare 2 = .ok (.invokestatic 220, 3) := by decide +kernel
theorem dX5_isClassBare_5 : decode cX5_isClassBare 5 = .ok (.istore 4, 2) := by decide +kernel
theorem dX5_isClassBare_7 : decode cX5_isClassBare 7 = .ok (.iload_n 1, 1) := by decide +kernel
theorem dX5_isClassBare_8 : decode cX5_isClassBare 8 = .ok (.istore 5, 2) := by decide +kernel
theorem dX5_isClassBare_10 : decode cX5_isClassBare 10 = .ok (.iload 5, 2) := by decide +kernel
theorem dX5_isClassBare_12 : decode cX5_isClassBare 12 = .ok (.iload_n 2, 1) := by decide +kernel
theorem dX5_isClassBare_13 : decode cX5_isClassBare 13 = .ok (.if_icmp .ge 36, 3) := by decide +kernel
theorem dX5_isClassBare_16 : decode cX5_isClassBare 16 = .ok (.iload 5, 2) := by decide +kernel
theorem dX5_isClassBare_18 : decode cX5_isClassBare 18 = .ok (.aload_n 0, 1) := by decide +kernel
theorem dX5_isClassBare_19 : decode cX5_isClassBare 19 = .ok (.getfield 62, 3) := by decide +kernel
theorem dX5_isClassBare_22 : decode cX5_isClassBare 22 = .ok (.arraylength, 1) := by decide +kernel
theorem dX5_isClassBare_23 : decode cX5_isClassBare 23 = .ok (.if_icmp .ge 26, 3) := by decide +kernel
theorem dX5_isClassBare_26 : decode cX5_isClassBare 26 = .ok (.aload_n 0, 1) := by decide +kernel
theorem dX5_isClassBare_27 : decode cX5_isClassBare 27 = .ok (.getfield 62, 3) := by decide +kernel
theorem dX5_isClassBare_30 : decode cX5_isClassBare 30 = .ok (.iload 5, 2) := by decide +kernel
theorem dX5_isClassBare_32 : decode cX5_isClassBare 32 = .ok (.iaload, 1) := by decide +kernel
theorem dX5_isClassBare_33 : decode cX5_isClassBare 33 = .ok (.iconst 1, 1) := by decide +kernel
theorem dX5_isClassBare_34 : decode cX5_isClassBare 34 = .ok (.if_icmp .ne 5, 3) := by decide +kernel
theorem dX5_isClassBare_37 : decode cX5_isClassBare 37 = .ok (.iconst 1, 1) := by decide +kernel
theorem dX5_isClassBare_38 : decode cX5_isClassBare 38 = .ok (.ireturn, 1) := by decide +kernel
theorem dX5_isClassBare_39 : decode cX5_isClassBare 39 = .ok (.iload 5, 2) := by decide +kernel
theorem dX5_isClassBare_41 : decode cX5_isClassBare 41 = .ok (.iload 4, 2) := by decide +kernel
theorem dX5_isClassBare_43 : decode cX5_isClassBare 43 = .ok (.iadd, 1) := by decide +kernel
theorem dX5_isClassBare_44 : decode cX5_isClassBare 44 = .ok (.istore 5, 2) := by decide +kernel
theorem dX5_isClassBare_46 : decode cX5_isClassBare 46 = .ok (.goto (-36), 3) := by decide +kernel
theorem dX5_isClassBare_49 : decode cX5_isClassBare 49 = .ok (.iconst 0, 1) := by decide +kernel
theorem dX5_isClassBare_50 : decode cX5_isClassBare 50 = .ok (.ireturn, 1) := by decide +kernel
theorem dX5_noteMostPetals_0 : decode cX5_noteMostPetals 0 = .ok (.aload_n 0, 1) := by decide +kernel
theorem dX5_noteMostPetals_1 : decode cX5_noteMostPetals 1 = .ok (.getfield 65, 3) := by decide +kernel
theorem dX5_noteMostPetals_4 : decode cX5_noteMostPetals 4 = .ok (.iconst 0, 1) := by decide +kernel
theorem dX5_noteMostPetals_5 : decode cX5_noteMostPetals 5 = .ok (.invokestatic 304, 3) := by decide +kernel
theorem dX5_noteMostPetals_8 : decode cX5_noteMostPetals 8 = .ok (.iconst 0, 1) := by decide +kernel
theorem dX5_noteMostPetals_9 : decode cX5_noteMostPetals 9 = .ok (.istore_n 1, 1) := by decide +kernel
theorem dX5_noteMostPetals_10 : decode cX5_noteMostPetals 10 = .ok (.iload_n 1, 1) := by decide +kernel
theorem dX5_noteMostPetals_11 : decode cX5_noteMostPetals 11 = .ok (.aload_n 0, 1) := by decide +kernel
theorem dX5_noteMostPetals_12 : decode cX5_noteMostPetals 12 = .ok (.getfield 26, 3) := by decide +kernel
theorem dX5_noteMostPetals_15 : decode cX5_noteMostPetals 15 = .ok (.getfield 287, 3) := by decide +kernel
theorem dX5_noteMostPetals_18 : decode cX5_noteMostPetals 18 = .ok (.if_icmp .ge 62, 3) := by decide +kernel
theorem dX5_noteMostPetals_21 : decode cX5_noteMostPetals 21 = .ok (.iconst 0, 1) := by decide +kernel
theorem dX5_noteMostPetals_22 : decode cX5_noteMostPetals 22 = .ok (.istore_n 2, 1) := by decide +kernel
theorem dX5_noteMostPetals_23 : decode cX5_noteMostPetals 23 = .ok (.iload_n 2, 1) := by decide +kernel
theorem dX5_noteMostPetals_24 : decode cX5_noteMostPetals 24 = .ok (.aload_n 0, 1) := by decide +kernel
theorem dX5_noteMostPetals_25 : decode cX5_noteMostPetals 25 = .ok (.getfield 26, 3) := by decide +kernel
theorem dX5_noteMostPetals_28 : decode cX5_noteMostPetals 28 = .ok (.getfield 205, 3) := by decide +kernel
theorem dX5_noteMostPetals_31 : decode cX5_noteMostPetals 31 = .ok (.if_icmp .ge 43, 3) := by decide +kernel
theorem dX5_noteMostPetals_34 : decode cX5_noteMostPetals 34 = .ok (.aload_n 0, 1) := by decide +kernel
theorem dX5_noteMostPetals_35 : decode cX5_noteMostPetals 35 = .ok (.getfield 26, 3) := by decide +kernel
theorem dX5_noteMostPetals_38 : decode cX5_noteMostPetals 38 = .ok (.iload_n 1, 1) := by decide +kernel
theorem dX5_noteMostPetals_39 : decode cX5_noteMostPetals 39 = .ok (.iload_n 2, 1) := by decide +kernel
theorem dX5_noteMostPetals_40 : decode cX5_noteMostPetals 40 = .ok (.invokevirtual 112, 3) := by decide +kernel
theorem dX5_noteMostPetals_43 : decode cX5_noteMostPetals 43 = .ok (.ifCond .eq 25, 3) := by decide +kernel
theorem dX5_noteMostPetals_46 : decode cX5_noteMostPetals 46 = .ok (.aload_n 0, 1) := by decide +kernel
theorem dX5_noteMostPetals_47 : decode cX5_noteMostPetals 47 = .ok (.aload_n 0, 1) := by decide +kernel
theorem dX5_noteMostPetals_48 : decode cX5_noteMostPetals 48 = .ok (.getfield 26, 3) := by decide +kernel
theorem dX5_noteMostPetals_51 : decode cX5_noteMostPetals 51 = .ok (.iload_n 1, 1) := by decide +kernel
theorem dX5_noteMostPetals_52 : decode cX5_noteMostPetals 52 = .ok (.iload_n 2, 1) := by decide +kernel
theorem dX5_noteMostPetals_53 : decode cX5_noteMostPetals 53 = .ok (.invokevirtual 123, 3) := by decide +kernel
theorem dX5_noteMostPetals_56 : decode cX5_noteMostPetals 56 = .ok (.aload_n 0, 1) := by decide +kernel
theorem dX5_noteMostPetals_57 : decode cX5_noteMostPetals 57 = .ok (.getfield 26, 3) := by decide +kernel
theorem dX5_noteMostPetals_60 : decode cX5_noteMostPetals 60 = .ok (.iload_n 1, 1) := by decide +kernel
theorem dX5_noteMostPetals_61 : decode cX5_noteMostPetals 61 = .ok (.iload_n 2, 1) := by decide +kernel
theorem dX5_noteMostPetals_62 : decode cX5_noteMostPetals 62 = .ok (.invokevirtual 116, 3) := by decide +kernel
theorem dX5_noteMostPetals_65 : decode cX5_noteMostPetals 65 = .ok (.invokevirtual 334, 3) := by decide +kernel
theorem dX5_noteMostPetals_68 : decode cX5_noteMostPetals 68 = .ok (.iinc 2 1, 3) := by decide +kernel
theorem dX5_noteMostPetals_71 : decode cX5_noteMostPetals 71 = .ok (.goto (-48), 3) := by decide +kernel
theorem dX5_noteMostPetals_74 : decode cX5_noteMostPetals 74 = .ok (.iinc 1 1, 3) := by decide +kernel
theorem dX5_noteMostPetals_77 : decode cX5_noteMostPetals 77 = .ok (.goto (-67), 3) := by decide +kernel
theorem dX5_noteMostPetals_80 : decode cX5_noteMostPetals 80 = .ok (.aload_n 0, 1) := by decide +kernel
theorem dX5_noteMostPetals_81 : decode cX5_noteMostPetals 81 = .ok (.iconst 1, 1) := by decide +kernel
theorem dX5_noteMostPetals_82 : decode cX5_noteMostPetals 82 = .ok (.putfield 68, 3) := by decide +kernel
theorem dX5_noteMostPetals_85 : decode cX5_noteMostPetals 85 = .ok (.return_, 1) := by decide +kernel
theorem dX5_addTwo_0 : decode cX5_addTwo 0 = .ok (.iload_n 1, 1) := by decide +kernel
theorem dX5_addTwo_1 : decode cX5_addTwo 1 = .ok (.iconst 0, 1) := by decide +kernel
theorem dX5_addTwo_2 : decode cX5_addTwo 2 = .ok (.invokestatic 220, 3) := by decide +kernel
theorem dX5_addTwo_5 : decode cX5_addTwo 5 = .ok (.istore_n 3, 1) := by decide +kernel
theorem dX5_addTwo_6 : decode cX5_addTwo 6 = .ok (.sipush 999, 3) := by decide +kernel
theorem dX5_addTwo_9 : decode cX5_addTwo 9 = .ok (.istore 4, 2) := by decide +kernel
theorem dX5_addTwo_11 : decode cX5_addTwo 11 = .ok (.iload 4, 2) := by decide +kernel
theorem dX5_addTwo_13 : decode cX5_addTwo 13 = .ok (.iload_n 3, 1) := by decide +kernel
theorem dX5_addTwo_14 : decode cX5_addTwo 14 = .ok (.if_icmp .lt 37, 3) := by decide +kernel
theorem dX5_addTwo_17 : decode cX5_addTwo 17 = .ok (.aload_n 0, 1) := by decide +kernel
theorem dX5_addTwo_18 : decode cX5_addTwo 18 = .ok (.getfield 65, 3) := by decide +kernel
theorem dX5_addTwo_21 : decode cX5_addTwo 21 = .ok (.iload 4, 2) := by decide +kernel
theorem dX5_addTwo_23 : decode cX5_addTwo 23 = .ok (.aload_n 0, 1) := by decide +kernel
theorem dX5_addTwo_24 : decode cX5_addTwo 24 = .ok (.getfield 65, 3) := by decide +kernel
theorem dX5_addTwo_27 : decode cX5_addTwo 27 = .ok (.iload 4, 2) := by decide +kernel
theorem dX5_addTwo_29 : decode cX5_addTwo 29 = .ok (.iaload, 1) := by decide +kernel
theorem dX5_addTwo_30 : decode cX5_addTwo 30 = .ok (.aload_n 0, 1) := by decide +kernel
theorem dX5_addTwo_31 : decode cX5_addTwo 31 = .ok (.getfield 65, 3) := by decide +kernel
theorem dX5_addTwo_34 : decode cX5_addTwo 34 = .ok (.iload 4, 2) := by decide +kernel
theorem dX5_addTwo_36 : decode cX5_addTwo 36 = .ok (.iload_n 3, 1) := by decide +kernel
theorem dX5_addTwo_37 : decode cX5_addTwo 37 = .ok (.isub, 1) := by decide +kernel
theorem dX5_addTwo_38 : decode cX5_addTwo 38 = .ok (.iaload, 1) := by decide +kernel
theorem dX5_addTwo_39 : decode cX5_addTwo 39 = .ok (.iload_n 2, 1) := by decide +kernel
theorem dX5_addTwo_40 : decode cX5_addTwo 40 = .ok (.iadd, 1) := by decide +kernel
theorem dX5_addTwo_41 : decode cX5_addTwo 41 = .ok (.invokestatic 220, 3) := by decide +kernel
theorem dX5_addTwo_44 : decode cX5_addTwo 44 = .ok (.iastore, 1) := by decide +kernel
theorem dX5_addTwo_45 : decode cX5_addTwo 45 = .ok (.iinc 4 (-1), 3) := by decide +kernel
theorem dX5_addTwo_48 : decode cX5_addTwo 48 = .ok (.goto (-37), 3) := by decide +kernel
theorem dX5_addTwo_51 : decode cX5_addTwo 51 = .ok (.return_, 1) := by decide +kernel
theorem dX5_guesses_0 : decode cX5_guesses 0 = .ok (.aload_n 0, 1) := by decide +kernel
theorem dX5_guesses_1 : decode cX5_guesses 1 = .ok (.getfield 26, 3) := by decide +kernel
theorem dX5_guesses_4 : decode cX5_guesses 4 = .ok (.iload_n 1, 1) := by decide +kernel
theorem dX5_guesses_5 : decode cX5_guesses 5 = .ok (.invokevirtual 102, 3) := by decide +kernel
theorem dX5_guesses_8 : decode cX5_guesses 8 = .ok (.istore_n 2, 1) := by decide +kernel
theorem dX5_guesses_9 : decode cX5_guesses 9 = .ok (.iconst 0, 1) := by decide +kernel
theorem dX5_guesses_10 : decode cX5_guesses 10 = .ok (.istore_n 3, 1) := by decide +kernel
theorem dX5_guesses_11 : decode cX5_guesses 11 = .ok (.iconst 0, 1) := by decide +kernel
theorem dX5_guesses_12 : decode cX5_guesses 12 = .ok (.istore 4, 2) := by decide +kernel
theorem dX5_guesses_14 : decode cX5_guesses 14 = .ok (.iload 4, 2) := by decide +kernel
theorem dX5_guesses_16 : decode cX5_guesses 16 = .ok (.aload_n 0, 1) := by decide +kernel
theorem dX5_guesses_17 : decode cX5_guesses 17 = .ok (.getfield 26, 3) := by decide +kernel
theorem dX5_guesses_20 : decode cX5_guesses 20 = .ok (.getfield 205, 3) := by decide +kernel
theorem dX5_guesses_23 : decode cX5_guesses 23 = .ok (.if_icmp .ge 58, 3) := by decide +kernel
theorem dX5_guesses_26 : decode cX5_guesses 26 = .ok (.aload_n 0, 1) := by decide +kernel
theorem dX5_guesses_27 : decode cX5_guesses 27 = .ok (.getfield 26, 3) := by decide +kernel
theorem dX5_guesses_30 : decode cX5_guesses 30 = .ok (.iload_n 1, 1) := by decide +kernel
theorem dX5_guesses_31 : decode cX5_guesses 31 = .ok (.iload 4, 2) := by decide +kernel
theorem dX5_guesses_33 : decode cX5_guesses 33 = .ok (.invokevirtual 112, 3) := by decide +kernel
theorem dX5_guesses_36 : decode cX5_guesses 36 = .ok (.ifCond .eq 39, 3) := by decide +kernel
theorem dX5_guesses_39 : decode cX5_guesses 39 = .ok (.aload_n 0, 1) := by decide +kernel
theorem dX5_guesses_40 : decode cX5_guesses 40 = .ok (.getfield 26, 3) := by decide +kernel
theorem dX5_guesses_43 : decode cX5_guesses 43 = .ok (.iload_n 1, 1) := by decide +kernel
theorem dX5_guesses_44 : decode cX5_guesses 44 = .ok (.iload 4, 2) := by decide +kernel
theorem dX5_guesses_46 : decode cX5_guesses 46 = .ok (.invokevirtual 211, 3) := by decide +kernel
theorem dX5_guesses_49 : decode cX5_guesses 49 = .ok (.istore 5, 2) := by decide +kernel
theorem dX5_guesses_51 : decode cX5_guesses 51 = .ok (.iload_n 3, 1) := by decide +kernel
theorem dX5_guesses_52 : decode cX5_guesses 52 = .ok (.aload_n 0, 1) := by decide +kernel
theorem dX5_guesses_53 : decode cX5_guesses 53 = .ok (.getfield 26, 3) := by decide +kernel
theorem dX5_guesses_56 : decode cX5_guesses 56 = .ok (.iload_n 1, 1) := by decide +kernel
theorem dX5_guesses_57 : decode cX5_guesses 57 = .ok (.iload 4, 2) := by decide +kernel
theorem dX5_guesses_59 : decode cX5_guesses 59 = .ok (.invokevirtual 116, 3) := by decide +kernel
theorem dX5_guesses_62 : decode cX5_guesses 62 = .ok (.aload_n 0, 1) := by decide +kernel
theorem dX5_guesses_63 : decode cX5_guesses 63 = .ok (.getfield 19, 3) := by decide +kernel
theorem dX5_guesses_66 : decode cX5_guesses 66 = .ok (.iload_n 2, 1) := by decide +kernel
theorem dX5_guesses_67 : decode cX5_guesses 67 = .ok (.iload 5, 2) := by decide +kernel
theorem dX5_guesses_69 : decode cX5_guesses 69 = .ok (.invokevirtual 338, 3) := by decide +kernel
theorem dX5_guesses_72 : decode cX5_guesses 72 = .ok (.imul, 1) := by decide +kernel
theorem dX5_guesses_73 : decode cX5_guesses 73 = .ok (.iadd, 1) := by decide +kernel
theorem dX5_guesses_74 : decode cX5_guesses 74 = .ok (.istore_n 3, 1) := by decide +kernel
theorem dX5_guesses_75 : decode cX5_guesses 75 = .ok (.iinc 4 1, 3) := by decide +kernel
theorem dX5_guesses_78 : decode cX5_guesses 78 = .ok (.goto (-64), 3) := by decide +kernel
theorem dX5_guesses_81 : decode cX5_guesses 81 = .ok (.iload_n 3, 1) := by decide +kernel
theorem dX5_guesses_82 : decode cX5_guesses 82 = .ok (.ireturn, 1) := by decide +kernel
theorem dX5_firstGuess_0 : decode cX5_firstGuess 0 = .ok (.aload_n 0, 1) := by decide +kernel
theorem dX5_firstGuess_1 : decode cX5_firstGuess 1 = .ok (.getfield 26, 3) := by decide +kernel
theorem dX5_firstGuess_4 : decode cX5_firstGuess 4 = .ok (.iload_n 1, 1) := by decide +kernel
theorem dX5_firstGuess_5 : decode cX5_firstGuess 5 = .ok (.invokevirtual 102, 3) := by decide +kernel
theorem dX5_firstGuess_8 : decode cX5_firstGuess 8 = .ok (.istore_n 2, 1) := by decide +kernel
theorem dX5_firstGuess_9 : decode cX5_firstGuess 9 = .ok (.iconst 0, 1) := by decide +kernel
theorem dX5_firstGuess_10 : decode cX5_firstGuess 10 = .ok (.istore_n 3, 1) := by decide +kernel
theorem dX5_firstGuess_11 : decode cX5_firstGuess 11 = .ok (.iload_n 3, 1) := by decide +kernel
theorem dX5_firstGuess_12 : decode cX5_firstGuess 12 = .ok (.aload_n 0, 1) := by decide +kernel
theorem dX5_firstGuess_13 : decode cX5_firstGuess 13 = .ok (.getfield 26, 3) := by decide +kernel
theorem dX5_firstGuess_16 : decode cX5_firstGuess 16 = .ok (.getfield 205, 3) := by decide +kernel
theorem dX5_firstGuess_19 : decode cX5_firstGuess 19 = .ok (.if_icmp .ge 56, 3) := by decide +kernel
theorem dX5_firstGuess_22 : decode cX5_firstGuess 22 = .ok (.aload_n 0, 1) := by decide +kernel
theorem dX5_firstGuess_23 : decode cX5_firstGuess 23 = .ok (.getfield 26, 3) := by decide +kernel
theorem dX5_firstGuess_26 : decode cX5_firstGuess 26 = .ok (.iload_n 1, 1) := by decide +kernel
theorem dX5_firstGuess_27 : decode cX5_firstGuess 27 = .ok (.iload_n 3, 1) := by decide +kernel
theorem dX5_firstGuess_28 : decode cX5_firstGuess 28 = .ok (.invokevirtual 112, 3) := by decide +kernel
theorem dX5_firstGuess_31 : decode cX5_firstGuess 31 = .ok (.ifCond .eq 38, 3) := by decide +kernel
theorem dX5_firstGuess_34 : decode cX5_firstGuess 34 = .ok (.aload_n 0, 1) := by decide +kernel
theorem dX5_firstGuess_35 : decode cX5_firstGuess 35 = .ok (.getfield 19, 3) := by decide +kernel
theorem dX5_firstGuess_38 : decode cX5_firstGuess 38 = .ok (.iload_n 2, 1) := by decide +kernel
theorem dX5_firstGuess_39 : decode cX5_firstGuess 39 = .ok (.aload_n 0, 1) := by decide +kernel
theorem dX5_firstGuess_40 : decode cX5_firstGuess 40 = .ok (.getfield 26, 3) := by decide +kernel
theorem dX5_firstGuess_43 : decode cX5_firstGuess 43 = .ok (.iload_n 1, 1) := by decide +kernel
theorem dX5_firstGuess_44 : decode cX5_firstGuess 44 = .ok (.iload_n 3, 1) := by decide +kernel
theorem dX5_firstGuess_45 : decode cX5_firstGuess 45 = .ok (.invokevirtual 211, 3) := by decide +kernel
theorem dX5_firstGuess_48 : decode cX5_firstGuess 48 = .ok (.invokevirtual 341, 3) := by decide +kernel
theorem dX5_firstGuess_51 : decode cX5_firstGuess 51 = .ok (.istore 4, 2) := by decide +kernel
theorem dX5_firstGuess_53 : decode cX5_firstGuess 53 = .ok (.iload 4, 2) := by decide +kernel
theorem dX5_firstGuess_55 : decode cX5_firstGuess 55 = .ok (.bipush (-9), 2) := by decide +kernel
theorem dX5_firstGuess_57 : decode cX5_firstGuess 57 = .ok (.if_icmp .eq 12, 3) := by decide +kernel
theorem dX5_firstGuess_60 : decode cX5_firstGuess 60 = .ok (.sipush 1000, 3) := by decide +kernel
theorem dX5_firstGuess_63 : decode cX5_firstGuess 63 = .ok (.iload_n 3, 1) := by decide +kernel
theorem dX5_firstGuess_64 : decode cX5_firstGuess 64 = .ok (.imul, 1) := by decide +kernel
theorem dX5_firstGuess_65 : decode cX5_firstGuess 65 = .ok (.iload 4, 2) := by decide +kernel
theorem dX5_firstGuess_67 : decode cX5_firstGuess 67 = .ok (.iadd, 1) := by decide +kernel
theorem dX5_firstGuess_68 : decode cX5_firstGuess 68 = .ok (.ireturn, 1) := by decide +kernel
theorem dX5_firstGuess_69 : decode cX5_firstGuess 69 = .ok (.iinc 3 1, 3) := by decide +kernel
theorem dX5_firstGuess_72 : decode cX5_firstGuess 72 = .ok (.goto (-61), 3) := by decide +kernel
theorem dX5_firstGuess_75 : decode cX5_firstGuess 75 = .ok (.bipush (-9), 2) := by decide +kernel
theorem dX5_firstGuess_77 : decode cX5_firstGuess 77 = .ok (.ireturn, 1) := by decide +kernel
theorem dX5_noteGuessesByTooth_0 : decode cX5_noteGuessesByTooth 0 = .ok (.aload_n 0, 1) := by decide +kernel
theorem dX5_noteGuessesByTooth_1 : decode cX5_noteGuessesByTooth 1 = .ok (.getfield 62, 3) := by decide +kernel
theorem dX5_noteGuessesByTooth_4 : decode cX5_noteGuessesByTooth 4 = .ok (.iconst 0, 1) := by decide +kernel
theorem dX5_noteGuessesByTooth_5 : decode cX5_noteGuessesByTooth 5 = .ok (.invokestatic 304, 3) := by decide +kernel
theorem dX5_noteGuessesByTooth_8 : decode cX5_noteGuessesByTooth 8 = .ok (.iconst 0, 1) := by decide +kernel
theorem dX5_noteGuessesByTooth_9 : decode cX5_noteGuessesByTooth 9 = .ok (.istore_n 2, 1) := by decide +kernel
theorem dX5_noteGuessesByTooth_10 : decode cX5_noteGuessesByTooth 10 = .ok (.iload_n 2, 1) := by decide +kernel
theorem dX5_noteGuessesByTooth_11 : decode cX5_noteGuessesByTooth 11 = .ok (.aload_n 0, 1) := by decide +kernel
theorem dX5_noteGuessesByTooth_12 : decode cX5_noteGuessesByTooth 12 = .ok (.getfield 26, 3) := by decide +kernel
theorem dX5_noteGuessesByTooth_15 : decode cX5_noteGuessesByTooth 15 = .ok (.getfield 205, 3) := by decide +kernel
theorem dX5_noteGuessesByTooth_18 : decode cX5_noteGuessesByTooth 18 = .ok (.if_icmp .ge 51, 3) := by decide +kernel
theorem dX5_noteGuessesByTooth_21 : decode cX5_noteGuessesByTooth 21 = .ok (.aload_n 0, 1) := by decide +kernel
theorem dX5_noteGuessesByTooth_22 : decode cX5_noteGuessesByTooth 22 = .ok (.getfield 26, 3) := by decide +kernel
theorem dX5_noteGuessesByTooth_25 : decode cX5_noteGuessesByTooth 25 = .ok (.iload_n 1, 1) := by decide +kernel
theorem dX5_noteGuessesByTooth_26 : decode cX5_noteGuessesByTooth 26 = .ok (.iload_n 2, 1) := by decide +kernel
theorem dX5_noteGuessesByTooth_27 : decode cX5_noteGuessesByTooth 27 = .ok (.invokevirtual 112, 3) := by decide +kernel
theorem dX5_noteGuessesByTooth_30 : decode cX5_noteGuessesByTooth 30 = .ok (.ifCond .eq 33, 3) := by decide +kernel
theorem dX5_noteGuessesByTooth_33 : decode cX5_noteGuessesByTooth 33 = .ok (.aload_n 0, 1) := by decide +kernel
theorem dX5_noteGuessesByTooth_34 : decode cX5_noteGuessesByTooth 34 = .ok (.aload_n 0, 1) := by decide +kernel
theorem dX5_noteGuessesByTooth_35 : decode cX5_noteGuessesByTooth 35 = .ok (.getfield 26, 3) := by decide +kernel
theorem dX5_noteGuessesByTooth_38 : decode cX5_noteGuessesByTooth 38 = .ok (.iload_n 1, 1) := by decide +kernel
theorem dX5_noteGuessesByTooth_39 : decode cX5_noteGuessesByTooth 39 = .ok (.invokevirtual 102, 3) := by decide +kernel
theorem dX5_noteGuessesByTooth_42 : decode cX5_noteGuessesByTooth 42 = .ok (.aload_n 0, 1) := by decide +kernel
theorem dX5_noteGuessesByTooth_43 : decode cX5_noteGuessesByTooth 43 = .ok (.getfield 26, 3) := by decide +kernel
theorem dX5_noteGuessesByTooth_46 : decode cX5_noteGuessesByTooth 46 = .ok (.iload_n 1, 1) := by decide +kernel
theorem dX5_noteGuessesByTooth_47 : decode cX5_noteGuessesByTooth 47 = .ok (.iload_n 2, 1) := by decide +kernel
theorem dX5_noteGuessesByTooth_48 : decode cX5_noteGuessesByTooth 48 = .ok (.invokevirtual 211, 3) := by decide +kernel
theorem dX5_noteGuessesByTooth_51 : decode cX5_noteGuessesByTooth 51 = .ok (.aload_n 0, 1) := by decide +kernel
theorem dX5_noteGuessesByTooth_52 : decode cX5_noteGuessesByTooth 52 = .ok (.getfield 26, 3) := by decide +kernel
theorem dX5_noteGuessesByTooth_55 : decode cX5_noteGuessesByTooth 55 = .ok (.iload_n 1, 1) := by decide +kernel
theorem dX5_noteGuessesByTooth_56 : decode cX5_noteGuessesByTooth 56 = .ok (.iload_n 2, 1) := by decide +kernel
theorem dX5_noteGuessesByTooth_57 : decode cX5_noteGuessesByTooth 57 = .ok (.invokevirtual 116, 3) := by decide +kernel
theorem dX5_noteGuessesByTooth_60 : decode cX5_noteGuessesByTooth 60 = .ok (.invokevirtual 344, 3) := by decide +kernel
theorem dX5_noteGuessesByTooth_63 : decode cX5_noteGuessesByTooth 63 = .ok (.iinc 2 1, 3) := by decide +kernel
theorem dX5_noteGuessesByTooth_66 : decode cX5_noteGuessesByTooth 66 = .ok (.goto (-56), 3) := by decide +kernel
theorem dX5_noteGuessesByTooth_69 : decode cX5_noteGuessesByTooth 69 = .ok (.return_, 1) := by decide +kernel
theorem dX5_addGuesses_0 : decode cX5_addGuesses 0 = .ok (.iload_n 2, 1) := by decide +kernel
theorem dX5_addGuesses_1 : decode cX5_addGuesses 1 = .ok (.iconst 1, 1) := by decide +kernel
theorem dX5_addGuesses_2 : decode cX5_addGuesses 2 = .ok (.invokestatic 220, 3) := by decide +kernel
theorem dX5_addGuesses_5 : decode cX5_addGuesses 5 = .ok (.istore 4, 2) := by decide +kernel
theorem dX5_addGuesses_7 : decode cX5_addGuesses 7 = .ok (.iconst 0, 1) := by decide +kernel
theorem dX5_addGuesses_8 : decode cX5_addGuesses 8 = .ok (.istore 5, 2) := by decide +kernel
theorem dX5_addGuesses_10 : decode cX5_addGuesses 10 = .ok (.iload 5, 2) := by decide +kernel
theorem dX5_addGuesses_12 : decode cX5_addGuesses 12 = .ok (.iload_n 2, 1) := by decide +kernel
theorem dX5_addGuesses_13 : decode cX5_addGuesses 13 = .ok (.if_icmp .ge 64, 3) := by decide +kernel
theorem dX5_addGuesses_16 : decode cX5_addGuesses 16 = .ok (.aload_n 0, 1) := by decide +kernel
theorem dX5_addGuesses_17 : decode cX5_addGuesses 17 = .ok (.getfield 19, 3) := by decide +kernel
theorem dX5_addGuesses_20 : decode cX5_addGuesses 20 = .ok (.iload_n 1, 1) := by decide +kernel
theorem dX5_addGuesses_21 : decode cX5_addGuesses 21 = .ok (.iload_n 2, 1) := by decide +kernel
theorem dX5_addGuesses_22 : decode cX5_addGuesses 22 = .ok (.iload 5, 2) := by decide +kernel
theorem dX5_addGuesses_24 : decode cX5_addGuesses 24 = .ok (.invokevirtual 348, 3) := by decide +kernel
theorem dX5_addGuesses_27 : decode cX5_addGuesses 27 = .ok (.ifCond .eq 44, 3) := by decide +kernel
theorem dX5_addGuesses_30 : decode cX5_addGuesses 30 = .ok (.iload 5, 2) := by decide +kernel
theorem dX5_addGuesses_32 : decode cX5_addGuesses 32 = .ok (.istore 6, 2) := by decide +kernel
theorem dX5_addGuesses_34 : decode cX5_addGuesses 34 = .ok (.iload 6, 2) := by decide +kernel
theorem dX5_addGuesses_36 : decode cX5_addGuesses 36 = .ok (.iload_n 1, 1) := by decide +kernel
theorem dX5_addGuesses_37 : decode cX5_addGuesses 37 = .ok (.if_icmp .ge 34, 3) := by decide +kernel
theorem dX5_addGuesses_40 : decode cX5_addGuesses 40 = .ok (.iload 6, 2) := by decide +kernel
theorem dX5_addGuesses_42 : decode cX5_addGuesses 42 = .ok (.aload_n 0, 1) := by decide +kernel
theorem dX5_addGuesses_43 : decode cX5_addGuesses 43 = .ok (.getfield 62, 3) := by decide +kernel
theorem dX5_addGuesses_46 : decode cX5_addGuesses 46 = .ok (.arraylength, 1) := by decide +kernel
theorem dX5_addGuesses_47 : decode cX5_addGuesses 47 = .ok (.if_icmp .ge 24, 3) := by decide +kernel
theorem dX5_addGuesses_50 : decode cX5_addGuesses 50 = .ok (.aload_n 0, 1) := by decide +kernel
theorem dX5_addGuesses_51 : decode cX5_addGuesses 51 = .ok (.getfield 62, 3) := by decide +kernel
theorem dX5_addGuesses_54 : decode cX5_addGuesses 54 = .ok (.iload 6, 2) := by decide +kernel
theorem dX5_addGuesses_56 : decode cX5_addGuesses 56 = .ok (.dup2, 1) := by decide +kernel
theorem dX5_addGuesses_57 : decode cX5_addGuesses 57 = .ok (.iaload, 1) := by decide +kernel
theorem dX5_addGuesses_58 : decode cX5_addGuesses 58 = .ok (.iload_n 3, 1) := by decide +kernel
theorem dX5_addGuesses_59 : decode cX5_addGuesses 59 = .ok (.iadd, 1) := by decide +kernel
theorem dX5_addGuesses_60 : decode cX5_addGuesses 60 = .ok (.iastore, 1) := by decide +kernel
theorem dX5_addGuesses_61 : decode cX5_addGuesses 61 = .ok (.iload 6, 2) := by decide +kernel
theorem dX5_addGuesses_63 : decode cX5_addGuesses 63 = .ok (.iload 4, 2) := by decide +kernel
theorem dX5_addGuesses_65 : decode cX5_addGuesses 65 = .ok (.iadd, 1) := by decide +kernel
theorem dX5_addGuesses_66 : decode cX5_addGuesses 66 = .ok (.istore 6, 2) := by decide +kernel
theorem dX5_addGuesses_68 : decode cX5_addGuesses 68 = .ok (.goto (-34), 3) := by decide +kernel
theorem dX5_addGuesses_71 : decode cX5_addGuesses 71 = .ok (.iinc 5 1, 3) := by decide +kernel
theorem dX5_addGuesses_74 : decode cX5_addGuesses 74 = .ok (.goto (-64), 3) := by decide +kernel
theorem dX5_addGuesses_77 : decode cX5_addGuesses 77 = .ok (.return_, 1) := by decide +kernel
theorem dX5_markOfCurve_0 : decode cX5_markOfCurve 0 = .ok (.aload_n 0, 1) := by decide +kernel
theorem dX5_markOfCurve_1 : decode cX5_markOfCurve 1 = .ok (.dup, 1) := by decide +kernel
theorem dX5_markOfCurve_2 : decode cX5_markOfCurve 2 = .ok (.getfield 54, 3) := by decide +kernel
theorem dX5_markOfCurve_5 : decode cX5_markOfCurve 5 = .ok (.lconst 1, 1) := by decide +kernel
theorem dX5_markOfCurve_6 : decode cX5_markOfCurve 6 = .ok (.ladd, 1) := by decide +kernel
theorem dX5_markOfCurve_7 : decode cX5_markOfCurve 7 = .ok (.putfield 54, 3) := by decide +kernel
theorem dX5_markOfCurve_10 : decode cX5_markOfCurve 10 = .ok (.aload_n 1, 1) := by decide +kernel
theorem dX5_markOfCurve_11 : decode cX5_markOfCurve 11 = .ok (.getfield 228, 3) := by decide +kernel
theorem dX5_markOfCurve_14 : decode cX5_markOfCurve 14 = .ok (.ireturn, 1) := by decide +kernel
theorem dX5_markOfRose_0 : decode cX5_markOfRose 0 = .ok (.aload_n 0, 1) := by decide +kernel
theorem dX5_markOfRose_1 : decode cX5_markOfRose 1 = .ok (.dup, 1) := by decide +kernel
theorem dX5_markOfRose_2 : decode cX5_markOfRose 2 = .ok (.getfield 54, 3) := by decide +kernel
theorem dX5_markOfRose_5 : decode cX5_markOfRose 5 = .ok (.ldc2_w 351, 3) := by decide +kernel
theorem dX5_markOfRose_8 : decode cX5_markOfRose 8 = .ok (.ladd, 1) := by decide +kernel
theorem dX5_markOfRose_9 : decode cX5_markOfRose 9 = .ok (.putfield 54, 3) := by decide +kernel
theorem dX5_markOfRose_12 : decode cX5_markOfRose 12 = .ok (.aload_n 0, 1) := by decide +kernel
theorem dX5_markOfRose_13 : decode cX5_markOfRose 13 = .ok (.aload_n 1, 1) := by decide +kernel
theorem dX5_markOfRose_14 : decode cX5_markOfRose 14 = .ok (.invokevirtual 258, 3) := by decide +kernel
theorem dX5_markOfRose_17 : decode cX5_markOfRose 17 = .ok (.aload_n 1, 1) := by decide +kernel
theorem dX5_markOfRose_18 : decode cX5_markOfRose 18 = .ok (.getfield 145, 3) := by decide +kernel
theorem dX5_markOfRose_21 : decode cX5_markOfRose 21 = .ok (.iadd, 1) := by decide +kernel
theorem dX5_markOfRose_22 : decode cX5_markOfRose 22 = .ok (.ireturn, 1) := by decide +kernel
theorem dX5_markOfWeb_0 : decode cX5_markOfWeb 0 = .ok (.aload_n 0, 1) := by decide +kernel
theorem dX5_markOfWeb_1 : decode cX5_markOfWeb 1 = .ok (.dup, 1) := by decide +kernel
theorem dX5_markOfWeb_2 : decode cX5_markOfWeb 2 = .ok (.getfield 54, 3) := by decide +kernel
theorem dX5_markOfWeb_5 : decode cX5_markOfWeb 5 = .ok (.ldc2_w 353, 3) := by decide +kernel
theorem dX5_markOfWeb_8 : decode cX5_markOfWeb 8 = .ok (.ladd, 1) := by decide +kernel
theorem dX5_markOfWeb_9 : decode cX5_markOfWeb 9 = .ok (.putfield 54, 3) := by decide +kernel
theorem dX5_markOfWeb_12 : decode cX5_markOfWeb 12 = .ok (.aload_n 0, 1) := by decide +kernel
theorem dX5_markOfWeb_13 : decode cX5_markOfWeb 13 = .ok (.aload_n 1, 1) := by decide +kernel
theorem dX5_markOfWeb_14 : decode cX5_markOfWeb 14 = .ok (.invokevirtual 258, 3) := by decide +kernel
theorem dX5_markOfWeb_17 : decode cX5_markOfWeb 17 = .ok (.aload_n 1, 1) := by decide +kernel
theorem dX5_markOfWeb_18 : decode cX5_markOfWeb 18 = .ok (.getfield 355, 3) := by decide +kernel
theorem dX5_markOfWeb_21 : decode cX5_markOfWeb 21 = .ok (.isub, 1) := by decide +kernel
theorem dX5_markOfWeb_22 : decode cX5_markOfWeb 22 = .ok (.ireturn, 1) := by decide +kernel
theorem dX5_markOfBouquet_0 : decode cX5_markOfBouquet 0 = .ok (.aload_n 0, 1) := by decide +kernel
theorem dX5_markOfBouquet_1 : decode cX5_markOfBouquet 1 = .ok (.dup, 1) := by decide +kernel
theorem dX5_markOfBouquet_2 : decode cX5_markOfBouquet 2 = .ok (.getfield 54, 3) := by decide +kernel
theorem dX5_markOfBouquet_5 : decode cX5_markOfBouquet 5 = .ok (.ldc2_w 358, 3) := by decide +kernel
theorem dX5_markOfBouquet_8 : decode cX5_markOfBouquet 8 = .ok (.ladd, 1) := by decide +kernel
theorem dX5_markOfBouquet_9 : decode cX5_markOfBouquet 9 = .ok (.putfield 54, 3) := by decide +kernel
theorem dX5_markOfBouquet_12 : decode cX5_markOfBouquet 12 = .ok (.aload_n 0, 1) := by decide +kernel
theorem dX5_markOfBouquet_13 : decode cX5_markOfBouquet 13 = .ok (.aload_n 1, 1) := by decide +kernel
theorem dX5_markOfBouquet_14 : decode cX5_markOfBouquet 14 = .ok (.invokevirtual 262, 3) := by decide +kernel
theorem dX5_markOfBouquet_17 : decode cX5_markOfBouquet 17 = .ok (.iconst 2, 1) := by decide +kernel
theorem dX5_markOfBouquet_18 : decode cX5_markOfBouquet 18 = .ok (.imul, 1) := by decide +kernel
theorem dX5_markOfBouquet_19 : decode cX5_markOfBouquet 19 = .ok (.ireturn, 1) := by decide +kernel
theorem dX5_markOfLace_0 : decode cX5_markOfLace 0 = .ok (.aload_n 0, 1) := by decide +kernel
theorem dX5_markOfLace_1 : decode cX5_markOfLace 1 = .ok (.dup, 1) := by decide +kernel
theorem dX5_markOfLace_2 : decode cX5_markOfLace 2 = .ok (.getfield 54, 3) := by decide +kernel
theorem dX5_markOfLace_5 : decode cX5_markOfLace 5 = .ok (.ldc2_w 360, 3) := by decide +kernel
theorem dX5_markOfLace_8 : decode cX5_markOfLace 8 = .ok (.ladd, 1) := by decide +kernel
theorem dX5_markOfLace_9 : decode cX5_markOfLace 9 = .ok (.putfield 54, 3) := by decide +kernel
theorem dX5_markOfLace_12 : decode cX5_markOfLace 12 = .ok (.aload_n 0, 1) := by decide +kernel
theorem dX5_markOfLace_13 : decode cX5_markOfLace 13 = .ok (.aload_n 1, 1) := by decide +kernel
theorem dX5_markOfLace_14 : decode cX5_markOfLace 14 = .ok (.invokevirtual 265, 3) := by decide +kernel
theorem dX5_markOfLace_17 : decode cX5_markOfLace 17 = .ok (.iload_n 2, 1) := by decide +kernel
theorem dX5_markOfLace_18 : decode cX5_markOfLace 18 = .ok (.iadd, 1) := by decide +kernel
theorem dX5_markOfLace_19 : decode cX5_markOfLace 19 = .ok (.ireturn, 1) := by decide +kernel
theorem dX5_markOfStar_0 : decode cX5_markOfStar 0 = .ok (.aload_n 0, 1) := by decide +kernel
theorem dX5_markOfStar_1 : decode cX5_markOfStar 1 = .ok (.dup, 1) := by decide +kernel
theorem dX5_markOfStar_2 : decode cX5_markOfStar 2 = .ok (.getfield 54, 3) := by decide +kernel
theorem dX5_markOfStar_5 : decode cX5_markOfStar 5 = .ok (.ldc2_w 362, 3) := by decide +kernel
theorem dX5_markOfStar_8 : decode cX5_markOfStar 8 = .ok (.ladd, 1) := by decide +kernel
theorem dX5_markOfStar_9 : decode cX5_markOfStar 9 = .ok (.putfield 54, 3) := by decide +kernel
theorem dX5_markOfStar_12 : decode cX5_markOfStar 12 = .ok (.aload_n 0, 1) := by decide +kernel
theorem dX5_markOfStar_13 : decode cX5_markOfStar 13 = .ok (.aload_n 1, 1) := by decide +kernel
theorem dX5_markOfStar_14 : decode cX5_markOfStar 14 = .ok (.invokevirtual 258, 3) := by decide +kernel
theorem dX5_markOfStar_17 : decode cX5_markOfStar 17 = .ok (.aload_n 1, 1) := by decide +kernel
theorem dX5_markOfStar_18 : decode cX5_markOfStar 18 = .ok (.getfield 148, 3) := by decide +kernel
theorem dX5_markOfStar_21 : decode cX5_markOfStar 21 = .ok (.iadd, 1) := by decide +kernel
theorem dX5_markOfStar_22 : decode cX5_markOfStar 22 = .ok (.ireturn, 1) := by decide +kernel
theorem dX6_init_0 : decode cX6_init 0 = .ok (.aload_n 0, 1) := by decide +kernel
theorem dX6_init_1 : decode cX6_init 1 = .ok (.invokespecial 1, 3) := by decide +kernel
theorem dX6_init_4 : decode cX6_init 4 = .ok (.aload_n 0, 1) := by decide +kernel
theorem dX6_init_5 : decode cX6_init 5 = .ok (.iconst 4, 1) := by decide +kernel
theorem dX6_init_6 : decode cX6_init 6 = .ok (.newarray .int, 2) := by decide +kernel
theorem dX6_init_8 : decode cX6_init 8 = .ok (.putfield 7, 3) := by decide +kernel
theorem dX6_init_11 : decode cX6_init 11 = .ok (.aload_n 0, 1) := by decide +kernel
theorem dX6_init_12 : decode cX6_init 12 = .ok (.bipush 6, 2) := by decide +kernel
theorem dX6_init_14 : decode cX6_init 14 = .ok (.newarray .int, 2) := by decide +kernel
theorem dX6_init_16 : decode cX6_init 16 = .ok (.putfield 13, 3) := by decide +kernel
theorem dX6_init_19 : decode cX6_init 19 = .ok (.aload_n 0, 1) := by decide +kernel
theorem dX6_init_20 : decode cX6_init 20 = .ok (.iconst 4, 1) := by decide +kernel
theorem dX6_init_21 : decode cX6_init 21 = .ok (.newarray .int, 2) := by decide +kernel
theorem dX6_init_23 : decode cX6_init 23 = .ok (.putfield 16, 3) := by decide +kernel
theorem dX6_init_26 : decode cX6_init 26 = .ok (.aload_n 0, 1) := by decide +kernel
theorem dX6_init_27 : decode cX6_init 27 = .ok (.bipush 72, 2) := by decide +kernel
theorem dX6_init_29 : decode cX6_init 29 = .ok (.newarray .int, 2) := by decide +kernel
theorem dX6_init_31 : decode cX6_init 31 = .ok (.putfield 19, 3) := by decide +kernel
theorem dX6_init_34 : decode cX6_init 34 = .ok (.aload_n 0, 1) := by decide +kernel
theorem dX6_init_35 : decode cX6_init 35 = .ok (.bipush 6, 2) := by decide +kernel
theorem dX6_init_37 : decode cX6_init 37 = .ok (.newarray .int, 2) := by decide +kernel
theorem dX6_init_39 : decode cX6_init 39 = .ok (.putfield 22, 3) := by decide +kernel
theorem dX6_init_42 : decode cX6_init 42 = .ok (.aload_n 0, 1) := by decide +kernel
theorem dX6_init_43 : decode cX6_init 43 = .ok (.bipush 6, 2) := by decide +kernel
theorem dX6_init_45 : decode cX6_init 45 = .ok (.newarray .int, 2) := by decide +kernel
theorem dX6_init_47 : decode cX6_init 47 = .ok (.putfield 25, 3) := by decide +kernel
theorem dX6_init_50 : decode cX6_init 50 = .ok (.aload_n 0, 1) := by decide +kernel
theorem dX6_init_51 : decode cX6_init 51 = .ok (.bipush 100, 2) := by decide +kernel
theorem dX6_init_53 : decode cX6_init 53 = .ok (.newarray .int, 2) := by decide +kernel
theorem dX6_init_55 : decode cX6_init 55 = .ok (.putfield 28, 3) := by decide +kernel
theorem dX6_init_58 : decode cX6_init 58 = .ok (.aload_n 0, 1) := by decide +kernel
theorem dX6_init_59 : decode cX6_init 59 = .ok (.iconst 4, 1) := by decide +kernel
theorem dX6_init_60 : decode cX6_init 60 = .ok (.newarray .int, 2) := by decide +kernel
theorem dX6_init_62 : decode cX6_init 62 = .ok (.putfield 31, 3) := by decide +kernel
theorem dX6_init_65 : decode cX6_init 65 = .ok (.aload_n 0, 1) := by decide +kernel
theorem dX6_init_66 : decode cX6_init 66 = .ok (.bipush 6, 2) := by decide +kernel
theorem dX6_init_68 : decode cX6_init 68 = .ok (.newarray .int, 2) := by decide +kernel
theorem dX6_init_70 : decode cX6_init 70 = .ok (.putfield 34, 3) := by decide +kernel
theorem dX6_init_73 : decode cX6_init 73 = .ok (.aload_n 0, 1) := by decide +kernel
theorem dX6_init_74 : decode cX6_init 74 = .ok (.iconst 4, 1) := by decide +kernel
theorem dX6_init_75 : decode cX6_init 75 = .ok (.newarray .int, 2) := by decide +kernel
theorem dX6_init_77 : decode cX6_init 77 = .ok (.putfield 37, 3) := by decide +kernel
theorem dX6_init_80 : decode cX6_init 80 = .ok (.aload_n 0, 1) := by decide +kernel
theorem dX6_init_81 : decode cX6_init 81 = .ok (.sipush 780, 3) := by decide +kernel
theorem dX6_init_84 : decode cX6_init 84 = .ok (.newarray .int, 2) := by decide +kernel
theorem dX6_init_86 : decode cX6_init 86 = .ok (.putfield 40, 3) := by decide +kernel
theorem dX6_init_89 : decode cX6_init 89 = .ok (.aload_n 0, 1) := by decide +kernel
theorem dX6_init_90 : decode cX6_init 90 = .ok (.sipush 3240, 3) := by decide +kernel
theorem dX6_init_93 : decode cX6_init 93 = .ok (.newarray .int, 2) := by decide +kernel
theorem dX6_init_95 : decode cX6_init 95 = .ok (.putfield 43, 3) := by decide +kernel
theorem dX6_init_98 : decode cX6_init 98 = .ok (.aload_n 0, 1) := by decide +kernel
theorem dX6_init_99 : decode cX6_init 99 = .ok (.bipush 120, 2) := by decide +kernel
theorem dX6_init_101 : decode cX6_init 101 = .ok (.newarray .int, 2) := by decide +kernel
theorem dX6_init_103 : decode cX6_init 103 = .ok (.putfield 46, 3) := by decide +kernel
theorem dX6_init_106 : decode cX6_init 106 = .ok (.aload_n 0, 1) := by decide +kernel
theorem dX6_init_107 : decode cX6_init 107 = .ok (.sipush 1000, 3) := by decide +kernel
theorem dX6_init_110 : decode cX6_init 110 = .ok (.newarray .int, 2) := by decide +kernel
theorem dX6_init_112 : decode cX6_init 112 = .ok (.putfield 49, 3) := by decide +kernel
theorem dX6_init_115 : decode cX6_init 115 = .ok (.aload_n 0, 1) := by decide +kernel
theorem dX6_init_116 : decode cX6_init 116 = .ok (.bipush 120, 2) := by decide +kernel
theorem dX6_init_118 : decode cX6_init 118 = .ok (.newarray .int, 2) := by decide +kernel
theorem dX6_init_120 : decode cX6_init 120 = .ok (.putfield 52, 3) := by decide +kernel
theorem dX6_init_123 : decode cX6_init 123 = .ok (.aload_n 0, 1) := by decide +kernel
theorem dX6_init_124 : decode cX6_init 124 = .ok (.sipush 1720, 3) := by decide +kernel
theorem dX6_init_127 : decode cX6_init 127 = .ok (.newarray .int, 2) := by decide +kernel
theorem dX6_init_129 : decode cX6_init 129 = .ok (.putfield 55, 3) := by decide +kernel
theorem dX6_init_132 : decode cX6_init 132 = .ok (.return_, 1) := by decide +kernel
theorem dX6_in_0 : decode cX6_in 0 = .ok (.iload_n 0, 1) := by decide +kernel
theorem dX6_in_1 : decode cX6_in 1 = .ok (.iload_n 1, 1) := by decide +kernel
theorem dX6_in_2 : decode cX6_in 2 = .ok (.if_icmp .lt 12, 3) := by decide +kernel
theorem dX6_in_5 : decode cX6_in 5 = .ok (.iload_n 0, 1) := by decide +kernel
theorem dX6_in_6 : decode cX6_in 6 = .ok (.iload_n 2, 1) := by decide +kernel
theorem dX6_in_7 : decode cX6_in 7 = .ok (.if_icmp .gt 7, 3) := by decide +kernel
theorem dX6_in_10 : decode cX6_in 10 = .ok (.iconst 1, 1) := by decide +kernel
theorem dX6_in_11 : decode cX6_in 11 = .ok (.goto 4, 3) := by decide +kernel
theorem dX6_in_14 : decode cX6_in 14 = .ok (.iconst 0, 1) := by decide +kernel
theorem dX6_in_15 : decode cX6_in 15 = .ok (.ireturn, 1) := by decide +kernel
theorem dX6_common_0 : decode cX6_common 0 = .ok (.iload_n 0, 1) := by decide +kernel
theorem dX6_common_1 : decode cX6_common 1 = .ok (.istore_n 2, 1) := by decide +kernel
theorem dX6_common_2 : decode cX6_common 2 = .ok (.iload_n 1, 1) := by decide +kernel
theorem dX6_common_3 : decode cX6_common 3 = .ok (.istore_n 3, 1) := by decide +kernel
theorem dX6_common_4 : decode cX6_common 4 = .ok (.iload_n 3, 1) := by decide +kernel
theorem dX6_common_5 : decode cX6_common 5 = .ok (.ifCond .eq 16, 3) := by decide +kernel
theorem dX6_common_8 : decode cX6_common 8 = .ok (.iload_n 2, 1) := by decide +kernel
theorem dX6_common_9 : decode cX6_common 9 = .ok (.iload_n 3, 1) := by decide +kernel
theorem dX6_common_10 : decode cX6_common 10 = .ok (.irem, 1) := by decide +kernel
theorem dX6_common_11 : decode cX6_common 11 = .ok (.istore 4, 2) := by decide +kernel
theorem dX6_common_13 : decode cX6_common 13 = .ok (.iload_n 3, 1) := by decide +kernel
theorem dX6_common_14 : decode cX6_common 14 = .ok (.istore_n 2, 1) := by decide +kernel
theorem dX6_common_15 : decode cX6_common 15 = .ok (.iload 4, 2) := by decide +kernel
theorem dX6_common_17 : decode cX6_common 17 = .ok (.istore_n 3, 1) := by decide +kernel
theorem dX6_common_18 : decode cX6_common 18 = .ok (.goto (-14), 3) := by decide +kernel
theorem dX6_common_21 : decode cX6_common 21 = .ok (.iload_n 2, 1) := by decide +kernel
theorem dX6_common_22 : decode cX6_common 22 = .ok (.ireturn, 1) := by decide +kernel
theorem dX6_isRing_0 : decode cX6_isRing 0 = .ok (.iload_n 1, 1) := by decide +kernel
theorem dX6_isRing_1 : decode cX6_isRing 1 = .ok (.iconst 0, 1) := by decide +kernel
theorem dX6_isRing_2 : decode cX6_isRing 2 = .ok (.aload_n 0, 1) := by decide +kernel
theorem dX6_isRing_3 : decode cX6_isRing 3 = .ok (.getfield 58, 3) := by decide +kernel
theorem dX6_isRing_6 : decode cX6_isRing 6 = .ok (.iconst 1, 1) := by decide +kernel
theorem dX6_isRing_7 : decode cX6_isRing 7 = .ok (.isub, 1) := by decide +kernel
theorem dX6_isRing_8 : decode cX6_isRing 8 = .ok (.invokestatic 62, 3) := by decide +kernel
theorem dX6_isRing_11 : decode cX6_isRing 11 = .ok (.ireturn, 1) := by decide +kernel
theorem dX6_isWheel_0 : decode cX6_isWheel 0 = .ok (.iload_n 1, 1) := by decide +kernel
theorem dX6_isWheel_1 : decode cX6_isWheel 1 = .ok (.iconst 0, 1) := by decide +kernel
theorem dX6_isWheel_2 : decode cX6_isWheel 2 = .ok (.aload_n 0, 1) := by decide +kernel
theorem dX6_isWheel_3 : decode cX6_isWheel 3 = .ok (.getfield 66, 3) := by decide +kernel
theorem dX6_isWheel_6 : decode cX6_isWheel 6 = .ok (.iconst 1, 1) := by decide +kernel
theorem dX6_isWheel_7 : decode cX6_isWheel 7 = .ok (.isub, 1) := by decide +kernel
theorem dX6_isWheel_8 : decode cX6_isWheel 8 = .ok (.invokestatic 62, 3) := by decide +kernel
theorem dX6_isWheel_11 : decode cX6_isWheel 11 = .ok (.ireturn, 1) := by decide +kernel
theorem dX6_isPen_0 : decode cX6_isPen 0 = .ok (.iload_n 1, 1) := by decide +kernel
theorem dX6_isPen_1 : decode cX6_isPen 1 = .ok (.iconst 0, 1) := by decide +kernel
theorem dX6_isPen_2 : decode cX6_isPen 2 = .ok (.aload_n 0, 1) := by decide +kernel
theorem dX6_isPen_3 : decode cX6_isPen 3 = .ok (.getfield 69, 3) := by decide +kernel
theorem dX6_isPen_6 : decode cX6_isPen 6 = .ok (.iconst 1, 1) := by decide +kernel
theorem dX6_isPen_7 : decode cX6_isPen 7 = .ok (.isub, 1) := by decide +kernel
theorem dX6_isPen_8 : decode cX6_isPen 8 = .ok (.invokestatic 62, 3) := by decide +kernel
theorem dX6_isPen_11 : decode cX6_isPen 11 = .ok (.ireturn, 1) := by decide +kernel
theorem dX6_isCurve_0 : decode cX6_isCurve 0 = .ok (.iload_n 1, 1) := by decide +kernel
theorem dX6_isCurve_1 : decode cX6_isCurve 1 = .ok (.iconst 0, 1) := by decide +kernel
theorem dX6_isCurve_2 : decode cX6_isCurve 2 = .ok (.aload_n 0, 1) := by decide +kernel
theorem dX6_isCurve_3 : decode cX6_isCurve 3 = .ok (.getfield 72, 3) := by decide +kernel
theorem dX6_isCurve_6 : decode cX6_isCurve 6 = .ok (.iconst 1, 1) := by decide +kernel
theorem dX6_isCurve_7 : decode cX6_isCurve 7 = .ok (.isub, 1) := by decide +kernel
theorem dX6_isCurve_8 : decode cX6_isCurve 8 = .ok (.invokestatic 62, 3) := by decide +kernel
theorem dX6_isCurve_11 : decode cX6_isCurve 11 = .ok (.ireturn, 1) := by decide +kernel
theorem dX6_type_0 : decode cX6_type 0 = .ok (.iload_n 1, 1) := by decide +kernel
theorem dX6_type_1 : decode cX6_type 1 = .ok (.iconst 0, 1) := by decide +kernel
theorem dX6_type_2 : decode cX6_type 2 = .ok (.sipush 255, 3) := by decide +kernel
theorem dX6_type_5 : decode cX6_type 5 = .ok (.invokestatic 62, 3) := by decide +kernel
theorem dX6_type_8 : decode cX6_type 8 = .ok (.ifCond .ne 5, 3) := by decide +kernel
theorem dX6_type_11 : decode cX6_type 11 = .ok (.iconst (-1), 1) := by decide +kernel
theorem dX6_type_12 : decode cX6_type 12 = .ok (.ireturn, 1) := by decide +kernel
theorem dX6_type_13 : decode cX6_type 13 = .ok (.aload_n 0, 1) := by decide +kernel
theorem dX6_type_14 : decode cX6_type 14 = .ok (.getfield 75, 3) := by decide +kernel
theorem dX6_type_17 : decode cX6_type 17 = .ok (.bipush 100, 2) := by decide +kernel
theorem dX6_type_19 : decode cX6_type 19 = .ok (.if_icmp .ne 6, 3) := by decide +kernel
theorem dX6_type_22 : decode cX6_type 22 = .ok (.bipush (-3), 2) := by decide +kernel
theorem dX6_type_24 : decode cX6_type 24 = .ok (.ireturn, 1) := by decide +kernel
theorem dX6_type_25 : decode cX6_type 25 = .ok (.aload_n 0, 1) := by decide +kernel
theorem dX6_type_26 : decode cX6_type 26 = .ok (.getfield 28, 3) := by decide +kernel
theorem dX6_type_29 : decode cX6_type 29 = .ok (.aload_n 0, 1) := by decide +kernel
theorem dX6_type_30 : decode cX6_type 30 = .ok (.getfield 75, 3) := by decide +kernel
theorem dX6_type_33 : decode cX6_type 33 = .ok (.iload_n 1, 1) := by decide +kernel
theorem dX6_type_34 : decode cX6_type 34 = .ok (.iastore, 1) := by decide +kernel
theorem dX6_type_35 : decode cX6_type 35 = .ok (.aload_n 0, 1) := by decide +kernel
theorem dX6_type_36 : decode cX6_type 36 = .ok (.dup, 1) := by decide +kernel
theorem dX6_type_37 : decode cX6_type 37 = .ok (.getfield 75, 3) := by decide +kernel
theorem dX6_type_40 : decode cX6_type 40 = .ok (.iconst 1, 1) := by decide +kernel
theorem dX6_type_41 : decode cX6_type 41 = .ok (.iadd, 1) := by decide +kernel
theorem dX6_type_42 : decode cX6_type 42 = .ok (.putfield 75, 3) := by decide +kernel
theorem dX6_type_45 : decode cX6_type 45 = .ok (.aload_n 0, 1) := by decide +kernel
theorem dX6_type_46 : decode cX6_type 46 = .ok (.getfield 75, 3) := by decide +kernel
theorem dX6_type_49 : decode cX6_type 49 = .ok (.ireturn, 1) := by decide +kernel
theorem dX6_clear_0 : decode cX6_clear 0 = .ok (.aload_n 0, 1) := by decide +kernel
theorem dX6_clear_1 : decode cX6_clear 1 = .ok (.getfield 75, 3) := by decide +kernel
theorem dX6_clear_4 : decode cX6_clear 4 = .ok (.istore_n 1, 1) := by decide +kernel
theorem dX6_clear_5 : decode cX6_clear 5 = .ok (.aload_n 0, 1) := by decide +kernel
theorem dX6_clear_6 : decode cX6_clear 6 = .ok (.iconst 0, 1) := by decide +kernel
theorem dX6_clear_7 : decode cX6_clear 7 = .ok (.putfield 75, 3) := by decide +kernel
theorem dX6_clear_10 : decode cX6_clear 10 = .ok (.iload_n 1, 1) := by decide +kernel
theorem dX6_clear_11 : decode cX6_clear 11 = .ok (.ireturn, 1) := by decide +kernel
theorem dX6_here_0 : decode cX6_here 0 = .ok (.aload_n 0, 1) := by decide +kernel
theorem dX6_here_1 : decode cX6_here 1 = .ok (.getfield 78, 3) := by decide +kernel
theorem dX6_here_4 : decode cX6_here 4 = .ok (.aload_n 0, 1) := by decide +kernel
theorem dX6_here_5 : decode cX6_here 5 = .ok (.getfield 75, 3) := by decide +kernel
theorem dX6_here_8 : decode cX6_here 8 = .ok (.if_icmp .ge 15, 3) := by decide +kernel
theorem dX6_here_11 : decode cX6_here 11 = .ok (.aload_n 0, 1) := by decide +kernel
theorem dX6_here_12 : decode cX6_here 12 = .ok (.getfield 28, 3) := by decide +kernel
theorem dX6_here_15 : decode cX6_here 15 = .ok (.aload_n 0, 1) := by decide +kernel
theorem dX6_here_16 : decode cX6_here 16 = .ok (.getfield 78, 3) := by decide +kernel
theorem dX6_here_19 : decode cX6_here 19 = .ok (.iaload, 1) := by decide +kernel
theorem dX6_here_20 : decode cX6_here 20 = .ok (.goto 5, 3) := by decide +kernel
theorem dX6_here_23 : decode cX6_here 23 = .ok (.bipush (-9), 2) := by decide +kernel
theorem dX6_here_25 : decode cX6_here 25 = .ok (.ireturn, 1) := by decide +kernel
theorem dX6_skip_0 : decode cX6_skip 0 = .ok (.aload_n 0, 1) := by decide +kernel
theorem dX6_skip_1 : decode cX6_skip 1 = .ok (.invokevirtual 81, 3) := by decide +kernel
theorem dX6_skip_4 : decode cX6_skip 4 = .ok (.bipush 32, 2) := by decide +kernel
theorem dX6_skip_6 : decode cX6_skip 6 = .ok (.if_icmp .ne 16, 3) := by decide +kernel
theorem dX6_skip_9 : decode cX6_skip 9 = .ok (.aload_n 0, 1) := by decide +kernel
theorem dX6_skip_10 : decode cX6_skip 10 = .ok (.dup, 1) := by decide +kernel
theorem dX6_skip_11 : decode cX6_skip 11 = .ok (.getfield 78, 3) := by decide +kernel
theorem dX6_skip_14 : decode cX6_skip 14 = .ok (.iconst 1, 1) := by decide +kernel
theorem dX6_skip_15 : decode cX6_skip 15 = .ok (.iadd, 1) := by decide +kernel
theorem dX6_skip_16 : decode cX6_skip 16 = .ok (.putfield 78, 3) := by decide +kernel
theorem dX6_skip_19 : decode cX6_skip 19 = .ok (.goto (-19), 3) := by decide +kernel
theorem dX6_skip_22 : decode cX6_skip 22 = .ok (.return_, 1) := by decide +kernel
theorem dX6_number_0 : decode cX6_number 0 = .ok (.aload_n 0, 1) := by decide +kernel
theorem dX6_number_1 : decode cX6_number 1 = .ok (.invokevirtual 85, 3) := by decide +kernel
theorem dX6_number_4 : decode cX6_number 4 = .ok (.iconst 0, 1) := by decide +kernel
theorem dX6_number_5 : decode cX6_number 5 = .ok (.istore_n 3, 1) := by decide +kernel
theorem dX6_number_6 : decode cX6_number 6 = .ok (.iconst 0, 1) := by decide +kernel
theorem dX6_number_7 : decode cX6_number 7 = .ok (.istore 4, 2) := by decide +kernel
theorem dX6_number_9 : decode cX6_number 9 = .ok (.aload_n 0, 1) := by decide +kernel
theorem dX6_number_10 : decode cX6_number 10 = .ok (.getfield 78, 3) := by decide +kernel
theorem dX6_number_13 : decode cX6_number 13 = .ok (.iload_n 3, 1) := by decide +kernel
theorem dX6_number_14 : decode cX6_number 14 = .ok (.iadd, 1) := by decide +kernel
theorem dX6_number_15 : decode cX6_number 15 = .ok (.aload_n 0, 1) := by decide +kernel
theorem dX6_number_16 : decode cX6_number 16 = .ok (.getfield 75, 3) := by decide +kernel
theorem dX6_number_19 : decode cX6_number 19 = .ok (.if_icmp .ge 62, 3) := by decide +kernel
theorem dX6_number_22 : decode cX6_number 22 = .ok (.aload_n 0, 1) := by decide +kernel
theorem dX6_number_23 : decode cX6_number 23 = .ok (.getfield 28, 3) := by decide +kernel
theorem dX6_number_26 : decode cX6_number 26 = .ok (.aload_n 0, 1) := by decide +kernel
theorem dX6_number_27 : decode cX6_number 27 = .ok (.getfield 78, 3) := by decide +kernel
theorem dX6_number_30 : decode cX6_number 30 = .ok (.iload_n 3, 1) := by decide +kernel
theorem dX6_number_31 : decode cX6_number 31 = .ok (.iadd, 1) := by decide +kernel
theorem dX6_number_32 : decode cX6_number 32 = .ok (.iaload, 1) := by decide +kernel
theorem dX6_number_33 : decode cX6_number 33 = .ok (.bipush 48, 2) := by decide +kernel
theorem dX6_number_35 : decode cX6_number 35 = .ok (.bipush 57, 2) := by decide +kernel
theorem dX6_number_37 : decode cX6_number 37 = .ok (.invokestatic 62, 3) := by decide +kernel
theorem dX6_number_40 : decode cX6_number 40 = .ok (.ifCond .eq 41, 3) := by decide +kernel
theorem dX6_number_43 : decode cX6_number 43 = .ok (.iload_n 3, 1) := by decide +kernel
theorem dX6_number_44 : decode cX6_number 44 = .ok (.iconst 3, 1) := by decide +kernel
theorem dX6_number_45 : decode cX6_number 45 = .ok (.if_icmp .ge 26, 3) := by decide +kernel
theorem dX6_number_48 : decode cX6_number 48 = .ok (.bipush 10, 2) := by decide +kernel
theorem dX6_number_50 : decode cX6_number 50 = .ok (.iload 4, 2) := by decide +kernel
theorem dX6_number_52 : decode cX6_number 52 = .ok (.imul, 1) := by decide +kernel
theorem dX6_number_53 : decode cX6_number 53 = .ok (.aload_n 0, 1) := by decide +kernel
theorem dX6_number_54 : decode cX6_number 54 = .ok (.getfield 28, 3) := by decide +kernel
theorem dX6_number_57 : decode cX6_number 57 = .ok (.aload_n 0, 1) := by decide +kernel
theorem dX6_number_58 : decode cX6_number 58 = .ok (.getfield 78, 3) := by decide +kernel
theorem dX6_number_61 : decode cX6_number 61 = .ok (.iload_n 3, 1) := by decide +kernel
theorem dX6_number_62 : decode cX6_number 62 = .ok (.iadd, 1) := by decide +kernel
theorem dX6_number_63 : decode cX6_number 63 = .ok (.iaload, 1) := by decide +kernel
