theorem dX4_readLetters_72 : decode cX4_readLetters 72 = .ok (.return_, 1) := by decide +kernel
theorem dX4_readNumber_0 : decode cX4_readNumber 0 = .ok (.aload_n 0, 1) := by decide +kernel
theorem dX4_readNumber_1 : decode cX4_readNumber 1 = .ok (.iconst 0, 1) := by decide +kernel
theorem dX4_readNumber_2 : decode cX4_readNumber 2 = .ok (.putfield 28, 3) := by decide +kernel
theorem dX4_readNumber_5 : decode cX4_readNumber 5 = .ok (.aload_n 0, 1) := by decide +kernel
theorem dX4_readNumber_6 : decode cX4_readNumber 6 = .ok (.getfield 22, 3) := by decide +kernel
theorem dX4_readNumber_9 : decode cX4_readNumber 9 = .ok (.aload_n 0, 1) := by decide +kernel
theorem dX4_readNumber_10 : decode cX4_readNumber 10 = .ok (.getfield 15, 3) := by decide +kernel
theorem dX4_readNumber_13 : decode cX4_readNumber 13 = .ok (.if_icmp .ge 59, 3) := by decide +kernel
theorem dX4_readNumber_16 : decode cX4_readNumber 16 = .ok (.aload_n 0, 1) := by decide +kernel
theorem dX4_readNumber_17 : decode cX4_readNumber 17 = .ok (.aload_n 0, 1) := by decide +kernel
theorem dX4_readNumber_18 : decode cX4_readNumber 18 = .ok (.getfield 22, 3) := by decide +kernel
theorem dX4_readNumber_21 : decode cX4_readNumber 21 = .ok (.invokevirtual 44, 3) := by decide +kernel
theorem dX4_readNumber_24 : decode cX4_readNumber 24 = .ok (.invokestatic 54, 3) := by decide +kernel
theorem dX4_readNumber_27 : decode cX4_readNumber 27 = .ok (.ifCond .eq 45, 3) := by decide +kernel
theorem dX4_readNumber_30 : decode cX4_readNumber 30 = .ok (.aload_n 0, 1) := by decide +kernel
theorem dX4_readNumber_31 : decode cX4_readNumber 31 = .ok (.bipush 10, 2) := by decide +kernel
theorem dX4_readNumber_33 : decode cX4_readNumber 33 = .ok (.aload_n 0, 1) := by decide +kernel
theorem dX4_readNumber_34 : decode cX4_readNumber 34 = .ok (.getfield 28, 3) := by decide +kernel
theorem dX4_readNumber_37 : decode cX4_readNumber 37 = .ok (.imul, 1) := by decide +kernel
theorem dX4_readNumber_38 : decode cX4_readNumber 38 = .ok (.aload_n 0, 1) := by decide +kernel
theorem dX4_readNumber_39 : decode cX4_readNumber 39 = .ok (.aload_n 0, 1) := by decide +kernel
theorem dX4_readNumber_40 : decode cX4_readNumber 40 = .ok (.getfield 22, 3) := by decide +kernel
theorem dX4_readNumber_43 : decode cX4_readNumber 43 = .ok (.invokevirtual 44, 3) := by decide +kernel
theorem dX4_readNumber_46 : decode cX4_readNumber 46 = .ok (.iadd, 1) := by decide +kernel
theorem dX4_readNumber_47 : decode cX4_readNumber 47 = .ok (.bipush 48, 2) := by decide +kernel
theorem dX4_readNumber_49 : decode cX4_readNumber 49 = .ok (.isub, 1) := by decide +kernel
theorem dX4_readNumber_50 : decode cX4_readNumber 50 = .ok (.sipush 1000, 3) := by decide +kernel
theorem dX4_readNumber_53 : decode cX4_readNumber 53 = .ok (.invokestatic 60, 3) := by decide +kernel
theorem dX4_readNumber_56 : decode cX4_readNumber 56 = .ok (.putfield 28, 3) := by decide +kernel
theorem dX4_readNumber_59 : decode cX4_readNumber 59 = .ok (.aload_n 0, 1) := by decide +kernel
theorem dX4_readNumber_60 : decode cX4_readNumber 60 = .ok (.dup, 1) := by decide +kernel
theorem dX4_readNumber_61 : decode cX4_readNumber 61 = .ok (.getfield 22, 3) := by decide +kernel
theorem dX4_readNumber_64 : decode cX4_readNumber 64 = .ok (.iconst 1, 1) := by decide +kernel
theorem dX4_readNumber_65 : decode cX4_readNumber 65 = .ok (.iadd, 1) := by decide +kernel
theorem dX4_readNumber_66 : decode cX4_readNumber 66 = .ok (.putfield 22, 3) := by decide +kernel
theorem dX4_readNumber_69 : decode cX4_readNumber 69 = .ok (.goto (-64), 3) := by decide +kernel
theorem dX4_readNumber_72 : decode cX4_readNumber 72 = .ok (.aload_n 0, 1) := by decide +kernel
theorem dX4_readNumber_73 : decode cX4_readNumber 73 = .ok (.aload_n 0, 1) := by decide +kernel
theorem dX4_readNumber_74 : decode cX4_readNumber 74 = .ok (.getfield 19, 3) := by decide +kernel
theorem dX4_readNumber_77 : decode cX4_readNumber 77 = .ok (.invokevirtual 44, 3) := by decide +kernel
theorem dX4_readNumber_80 : decode cX4_readNumber 80 = .ok (.bipush 48, 2) := by decide +kernel
theorem dX4_readNumber_82 : decode cX4_readNumber 82 = .ok (.if_icmp .ne 20, 3) := by decide +kernel
theorem dX4_readNumber_85 : decode cX4_readNumber 85 = .ok (.aload_n 0, 1) := by decide +kernel
theorem dX4_readNumber_86 : decode cX4_readNumber 86 = .ok (.getfield 22, 3) := by decide +kernel
theorem dX4_readNumber_89 : decode cX4_readNumber 89 = .ok (.aload_n 0, 1) := by decide +kernel
theorem dX4_readNumber_90 : decode cX4_readNumber 90 = .ok (.getfield 19, 3) := by decide +kernel
theorem dX4_readNumber_93 : decode cX4_readNumber 93 = .ok (.isub, 1) := by decide +kernel
theorem dX4_readNumber_94 : decode cX4_readNumber 94 = .ok (.iconst 1, 1) := by decide +kernel
theorem dX4_readNumber_95 : decode cX4_readNumber 95 = .ok (.if_icmp .le 7, 3) := by decide +kernel
theorem dX4_readNumber_98 : decode cX4_readNumber 98 = .ok (.iconst 1, 1) := by decide +kernel
theorem dX4_readNumber_99 : decode cX4_readNumber 99 = .ok (.goto 4, 3) := by decide +kernel
theorem dX4_readNumber_102 : decode cX4_readNumber 102 = .ok (.iconst 0, 1) := by decide +kernel
theorem dX4_readNumber_103 : decode cX4_readNumber 103 = .ok (.istore_n 1, 1) := by decide +kernel
theorem dX4_readNumber_104 : decode cX4_readNumber 104 = .ok (.aload_n 0, 1) := by decide +kernel
theorem dX4_readNumber_105 : decode cX4_readNumber 105 = .ok (.iload_n 1, 1) := by decide +kernel
theorem dX4_readNumber_106 : decode cX4_readNumber 106 = .ok (.ifCond .ne 13, 3) := by decide +kernel
theorem dX4_readNumber_109 : decode cX4_readNumber 109 = .ok (.aload_n 0, 1) := by decide +kernel
theorem dX4_readNumber_110 : decode cX4_readNumber 110 = .ok (.getfield 28, 3) := by decide +kernel
theorem dX4_readNumber_113 : decode cX4_readNumber 113 = .ok (.sipush 999, 3) := by decide +kernel
theorem dX4_readNumber_116 : decode cX4_readNumber 116 = .ok (.if_icmp .le 7, 3) := by decide +kernel
theorem dX4_readNumber_119 : decode cX4_readNumber 119 = .ok (.iconst 4, 1) := by decide +kernel
theorem dX4_readNumber_120 : decode cX4_readNumber 120 = .ok (.goto 4, 3) := by decide +kernel
theorem dX4_readNumber_123 : decode cX4_readNumber 123 = .ok (.iconst 2, 1) := by decide +kernel
theorem dX4_readNumber_124 : decode cX4_readNumber 124 = .ok (.putfield 25, 3) := by decide +kernel
theorem dX4_readNumber_127 : decode cX4_readNumber 127 = .ok (.return_, 1) := by decide +kernel
theorem dX4_byteAt_0 : decode cX4_byteAt 0 = .ok (.iload_n 1, 1) := by decide +kernel
theorem dX4_byteAt_1 : decode cX4_byteAt 1 = .ok (.ifCond .lt 20, 3) := by decide +kernel
theorem dX4_byteAt_4 : decode cX4_byteAt 4 = .ok (.iload_n 1, 1) := by decide +kernel
theorem dX4_byteAt_5 : decode cX4_byteAt 5 = .ok (.aload_n 0, 1) := by decide +kernel
theorem dX4_byteAt_6 : decode cX4_byteAt 6 = .ok (.getfield 15, 3) := by decide +kernel
theorem dX4_byteAt_9 : decode cX4_byteAt 9 = .ok (.if_icmp .ge 12, 3) := by decide +kernel
theorem dX4_byteAt_12 : decode cX4_byteAt 12 = .ok (.aload_n 0, 1) := by decide +kernel
theorem dX4_byteAt_13 : decode cX4_byteAt 13 = .ok (.getfield 9, 3) := by decide +kernel
theorem dX4_byteAt_16 : decode cX4_byteAt 16 = .ok (.iload_n 1, 1) := by decide +kernel
theorem dX4_byteAt_17 : decode cX4_byteAt 17 = .ok (.iaload, 1) := by decide +kernel
theorem dX4_byteAt_18 : decode cX4_byteAt 18 = .ok (.goto 4, 3) := by decide +kernel
theorem dX4_byteAt_21 : decode cX4_byteAt 21 = .ok (.iconst 0, 1) := by decide +kernel
theorem dX4_byteAt_22 : decode cX4_byteAt 22 = .ok (.ireturn, 1) := by decide +kernel
theorem dX4_isLetter_0 : decode cX4_isLetter 0 = .ok (.iload_n 0, 1) := by decide +kernel
theorem dX4_isLetter_1 : decode cX4_isLetter 1 = .ok (.bipush 97, 2) := by decide +kernel
theorem dX4_isLetter_3 : decode cX4_isLetter 3 = .ok (.if_icmp .lt 13, 3) := by decide +kernel
theorem dX4_isLetter_6 : decode cX4_isLetter 6 = .ok (.iload_n 0, 1) := by decide +kernel
theorem dX4_isLetter_7 : decode cX4_isLetter 7 = .ok (.bipush 122, 2) := by decide +kernel
theorem dX4_isLetter_9 : decode cX4_isLetter 9 = .ok (.if_icmp .gt 7, 3) := by decide +kernel
theorem dX4_isLetter_12 : decode cX4_isLetter 12 = .ok (.iconst 1, 1) := by decide +kernel
theorem dX4_isLetter_13 : decode cX4_isLetter 13 = .ok (.goto 4, 3) := by decide +kernel
theorem dX4_isLetter_16 : decode cX4_isLetter 16 = .ok (.iconst 0, 1) := by decide +kernel
theorem dX4_isLetter_17 : decode cX4_isLetter 17 = .ok (.ireturn, 1) := by decide +kernel
theorem dX4_isDigit_0 : decode cX4_isDigit 0 = .ok (.iload_n 0, 1) := by decide +kernel
theorem dX4_isDigit_1 : decode cX4_isDigit 1 = .ok (.bipush 48, 2) := by decide +kernel
theorem dX4_isDigit_3 : decode cX4_isDigit 3 = .ok (.if_icmp .lt 13, 3) := by decide +kernel
theorem dX4_isDigit_6 : decode cX4_isDigit 6 = .ok (.iload_n 0, 1) := by decide +kernel
theorem dX4_isDigit_7 : decode cX4_isDigit 7 = .ok (.bipush 57, 2) := by decide +kernel
theorem dX4_isDigit_9 : decode cX4_isDigit 9 = .ok (.if_icmp .gt 7, 3) := by decide +kernel
theorem dX4_isDigit_12 : decode cX4_isDigit 12 = .ok (.iconst 1, 1) := by decide +kernel
theorem dX4_isDigit_13 : decode cX4_isDigit 13 = .ok (.goto 4, 3) := by decide +kernel
theorem dX4_isDigit_16 : decode cX4_isDigit 16 = .ok (.iconst 0, 1) := by decide +kernel
theorem dX4_isDigit_17 : decode cX4_isDigit 17 = .ok (.ireturn, 1) := by decide +kernel
theorem dX5_init_0 : decode cX5_init 0 = .ok (.aload_n 0, 1) := by decide +kernel
theorem dX5_init_1 : decode cX5_init 1 = .ok (.invokespecial 1, 3) := by decide +kernel
theorem dX5_init_4 : decode cX5_init 4 = .ok (.aload_n 0, 1) := by decide +kernel
theorem dX5_init_5 : decode cX5_init 5 = .ok (.new 7, 3) := by decide +kernel
theorem dX5_init_8 : decode cX5_init 8 = .ok (.dup, 1) := by decide +kernel
theorem dX5_init_9 : decode cX5_init 9 = .ok (.invokespecial 9, 3) := by decide +kernel
theorem dX5_init_12 : decode cX5_init 12 = .ok (.putfield 10, 3) := by decide +kernel
theorem dX5_init_15 : decode cX5_init 15 = .ok (.aload_n 0, 1) := by decide +kernel
theorem dX5_init_16 : decode cX5_init 16 = .ok (.new 16, 3) := by decide +kernel
theorem dX5_init_19 : decode cX5_init 19 = .ok (.dup, 1) := by decide +kernel
theorem dX5_init_20 : decode cX5_init 20 = .ok (.invokespecial 18, 3) := by decide +kernel
theorem dX5_init_23 : decode cX5_init 23 = .ok (.putfield 19, 3) := by decide +kernel
theorem dX5_init_26 : decode cX5_init 26 = .ok (.aload_n 0, 1) := by decide +kernel
theorem dX5_init_27 : decode cX5_init 27 = .ok (.new 23, 3) := by decide +kernel
theorem dX5_init_30 : decode cX5_init 30 = .ok (.dup, 1) := by decide +kernel
theorem dX5_init_31 : decode cX5_init 31 = .ok (.invokespecial 25, 3) := by decide +kernel
theorem dX5_init_34 : decode cX5_init 34 = .ok (.putfield 26, 3) := by decide +kernel
theorem dX5_init_37 : decode cX5_init 37 = .ok (.aload_n 0, 1) := by decide +kernel
theorem dX5_init_38 : decode cX5_init 38 = .ok (.new 30, 3) := by decide +kernel
theorem dX5_init_41 : decode cX5_init 41 = .ok (.dup, 1) := by decide +kernel
theorem dX5_init_42 : decode cX5_init 42 = .ok (.iconst 0, 1) := by decide +kernel
theorem dX5_init_43 : decode cX5_init 43 = .ok (.iconst 0, 1) := by decide +kernel
theorem dX5_init_44 : decode cX5_init 44 = .ok (.newarray .int, 2) := by decide +kernel
theorem dX5_init_46 : decode cX5_init 46 = .ok (.iconst 0, 1) := by decide +kernel
theorem dX5_init_47 : decode cX5_init 47 = .ok (.anewarray 32, 3) := by decide +kernel
theorem dX5_init_50 : decode cX5_init 50 = .ok (.invokespecial 34, 3) := by decide +kernel
theorem dX5_init_53 : decode cX5_init 53 = .ok (.putfield 37, 3) := by decide +kernel
theorem dX5_init_56 : decode cX5_init 56 = .ok (.aload_n 0, 1) := by decide +kernel
theorem dX5_init_57 : decode cX5_init 57 = .ok (.new 41, 3) := by decide +kernel
theorem dX5_init_60 : decode cX5_init 60 = .ok (.dup, 1) := by decide +kernel
theorem dX5_init_61 : decode cX5_init 61 = .ok (.invokespecial 43, 3) := by decide +kernel
theorem dX5_init_64 : decode cX5_init 64 = .ok (.putfield 44, 3) := by decide +kernel
theorem dX5_init_67 : decode cX5_init 67 = .ok (.aload_n 0, 1) := by decide +kernel
theorem dX5_init_68 : decode cX5_init 68 = .ok (.iconst 2, 1) := by decide +kernel
theorem dX5_init_69 : decode cX5_init 69 = .ok (.anewarray 48, 3) := by decide +kernel
theorem dX5_init_72 : decode cX5_init 72 = .ok (.putfield 50, 3) := by decide +kernel
theorem dX5_init_75 : decode cX5_init 75 = .ok (.aload_n 0, 1) := by decide +kernel
theorem dX5_init_76 : decode cX5_init 76 = .ok (.lconst 0, 1) := by decide +kernel
theorem dX5_init_77 : decode cX5_init 77 = .ok (.putfield 54, 3) := by decide +kernel
theorem dX5_init_80 : decode cX5_init 80 = .ok (.aload_n 0, 1) := by decide +kernel
theorem dX5_init_81 : decode cX5_init 81 = .ok (.sipush 360, 3) := by decide +kernel
theorem dX5_init_84 : decode cX5_init 84 = .ok (.newarray .int, 2) := by decide +kernel
theorem dX5_init_86 : decode cX5_init 86 = .ok (.putfield 58, 3) := by decide +kernel
theorem dX5_init_89 : decode cX5_init 89 = .ok (.aload_n 0, 1) := by decide +kernel
theorem dX5_init_90 : decode cX5_init 90 = .ok (.bipush 120, 2) := by decide +kernel
theorem dX5_init_92 : decode cX5_init 92 = .ok (.newarray .int, 2) := by decide +kernel
theorem dX5_init_94 : decode cX5_init 94 = .ok (.putfield 62, 3) := by decide +kernel
theorem dX5_init_97 : decode cX5_init 97 = .ok (.aload_n 0, 1) := by decide +kernel
theorem dX5_init_98 : decode cX5_init 98 = .ok (.sipush 1000, 3) := by decide +kernel
theorem dX5_init_101 : decode cX5_init 101 = .ok (.newarray .int, 2) := by decide +kernel
theorem dX5_init_103 : decode cX5_init 103 = .ok (.putfield 65, 3) := by decide +kernel
theorem dX5_init_106 : decode cX5_init 106 = .ok (.aload_n 0, 1) := by decide +kernel
theorem dX5_init_107 : decode cX5_init 107 = .ok (.iconst 0, 1) := by decide +kernel
theorem dX5_init_108 : decode cX5_init 108 = .ok (.putfield 68, 3) := by decide +kernel
theorem dX5_init_111 : decode cX5_init 111 = .ok (.return_, 1) := by decide +kernel
theorem dX5_type_0 : decode cX5_type 0 = .ok (.iload_n 1, 1) := by decide +kernel
theorem dX5_type_1 : decode cX5_type 1 = .ok (.iconst 0, 1) := by decide +kernel
theorem dX5_type_2 : decode cX5_type 2 = .ok (.sipush 255, 3) := by decide +kernel
theorem dX5_type_5 : decode cX5_type 5 = .ok (.invokestatic 72, 3) := by decide +kernel
theorem dX5_type_8 : decode cX5_type 8 = .ok (.ifCond .ne 5, 3) := by decide +kernel
theorem dX5_type_11 : decode cX5_type 11 = .ok (.iconst (-1), 1) := by decide +kernel
theorem dX5_type_12 : decode cX5_type 12 = .ok (.ireturn, 1) := by decide +kernel
theorem dX5_type_13 : decode cX5_type 13 = .ok (.aload_n 0, 1) := by decide +kernel
theorem dX5_type_14 : decode cX5_type 14 = .ok (.getfield 10, 3) := by decide +kernel
theorem dX5_type_17 : decode cX5_type 17 = .ok (.iload_n 1, 1) := by decide +kernel
theorem dX5_type_18 : decode cX5_type 18 = .ok (.invokevirtual 76, 3) := by decide +kernel
theorem dX5_type_21 : decode cX5_type 21 = .ok (.ifCond .eq 13, 3) := by decide +kernel
theorem dX5_type_24 : decode cX5_type 24 = .ok (.aload_n 0, 1) := by decide +kernel
theorem dX5_type_25 : decode cX5_type 25 = .ok (.getfield 10, 3) := by decide +kernel
theorem dX5_type_28 : decode cX5_type 28 = .ok (.getfield 80, 3) := by decide +kernel
theorem dX5_type_31 : decode cX5_type 31 = .ok (.goto 5, 3) := by decide +kernel
theorem dX5_type_34 : decode cX5_type 34 = .ok (.bipush (-3), 2) := by decide +kernel
theorem dX5_type_36 : decode cX5_type 36 = .ok (.ireturn, 1) := by decide +kernel
theorem dX5_clear_0 : decode cX5_clear 0 = .ok (.aload_n 0, 1) := by decide +kernel
theorem dX5_clear_1 : decode cX5_clear 1 = .ok (.getfield 10, 3) := by decide +kernel
theorem dX5_clear_4 : decode cX5_clear 4 = .ok (.invokevirtual 84, 3) := by decide +kernel
theorem dX5_clear_7 : decode cX5_clear 7 = .ok (.ireturn, 1) := by decide +kernel
theorem dX5_box_0 : decode cX5_box 0 = .ok (.new 23, 3) := by decide +kernel
theorem dX5_box_3 : decode cX5_box 3 = .ok (.dup, 1) := by decide +kernel
theorem dX5_box_4 : decode cX5_box 4 = .ok (.invokespecial 25, 3) := by decide +kernel
theorem dX5_box_7 : decode cX5_box 7 = .ok (.astore_n 1, 1) := by decide +kernel
theorem dX5_box_8 : decode cX5_box 8 = .ok (.aload_n 0, 1) := by decide +kernel
theorem dX5_box_9 : decode cX5_box 9 = .ok (.getfield 10, 3) := by decide +kernel
theorem dX5_box_12 : decode cX5_box 12 = .ok (.aload_n 1, 1) := by decide +kernel
theorem dX5_box_13 : decode cX5_box 13 = .ok (.invokevirtual 88, 3) := by decide +kernel
theorem dX5_box_16 : decode cX5_box 16 = .ok (.istore_n 2, 1) := by decide +kernel
theorem dX5_box_17 : decode cX5_box 17 = .ok (.iload_n 2, 1) := by decide +kernel
theorem dX5_box_18 : decode cX5_box 18 = .ok (.iconst (-1), 1) := by decide +kernel
theorem dX5_box_19 : decode cX5_box 19 = .ok (.if_icmp .eq 8, 3) := by decide +kernel
theorem dX5_box_22 : decode cX5_box 22 = .ok (.bipush (-10), 2) := by decide +kernel
theorem dX5_box_24 : decode cX5_box 24 = .ok (.iload_n 2, 1) := by decide +kernel
theorem dX5_box_25 : decode cX5_box 25 = .ok (.isub, 1) := by decide +kernel
theorem dX5_box_26 : decode cX5_box 26 = .ok (.ireturn, 1) := by decide +kernel
theorem dX5_box_27 : decode cX5_box 27 = .ok (.aload_n 0, 1) := by decide +kernel
theorem dX5_box_28 : decode cX5_box 28 = .ok (.getfield 10, 3) := by decide +kernel
theorem dX5_box_31 : decode cX5_box 31 = .ok (.invokevirtual 84, 3) := by decide +kernel
theorem dX5_box_34 : decode cX5_box 34 = .ok (.pop, 1) := by decide +kernel
theorem dX5_box_35 : decode cX5_box 35 = .ok (.aload_n 0, 1) := by decide +kernel
theorem dX5_box_36 : decode cX5_box 36 = .ok (.aload_n 1, 1) := by decide +kernel
theorem dX5_box_37 : decode cX5_box 37 = .ok (.invokevirtual 92, 3) := by decide +kernel
theorem dX5_box_40 : decode cX5_box 40 = .ok (.aload_n 1, 1) := by decide +kernel
theorem dX5_box_41 : decode cX5_box 41 = .ok (.invokevirtual 96, 3) := by decide +kernel
theorem dX5_box_44 : decode cX5_box 44 = .ok (.ireturn, 1) := by decide +kernel
theorem dX5_ring_0 : decode cX5_ring 0 = .ok (.aload_n 0, 1) := by decide +kernel
theorem dX5_ring_1 : decode cX5_ring 1 = .ok (.getfield 26, 3) := by decide +kernel
theorem dX5_ring_4 : decode cX5_ring 4 = .ok (.iload_n 1, 1) := by decide +kernel
theorem dX5_ring_5 : decode cX5_ring 5 = .ok (.invokevirtual 99, 3) := by decide +kernel
theorem dX5_ring_8 : decode cX5_ring 8 = .ok (.ifCond .eq 14, 3) := by decide +kernel
theorem dX5_ring_11 : decode cX5_ring 11 = .ok (.aload_n 0, 1) := by decide +kernel
theorem dX5_ring_12 : decode cX5_ring 12 = .ok (.getfield 26, 3) := by decide +kernel
theorem dX5_ring_15 : decode cX5_ring 15 = .ok (.iload_n 1, 1) := by decide +kernel
theorem dX5_ring_16 : decode cX5_ring 16 = .ok (.invokevirtual 102, 3) := by decide +kernel
theorem dX5_ring_19 : decode cX5_ring 19 = .ok (.goto 4, 3) := by decide +kernel
theorem dX5_ring_22 : decode cX5_ring 22 = .ok (.iconst (-1), 1) := by decide +kernel
theorem dX5_ring_23 : decode cX5_ring 23 = .ok (.ireturn, 1) := by decide +kernel
theorem dX5_wheel_0 : decode cX5_wheel 0 = .ok (.aload_n 0, 1) := by decide +kernel
theorem dX5_wheel_1 : decode cX5_wheel 1 = .ok (.getfield 26, 3) := by decide +kernel
theorem dX5_wheel_4 : decode cX5_wheel 4 = .ok (.iload_n 1, 1) := by decide +kernel
theorem dX5_wheel_5 : decode cX5_wheel 5 = .ok (.invokevirtual 99, 3) := by decide +kernel
theorem dX5_wheel_8 : decode cX5_wheel 8 = .ok (.ifCond .eq 23, 3) := by decide +kernel
theorem dX5_wheel_11 : decode cX5_wheel 11 = .ok (.aload_n 0, 1) := by decide +kernel
theorem dX5_wheel_12 : decode cX5_wheel 12 = .ok (.getfield 26, 3) := by decide +kernel
theorem dX5_wheel_15 : decode cX5_wheel 15 = .ok (.iload_n 2, 1) := by decide +kernel
theorem dX5_wheel_16 : decode cX5_wheel 16 = .ok (.invokevirtual 106, 3) := by decide +kernel
theorem dX5_wheel_19 : decode cX5_wheel 19 = .ok (.ifCond .eq 12, 3) := by decide +kernel
theorem dX5_wheel_22 : decode cX5_wheel 22 = .ok (.iload_n 3, 1) := by decide +kernel
theorem dX5_wheel_23 : decode cX5_wheel 23 = .ok (.iconst 0, 1) := by decide +kernel
theorem dX5_wheel_24 : decode cX5_wheel 24 = .ok (.iconst 3, 1) := by decide +kernel
theorem dX5_wheel_25 : decode cX5_wheel 25 = .ok (.invokestatic 72, 3) := by decide +kernel
theorem dX5_wheel_28 : decode cX5_wheel 28 = .ok (.ifCond .ne 5, 3) := by decide +kernel
theorem dX5_wheel_31 : decode cX5_wheel 31 = .ok (.iconst (-1), 1) := by decide +kernel
theorem dX5_wheel_32 : decode cX5_wheel 32 = .ok (.ireturn, 1) := by decide +kernel
theorem dX5_wheel_33 : decode cX5_wheel 33 = .ok (.iload_n 3, 1) := by decide +kernel
theorem dX5_wheel_34 : decode cX5_wheel 34 = .ok (.ifCond .ne 12, 3) := by decide +kernel
theorem dX5_wheel_37 : decode cX5_wheel 37 = .ok (.aload_n 0, 1) := by decide +kernel
theorem dX5_wheel_38 : decode cX5_wheel 38 = .ok (.getfield 26, 3) := by decide +kernel
theorem dX5_wheel_41 : decode cX5_wheel 41 = .ok (.iload_n 2, 1) := by decide +kernel
theorem dX5_wheel_42 : decode cX5_wheel 42 = .ok (.invokevirtual 109, 3) := by decide +kernel
theorem dX5_wheel_45 : decode cX5_wheel 45 = .ok (.ireturn, 1) := by decide +kernel
theorem dX5_wheel_46 : decode cX5_wheel 46 = .ok (.aload_n 0, 1) := by decide +kernel
theorem dX5_wheel_47 : decode cX5_wheel 47 = .ok (.getfield 26, 3) := by decide +kernel
theorem dX5_wheel_50 : decode cX5_wheel 50 = .ok (.iload_n 1, 1) := by decide +kernel
theorem dX5_wheel_51 : decode cX5_wheel 51 = .ok (.iload_n 2, 1) := by decide +kernel
theorem dX5_wheel_52 : decode cX5_wheel 52 = .ok (.invokevirtual 112, 3) := by decide +kernel
theorem dX5_wheel_55 : decode cX5_wheel 55 = .ok (.ifCond .ne 6, 3) := by decide +kernel
theorem dX5_wheel_58 : decode cX5_wheel 58 = .ok (.bipush (-9), 2) := by decide +kernel
theorem dX5_wheel_60 : decode cX5_wheel 60 = .ok (.ireturn, 1) := by decide +kernel
theorem dX5_wheel_61 : decode cX5_wheel 61 = .ok (.iload_n 3, 1) := by decide +kernel
theorem dX5_wheel_62 : decode cX5_wheel 62 = .ok (.lookupswitch 46 #[(1, 26), (2, 36)], 26) := by decide +kernel
theorem dX5_wheel_88 : decode cX5_wheel 88 = .ok (.aload_n 0, 1) := by decide +kernel
theorem dX5_wheel_89 : decode cX5_wheel 89 = .ok (.getfield 26, 3) := by decide +kernel
theorem dX5_wheel_92 : decode cX5_wheel 92 = .ok (.iload_n 1, 1) := by decide +kernel
theorem dX5_wheel_93 : decode cX5_wheel 93 = .ok (.iload_n 2, 1) := by decide +kernel
theorem dX5_wheel_94 : decode cX5_wheel 94 = .ok (.invokevirtual 116, 3) := by decide +kernel
theorem dX5_wheel_97 : decode cX5_wheel 97 = .ok (.ireturn, 1) := by decide +kernel
theorem dX5_wheel_98 : decode cX5_wheel 98 = .ok (.aload_n 0, 1) := by decide +kernel
theorem dX5_wheel_99 : decode cX5_wheel 99 = .ok (.getfield 26, 3) := by decide +kernel
theorem dX5_wheel_102 : decode cX5_wheel 102 = .ok (.iload_n 1, 1) := by decide +kernel
theorem dX5_wheel_103 : decode cX5_wheel 103 = .ok (.iload_n 2, 1) := by decide +kernel
theorem dX5_wheel_104 : decode cX5_wheel 104 = .ok (.invokevirtual 120, 3) := by decide +kernel
theorem dX5_wheel_107 : decode cX5_wheel 107 = .ok (.ireturn, 1) := by decide +kernel
theorem dX5_wheel_108 : decode cX5_wheel 108 = .ok (.aload_n 0, 1) := by decide +kernel
theorem dX5_wheel_109 : decode cX5_wheel 109 = .ok (.getfield 26, 3) := by decide +kernel
theorem dX5_wheel_112 : decode cX5_wheel 112 = .ok (.iload_n 1, 1) := by decide +kernel
theorem dX5_wheel_113 : decode cX5_wheel 113 = .ok (.iload_n 2, 1) := by decide +kernel
theorem dX5_wheel_114 : decode cX5_wheel 114 = .ok (.invokevirtual 123, 3) := by decide +kernel
theorem dX5_wheel_117 : decode cX5_wheel 117 = .ok (.ireturn, 1) := by decide +kernel
theorem dX5_pen_0 : decode cX5_pen 0 = .ok (.aload_n 0, 1) := by decide +kernel
theorem dX5_pen_1 : decode cX5_pen 1 = .ok (.getfield 26, 3) := by decide +kernel
theorem dX5_pen_4 : decode cX5_pen 4 = .ok (.iload_n 1, 1) := by decide +kernel
theorem dX5_pen_5 : decode cX5_pen 5 = .ok (.invokevirtual 126, 3) := by decide +kernel
theorem dX5_pen_8 : decode cX5_pen 8 = .ok (.ifCond .eq 12, 3) := by decide +kernel
theorem dX5_pen_11 : decode cX5_pen 11 = .ok (.iload_n 2, 1) := by decide +kernel
theorem dX5_pen_12 : decode cX5_pen 12 = .ok (.iconst 0, 1) := by decide +kernel
theorem dX5_pen_13 : decode cX5_pen 13 = .ok (.iconst 1, 1) := by decide +kernel
theorem dX5_pen_14 : decode cX5_pen 14 = .ok (.invokestatic 72, 3) := by decide +kernel
theorem dX5_pen_17 : decode cX5_pen 17 = .ok (.ifCond .ne 5, 3) := by decide +kernel
theorem dX5_pen_20 : decode cX5_pen 20 = .ok (.iconst (-1), 1) := by decide +kernel
theorem dX5_pen_21 : decode cX5_pen 21 = .ok (.ireturn, 1) := by decide +kernel
theorem dX5_pen_22 : decode cX5_pen 22 = .ok (.iload_n 2, 1) := by decide +kernel
theorem dX5_pen_23 : decode cX5_pen 23 = .ok (.ifCond .ne 14, 3) := by decide +kernel
theorem dX5_pen_26 : decode cX5_pen 26 = .ok (.aload_n 0, 1) := by decide +kernel
theorem dX5_pen_27 : decode cX5_pen 27 = .ok (.getfield 37, 3) := by decide +kernel
theorem dX5_pen_30 : decode cX5_pen 30 = .ok (.iload_n 1, 1) := by decide +kernel
theorem dX5_pen_31 : decode cX5_pen 31 = .ok (.invokevirtual 129, 3) := by decide +kernel
theorem dX5_pen_34 : decode cX5_pen 34 = .ok (.goto 8, 3) := by decide +kernel
theorem dX5_pen_37 : decode cX5_pen 37 = .ok (.aload_n 0, 1) := by decide +kernel
theorem dX5_pen_38 : decode cX5_pen 38 = .ok (.iload_n 1, 1) := by decide +kernel
theorem dX5_pen_39 : decode cX5_pen 39 = .ok (.invokevirtual 132, 3) := by decide +kernel
theorem dX5_pen_42 : decode cX5_pen 42 = .ok (.ireturn, 1) := by decide +kernel
theorem dX5_curve_0 : decode cX5_curve 0 = .ok (.aload_n 0, 1) := by decide +kernel
theorem dX5_curve_1 : decode cX5_curve 1 = .ok (.getfield 37, 3) := by decide +kernel
theorem dX5_curve_4 : decode cX5_curve 4 = .ok (.iload_n 1, 1) := by decide +kernel
theorem dX5_curve_5 : decode cX5_curve 5 = .ok (.invokevirtual 135, 3) := by decide +kernel
theorem dX5_curve_8 : decode cX5_curve 8 = .ok (.astore_n 3, 1) := by decide +kernel
theorem dX5_curve_9 : decode cX5_curve 9 = .ok (.aload_n 3, 1) := by decide +kernel
theorem dX5_curve_10 : decode cX5_curve 10 = .ok (.ifnonnull 5, 3) := by decide +kernel
theorem dX5_curve_13 : decode cX5_curve 13 = .ok (.iconst (-1), 1) := by decide +kernel
theorem dX5_curve_14 : decode cX5_curve 14 = .ok (.ireturn, 1) := by decide +kernel
theorem dX5_curve_15 : decode cX5_curve 15 = .ok (.iload_n 2, 1) := by decide +kernel
theorem dX5_curve_16 : decode cX5_curve 16 = .ok (.tableswitch 84 0 6 #[44, 49, 54, 59, 64, 69, 74], 44) := by decide +kernel
theorem dX5_curve_60 : decode cX5_curve 60 = .ok (.aload_n 3, 1) := by decide +kernel
theorem dX5_curve_61 : decode cX5_curve 61 = .ok (.getfield 139, 3) := by decide +kernel
theorem dX5_curve_64 : decode cX5_curve 64 = .ok (.ireturn, 1) := by decide +kernel
theorem dX5_curve_65 : decode cX5_curve 65 = .ok (.aload_n 3, 1) := by decide +kernel
theorem dX5_curve_66 : decode cX5_curve 66 = .ok (.getfield 142, 3) := by decide +kernel
theorem dX5_curve_69 : decode cX5_curve 69 = .ok (.ireturn, 1) := by decide +kernel
theorem dX5_curve_70 : decode cX5_curve 70 = .ok (.aload_n 3, 1) := by decide +kernel
theorem dX5_curve_71 : decode cX5_curve 71 = .ok (.getfield 145, 3) := by decide +kernel
theorem dX5_curve_74 : decode cX5_curve 74 = .ok (.ireturn, 1) := by decide +kernel
theorem dX5_curve_75 : decode cX5_curve 75 = .ok (.aload_n 3, 1) := by decide +kernel
theorem dX5_curve_76 : decode cX5_curve 76 = .ok (.getfield 148, 3) := by decide +kernel
theorem dX5_curve_79 : decode cX5_curve 79 = .ok (.ireturn, 1) := by decide +kernel
theorem dX5_curve_80 : decode cX5_curve 80 = .ok (.aload_n 3, 1) := by decide +kernel
theorem dX5_curve_81 : decode cX5_curve 81 = .ok (.getfield 151, 3) := by decide +kernel
theorem dX5_curve_84 : decode cX5_curve 84 = .ok (.ireturn, 1) := by decide +kernel
theorem dX5_curve_85 : decode cX5_curve 85 = .ok (.aload_n 3, 1) := by decide +kernel
theorem dX5_curve_86 : decode cX5_curve 86 = .ok (.getfield 154, 3) := by decide +kernel
theorem dX5_curve_89 : decode cX5_curve 89 = .ok (.ireturn, 1) := by decide +kernel
theorem dX5_curve_90 : decode cX5_curve 90 = .ok (.aload_n 0, 1) := by decide +kernel
theorem dX5_curve_91 : decode cX5_curve 91 = .ok (.iload_n 1, 1) := by decide +kernel
theorem dX5_curve_92 : decode cX5_curve 92 = .ok (.aload_n 3, 1) := by decide +kernel
theorem dX5_curve_93 : decode cX5_curve 93 = .ok (.getfield 145, 3) := by decide +kernel
theorem dX5_curve_96 : decode cX5_curve 96 = .ok (.invokevirtual 157, 3) := by decide +kernel
theorem dX5_curve_99 : decode cX5_curve 99 = .ok (.ireturn, 1) := by decide +kernel
theorem dX5_curve_100 : decode cX5_curve 100 = .ok (.iconst (-1), 1) := by decide +kernel
theorem dX5_curve_101 : decode cX5_curve 101 = .ok (.ireturn, 1) := by decide +kernel
theorem dX5_draws_0 : decode cX5_draws 0 = .ok (.aload_n 0, 1) := by decide +kernel
theorem dX5_draws_1 : decode cX5_draws 1 = .ok (.getfield 26, 3) := by decide +kernel
theorem dX5_draws_4 : decode cX5_draws 4 = .ok (.iload_n 1, 1) := by decide +kernel
theorem dX5_draws_5 : decode cX5_draws 5 = .ok (.invokevirtual 99, 3) := by decide +kernel
theorem dX5_draws_8 : decode cX5_draws 8 = .ok (.ifCond .eq 26, 3) := by decide +kernel
theorem dX5_draws_11 : decode cX5_draws 11 = .ok (.aload_n 0, 1) := by decide +kernel
theorem dX5_draws_12 : decode cX5_draws 12 = .ok (.getfield 26, 3) := by decide +kernel
theorem dX5_draws_15 : decode cX5_draws 15 = .ok (.iload_n 2, 1) := by decide +kernel
theorem dX5_draws_16 : decode cX5_draws 16 = .ok (.invokevirtual 106, 3) := by decide +kernel
theorem dX5_draws_19 : decode cX5_draws 19 = .ok (.ifCond .eq 15, 3) := by decide +kernel
theorem dX5_draws_22 : decode cX5_draws 22 = .ok (.aload_n 0, 1) := by decide +kernel
theorem dX5_draws_23 : decode cX5_draws 23 = .ok (.getfield 26, 3) := by decide +kernel
theorem dX5_draws_26 : decode cX5_draws 26 = .ok (.iload 5, 2) := by decide +kernel
theorem dX5_draws_28 : decode cX5_draws 28 = .ok (.invokevirtual 126, 3) := by decide +kernel
theorem dX5_draws_31 : decode cX5_draws 31 = .ok (.ifCond .ne 5, 3) := by decide +kernel
theorem dX5_draws_34 : decode cX5_draws 34 = .ok (.iconst (-1), 1) := by decide +kernel
theorem dX5_draws_35 : decode cX5_draws 35 = .ok (.ireturn, 1) := by decide +kernel
theorem dX5_draws_36 : decode cX5_draws 36 = .ok (.iload_n 3, 1) := by decide +kernel
theorem dX5_draws_37 : decode cX5_draws 37 = .ok (.iconst 1, 1) := by decide +kernel
theorem dX5_draws_38 : decode cX5_draws 38 = .ok (.bipush 9, 2) := by decide +kernel
theorem dX5_draws_40 : decode cX5_draws 40 = .ok (.invokestatic 72, 3) := by decide +kernel
theorem dX5_draws_43 : decode cX5_draws 43 = .ok (.ifCond .eq 22, 3) := by decide +kernel
theorem dX5_draws_46 : decode cX5_draws 46 = .ok (.iload 4, 2) := by decide +kernel
theorem dX5_draws_48 : decode cX5_draws 48 = .ok (.iconst 0, 1) := by decide +kernel
theorem dX5_draws_49 : decode cX5_draws 49 = .ok (.aload_n 0, 1) := by decide +kernel
theorem dX5_draws_50 : decode cX5_draws 50 = .ok (.getfield 26, 3) := by decide +kernel
theorem dX5_draws_53 : decode cX5_draws 53 = .ok (.iload_n 1, 1) := by decide +kernel
theorem dX5_draws_54 : decode cX5_draws 54 = .ok (.invokevirtual 102, 3) := by decide +kernel
theorem dX5_draws_57 : decode cX5_draws 57 = .ok (.iconst 1, 1) := by decide +kernel
theorem dX5_draws_58 : decode cX5_draws 58 = .ok (.isub, 1) := by decide +kernel
theorem dX5_draws_59 : decode cX5_draws 59 = .ok (.invokestatic 72, 3) := by decide +kernel
theorem dX5_draws_62 : decode cX5_draws 62 = .ok (.ifCond .ne 5, 3) := by decide +kernel
theorem dX5_draws_65 : decode cX5_draws 65 = .ok (.iconst (-1), 1) := by decide +kernel
theorem dX5_draws_66 : decode cX5_draws 66 = .ok (.ireturn, 1) := by decide +kernel
theorem dX5_draws_67 : decode cX5_draws 67 = .ok (.aload_n 0, 1) := by decide +kernel
theorem dX5_draws_68 : decode cX5_draws 68 = .ok (.getfield 26, 3) := by decide +kernel
theorem dX5_draws_71 : decode cX5_draws 71 = .ok (.iload_n 1, 1) := by decide +kernel
theorem dX5_draws_72 : decode cX5_draws 72 = .ok (.iload_n 2, 1) := by decide +kernel
theorem dX5_draws_73 : decode cX5_draws 73 = .ok (.invokevirtual 112, 3) := by decide +kernel
theorem dX5_draws_76 : decode cX5_draws 76 = .ok (.ifCond .eq 24, 3) := by decide +kernel
theorem dX5_draws_79 : decode cX5_draws 79 = .ok (.aload_n 0, 1) := by decide +kernel
theorem dX5_draws_80 : decode cX5_draws 80 = .ok (.getfield 37, 3) := by decide +kernel
theorem dX5_draws_83 : decode cX5_draws 83 = .ok (.iload 5, 2) := by decide +kernel
theorem dX5_draws_85 : decode cX5_draws 85 = .ok (.invokevirtual 129, 3) := by decide +kernel
theorem dX5_draws_88 : decode cX5_draws 88 = .ok (.aload_n 0, 1) := by decide +kernel
theorem dX5_draws_89 : decode cX5_draws 89 = .ok (.getfield 26, 3) := by decide +kernel
theorem dX5_draws_92 : decode cX5_draws 92 = .ok (.iload_n 1, 1) := by decide +kernel
theorem dX5_draws_93 : decode cX5_draws 93 = .ok (.iload_n 2, 1) := by decide +kernel
theorem dX5_draws_94 : decode cX5_draws 94 = .ok (.invokevirtual 123, 3) := by decide +kernel
theorem dX5_draws_97 : decode cX5_draws 97 = .ok (.if_icmp .ge 6, 3) := by decide +kernel
theorem dX5_draws_100 : decode cX5_draws 100 = .ok (.bipush (-2), 2) := by decide +kernel
theorem dX5_draws_102 : decode cX5_draws 102 = .ok (.ireturn, 1) := by decide +kernel
theorem dX5_draws_103 : decode cX5_draws 103 = .ok (.aload_n 0, 1) := by decide +kernel
theorem dX5_draws_104 : decode cX5_draws 104 = .ok (.getfield 37, 3) := by decide +kernel
theorem dX5_draws_107 : decode cX5_draws 107 = .ok (.getfield 160, 3) := by decide +kernel
theorem dX5_draws_110 : decode cX5_draws 110 = .ok (.arraylength, 1) := by decide +kernel
theorem dX5_draws_111 : decode cX5_draws 111 = .ok (.istore 6, 2) := by decide +kernel
theorem dX5_draws_113 : decode cX5_draws 113 = .ok (.iload 6, 2) := by decide +kernel
theorem dX5_draws_115 : decode cX5_draws 115 = .ok (.bipush 12, 2) := by decide +kernel
theorem dX5_draws_117 : decode cX5_draws 117 = .ok (.if_icmp .lt 6, 3) := by decide +kernel
theorem dX5_draws_120 : decode cX5_draws 120 = .ok (.bipush (-3), 2) := by decide +kernel
theorem dX5_draws_122 : decode cX5_draws 122 = .ok (.ireturn, 1) := by decide +kernel
theorem dX5_draws_123 : decode cX5_draws 123 = .ok (.new 32, 3) := by decide +kernel
theorem dX5_draws_126 : decode cX5_draws 126 = .ok (.dup, 1) := by decide +kernel
theorem dX5_draws_127 : decode cX5_draws 127 = .ok (.aload_n 0, 1) := by decide +kernel
theorem dX5_draws_128 : decode cX5_draws 128 = .ok (.getfield 26, 3) := by decide +kernel
theorem dX5_draws_131 : decode cX5_draws 131 = .ok (.iload_n 1, 1) := by decide +kernel
theorem dX5_draws_132 : decode cX5_draws 132 = .ok (.iload_n 2, 1) := by decide +kernel
theorem dX5_draws_133 : decode cX5_draws 133 = .ok (.iload_n 3, 1) := by decide +kernel
theorem dX5_draws_134 : decode cX5_draws 134 = .ok (.iload 4, 2) := by decide +kernel
theorem dX5_draws_136 : decode cX5_draws 136 = .ok (.iload 5, 2) := by decide +kernel
theorem dX5_draws_138 : decode cX5_draws 138 = .ok (.aload_n 0, 1) := by decide +kernel
theorem dX5_draws_139 : decode cX5_draws 139 = .ok (.getfield 37, 3) := by decide +kernel
theorem dX5_draws_142 : decode cX5_draws 142 = .ok (.getfield 164, 3) := by decide +kernel
theorem dX5_draws_145 : decode cX5_draws 145 = .ok (.invokespecial 167, 3) := by decide +kernel
theorem dX5_draws_148 : decode cX5_draws 148 = .ok (.astore 7, 2) := by decide +kernel
theorem dX5_draws_150 : decode cX5_draws 150 = .ok (.aload_n 0, 1) := by decide +kernel
theorem dX5_draws_151 : decode cX5_draws 151 = .ok (.aload_n 0, 1) := by decide +kernel
theorem dX5_draws_152 : decode cX5_draws 152 = .ok (.getfield 37, 3) := by decide +kernel
theorem dX5_draws_155 : decode cX5_draws 155 = .ok (.aload 7, 2) := by decide +kernel
theorem dX5_draws_157 : decode cX5_draws 157 = .ok (.aload_n 0, 1) := by decide +kernel
theorem dX5_draws_158 : decode cX5_draws 158 = .ok (.getfield 26, 3) := by decide +kernel
theorem dX5_draws_161 : decode cX5_draws 161 = .ok (.iload_n 1, 1) := by decide +kernel
theorem dX5_draws_162 : decode cX5_draws 162 = .ok (.iload_n 2, 1) := by decide +kernel
theorem dX5_draws_163 : decode cX5_draws 163 = .ok (.invokevirtual 123, 3) := by decide +kernel
theorem dX5_draws_166 : decode cX5_draws 166 = .ok (.invokevirtual 170, 3) := by decide +kernel
theorem dX5_draws_169 : decode cX5_draws 169 = .ok (.invokevirtual 174, 3) := by decide +kernel
theorem dX5_draws_172 : decode cX5_draws 172 = .ok (.iload 6, 2) := by decide +kernel
theorem dX5_draws_174 : decode cX5_draws 174 = .ok (.ireturn, 1) := by decide +kernel
theorem dX5_rubs_0 : decode cX5_rubs 0 = .ok (.aload_n 0, 1) := by decide +kernel
theorem dX5_rubs_1 : decode cX5_rubs 1 = .ok (.getfield 37, 3) := by decide +kernel
theorem dX5_rubs_4 : decode cX5_rubs 4 = .ok (.iload_n 1, 1) := by decide +kernel
theorem dX5_rubs_5 : decode cX5_rubs 5 = .ok (.invokevirtual 135, 3) := by decide +kernel
theorem dX5_rubs_8 : decode cX5_rubs 8 = .ok (.ifnonnull 5, 3) := by decide +kernel
theorem dX5_rubs_11 : decode cX5_rubs 11 = .ok (.iconst (-1), 1) := by decide +kernel
theorem dX5_rubs_12 : decode cX5_rubs 12 = .ok (.ireturn, 1) := by decide +kernel
theorem dX5_rubs_13 : decode cX5_rubs 13 = .ok (.aload_n 0, 1) := by decide +kernel
theorem dX5_rubs_14 : decode cX5_rubs 14 = .ok (.aload_n 0, 1) := by decide +kernel
theorem dX5_rubs_15 : decode cX5_rubs 15 = .ok (.getfield 37, 3) := by decide +kernel
theorem dX5_rubs_18 : decode cX5_rubs 18 = .ok (.iload_n 1, 1) := by decide +kernel
theorem dX5_rubs_19 : decode cX5_rubs 19 = .ok (.invokevirtual 178, 3) := by decide +kernel
theorem dX5_rubs_22 : decode cX5_rubs 22 = .ok (.invokevirtual 174, 3) := by decide +kernel
theorem dX5_rubs_25 : decode cX5_rubs 25 = .ok (.aload_n 0, 1) := by decide +kernel
theorem dX5_rubs_26 : decode cX5_rubs 26 = .ok (.getfield 37, 3) := by decide +kernel
theorem dX5_rubs_29 : decode cX5_rubs 29 = .ok (.getfield 160, 3) := by decide +kernel
theorem dX5_rubs_32 : decode cX5_rubs 32 = .ok (.arraylength, 1) := by decide +kernel
theorem dX5_rubs_33 : decode cX5_rubs 33 = .ok (.ireturn, 1) := by decide +kernel
theorem dX5_spins_0 : decode cX5_spins 0 = .ok (.iload_n 1, 1) := by decide +kernel
theorem dX5_spins_1 : decode cX5_spins 1 = .ok (.iconst 1, 1) := by decide +kernel
theorem dX5_spins_2 : decode cX5_spins 2 = .ok (.sipush 359, 3) := by decide +kernel
theorem dX5_spins_5 : decode cX5_spins 5 = .ok (.invokestatic 72, 3) := by decide +kernel
theorem dX5_spins_8 : decode cX5_spins 8 = .ok (.ifCond .ne 5, 3) := by decide +kernel
theorem dX5_spins_11 : decode cX5_spins 11 = .ok (.iconst (-1), 1) := by decide +kernel
theorem dX5_spins_12 : decode cX5_spins 12 = .ok (.ireturn, 1) := by decide +kernel
theorem dX5_spins_13 : decode cX5_spins 13 = .ok (.aload_n 0, 1) := by decide +kernel
theorem dX5_spins_14 : decode cX5_spins 14 = .ok (.aload_n 0, 1) := by decide +kernel
theorem dX5_spins_15 : decode cX5_spins 15 = .ok (.getfield 37, 3) := by decide +kernel
theorem dX5_spins_18 : decode cX5_spins 18 = .ok (.iload_n 1, 1) := by decide +kernel
theorem dX5_spins_19 : decode cX5_spins 19 = .ok (.invokevirtual 182, 3) := by decide +kernel
theorem dX5_spins_22 : decode cX5_spins 22 = .ok (.invokevirtual 174, 3) := by decide +kernel
theorem dX5_spins_25 : decode cX5_spins 25 = .ok (.aload_n 0, 1) := by decide +kernel
theorem dX5_spins_26 : decode cX5_spins 26 = .ok (.getfield 37, 3) := by decide +kernel
theorem dX5_spins_29 : decode cX5_spins 29 = .ok (.getfield 164, 3) := by decide +kernel
theorem dX5_spins_32 : decode cX5_spins 32 = .ok (.ireturn, 1) := by decide +kernel
theorem dX5_fills_0 : decode cX5_fills 0 = .ok (.aload_n 0, 1) := by decide +kernel
theorem dX5_fills_1 : decode cX5_fills 1 = .ok (.getfield 26, 3) := by decide +kernel
theorem dX5_fills_4 : decode cX5_fills 4 = .ok (.iload_n 1, 1) := by decide +kernel
theorem dX5_fills_5 : decode cX5_fills 5 = .ok (.invokevirtual 126, 3) := by decide +kernel
theorem dX5_fills_8 : decode cX5_fills 8 = .ok (.ifCond .eq 14, 3) := by decide +kernel
theorem dX5_fills_11 : decode cX5_fills 11 = .ok (.iload_n 2, 1) := by decide +kernel
theorem dX5_fills_12 : decode cX5_fills 12 = .ok (.iconst 1, 1) := by decide +kernel
theorem dX5_fills_13 : decode cX5_fills 13 = .ok (.sipush 999, 3) := by decide +kernel
theorem dX5_fills_16 : decode cX5_fills 16 = .ok (.invokestatic 72, 3) := by decide +kernel
theorem dX5_fills_19 : decode cX5_fills 19 = .ok (.ifCond .ne 5, 3) := by decide +kernel
theorem dX5_fills_22 : decode cX5_fills 22 = .ok (.iconst (-1), 1) := by decide +kernel
theorem dX5_fills_23 : decode cX5_fills 23 = .ok (.ireturn, 1) := by decide +kernel
theorem dX5_fills_24 : decode cX5_fills 24 = .ok (.aload_n 0, 1) := by decide +kernel
theorem dX5_fills_25 : decode cX5_fills 25 = .ok (.getfield 37, 3) := by decide +kernel
theorem dX5_fills_28 : decode cX5_fills 28 = .ok (.iload_n 1, 1) := by decide +kernel
theorem dX5_fills_29 : decode cX5_fills 29 = .ok (.invokevirtual 129, 3) := by decide +kernel
theorem dX5_fills_32 : decode cX5_fills 32 = .ok (.sipush 999, 3) := by decide +kernel
theorem dX5_fills_35 : decode cX5_fills 35 = .ok (.if_icmp .lt 6, 3) := by decide +kernel
theorem dX5_fills_38 : decode cX5_fills 38 = .ok (.bipush (-2), 2) := by decide +kernel
theorem dX5_fills_40 : decode cX5_fills 40 = .ok (.ireturn, 1) := by decide +kernel
theorem dX5_fills_41 : decode cX5_fills 41 = .ok (.aload_n 0, 1) := by decide +kernel
theorem dX5_fills_42 : decode cX5_fills 42 = .ok (.aload_n 0, 1) := by decide +kernel
theorem dX5_fills_43 : decode cX5_fills 43 = .ok (.getfield 37, 3) := by decide +kernel
theorem dX5_fills_46 : decode cX5_fills 46 = .ok (.iload_n 1, 1) := by decide +kernel
theorem dX5_fills_47 : decode cX5_fills 47 = .ok (.iload_n 2, 1) := by decide +kernel
theorem dX5_fills_48 : decode cX5_fills 48 = .ok (.invokevirtual 185, 3) := by decide +kernel
theorem dX5_fills_51 : decode cX5_fills 51 = .ok (.invokevirtual 174, 3) := by decide +kernel
theorem dX5_fills_54 : decode cX5_fills 54 = .ok (.aload_n 0, 1) := by decide +kernel
theorem dX5_fills_55 : decode cX5_fills 55 = .ok (.getfield 37, 3) := by decide +kernel
theorem dX5_fills_58 : decode cX5_fills 58 = .ok (.iload_n 1, 1) := by decide +kernel
theorem dX5_fills_59 : decode cX5_fills 59 = .ok (.invokevirtual 129, 3) := by decide +kernel
theorem dX5_fills_62 : decode cX5_fills 62 = .ok (.ireturn, 1) := by decide +kernel
theorem dX5_undo_0 : decode cX5_undo 0 = .ok (.aload_n 0, 1) := by decide +kernel
theorem dX5_undo_1 : decode cX5_undo 1 = .ok (.getfield 44, 3) := by decide +kernel
theorem dX5_undo_4 : decode cX5_undo 4 = .ok (.invokevirtual 189, 3) := by decide +kernel
theorem dX5_undo_7 : decode cX5_undo 7 = .ok (.astore_n 1, 1) := by decide +kernel
theorem dX5_undo_8 : decode cX5_undo 8 = .ok (.aload_n 1, 1) := by decide +kernel
theorem dX5_undo_9 : decode cX5_undo 9 = .ok (.ifnonnull 6, 3) := by decide +kernel
theorem dX5_undo_12 : decode cX5_undo 12 = .ok (.bipush (-2), 2) := by decide +kernel
theorem dX5_undo_14 : decode cX5_undo 14 = .ok (.ireturn, 1) := by decide +kernel
theorem dX5_undo_15 : decode cX5_undo 15 = .ok (.aload_n 0, 1) := by decide +kernel
theorem dX5_undo_16 : decode cX5_undo 16 = .ok (.aload_n 1, 1) := by decide +kernel
theorem dX5_undo_17 : decode cX5_undo 17 = .ok (.putfield 37, 3) := by decide +kernel
theorem dX5_undo_20 : decode cX5_undo 20 = .ok (.aload_n 0, 1) := by decide +kernel
theorem dX5_undo_21 : decode cX5_undo 21 = .ok (.getfield 44, 3) := by decide +kernel
theorem dX5_undo_24 : decode cX5_undo 24 = .ok (.getfield 193, 3) := by decide +kernel
theorem dX5_undo_27 : decode cX5_undo 27 = .ok (.ireturn, 1) := by decide +kernel
theorem dX5_now_0 : decode cX5_now 0 = .ok (.iload_n 1, 1) := by decide +kernel
theorem dX5_now_1 : decode cX5_now 1 = .ok (.tableswitch 58 0 3 #[31, 39, 48, 53], 31) := by decide +kernel
theorem dX5_now_32 : decode cX5_now 32 = .ok (.aload_n 0, 1) := by decide +kernel
theorem dX5_now_33 : decode cX5_now 33 = .ok (.getfield 37, 3) := by decide +kernel
theorem dX5_now_36 : decode cX5_now 36 = .ok (.getfield 164, 3) := by decide +kernel
theorem dX5_now_39 : decode cX5_now 39 = .ok (.ireturn, 1) := by decide +kernel
theorem dX5_now_40 : decode cX5_now 40 = .ok (.aload_n 0, 1) := by decide +kernel
theorem dX5_now_41 : decode cX5_now 41 = .ok (.getfield 37, 3) := by decide +kernel
theorem dX5_now_44 : decode cX5_now 44 = .ok (.getfield 160, 3) := by decide +kernel
theorem dX5_now_47 : decode cX5_now 47 = .ok (.arraylength, 1) := by decide +kernel
theorem dX5_now_48 : decode cX5_now 48 = .ok (.ireturn, 1) := by decide +kernel
theorem dX5_now_49 : decode cX5_now 49 = .ok (.aload_n 0, 1) := by decide +kernel
theorem dX5_now_50 : decode cX5_now 50 = .ok (.invokevirtual 196, 3) := by decide +kernel
theorem dX5_now_53 : decode cX5_now 53 = .ok (.ireturn, 1) := by decide +kernel
theorem dX5_now_54 : decode cX5_now 54 = .ok (.aload_n 0, 1) := by decide +kernel
theorem dX5_now_55 : decode cX5_now 55 = .ok (.invokevirtual 199, 3) := by decide +kernel
theorem dX5_now_58 : decode cX5_now 58 = .ok (.ireturn, 1) := by decide +kernel
theorem dX5_now_59 : decode cX5_now 59 = .ok (.iconst (-1), 1) := by decide +kernel
theorem dX5_now_60 : decode cX5_now 60 = .ok (.ireturn, 1) := by decide +kernel
theorem dX5_shown_0 : decode cX5_shown 0 = .ok (.iload_n 1, 1) := by decide +kernel
theorem dX5_shown_1 : decode cX5_shown 1 = .ok (.iconst 0, 1) := by decide +kernel
theorem dX5_shown_2 : decode cX5_shown 2 = .ok (.sipush 359, 3) := by decide +kernel
theorem dX5_shown_5 : decode cX5_shown 5 = .ok (.invokestatic 72, 3) := by decide +kernel
theorem dX5_shown_8 : decode cX5_shown 8 = .ok (.ifCond .eq 13, 3) := by decide +kernel
theorem dX5_shown_11 : decode cX5_shown 11 = .ok (.iload_n 2, 1) := by decide +kernel
theorem dX5_shown_12 : decode cX5_shown 12 = .ok (.iconst 1, 1) := by decide +kernel
theorem dX5_shown_13 : decode cX5_shown 13 = .ok (.bipush 9, 2) := by decide +kernel
theorem dX5_shown_15 : decode cX5_shown 15 = .ok (.invokestatic 72, 3) := by decide +kernel
theorem dX5_shown_18 : decode cX5_shown 18 = .ok (.ifCond .ne 5, 3) := by decide +kernel
theorem dX5_shown_21 : decode cX5_shown 21 = .ok (.iconst (-1), 1) := by decide +kernel
theorem dX5_shown_22 : decode cX5_shown 22 = .ok (.ireturn, 1) := by decide +kernel
theorem dX5_shown_23 : decode cX5_shown 23 = .ok (.aload_n 0, 1) := by decide +kernel
theorem dX5_shown_24 : decode cX5_shown 24 = .ok (.getfield 37, 3) := by decide +kernel
theorem dX5_shown_27 : decode cX5_shown 27 = .ok (.getfield 160, 3) := by decide +kernel
theorem dX5_shown_30 : decode cX5_shown 30 = .ok (.arraylength, 1) := by decide +kernel
theorem dX5_shown_31 : decode cX5_shown 31 = .ok (.iconst 1, 1) := by decide +kernel
theorem dX5_shown_32 : decode cX5_shown 32 = .ok (.isub, 1) := by decide +kernel
theorem dX5_shown_33 : decode cX5_shown 33 = .ok (.istore_n 3, 1) := by decide +kernel
theorem dX5_shown_34 : decode cX5_shown 34 = .ok (.iload_n 3, 1) := by decide +kernel
theorem dX5_shown_35 : decode cX5_shown 35 = .ok (.ifCond .lt 36, 3) := by decide +kernel
theorem dX5_shown_38 : decode cX5_shown 38 = .ok (.aload_n 0, 1) := by decide +kernel
theorem dX5_shown_39 : decode cX5_shown 39 = .ok (.getfield 37, 3) := by decide +kernel
theorem dX5_shown_42 : decode cX5_shown 42 = .ok (.iload_n 3, 1) := by decide +kernel
theorem dX5_shown_43 : decode cX5_shown 43 = .ok (.invokevirtual 135, 3) := by decide +kernel
theorem dX5_shown_46 : decode cX5_shown 46 = .ok (.astore 4, 2) := by decide +kernel
theorem dX5_shown_48 : decode cX5_shown 48 = .ok (.aload 4, 2) := by decide +kernel
theorem dX5_shown_50 : decode cX5_shown 50 = .ok (.ifnull 15, 3) := by decide +kernel
theorem dX5_shown_53 : decode cX5_shown 53 = .ok (.aload 4, 2) := by decide +kernel
theorem dX5_shown_55 : decode cX5_shown 55 = .ok (.iload_n 1, 1) := by decide +kernel
theorem dX5_shown_56 : decode cX5_shown 56 = .ok (.iload_n 2, 1) := by decide +kernel
theorem dX5_shown_57 : decode cX5_shown 57 = .ok (.invokevirtual 202, 3) := by decide +kernel
theorem dX5_shown_60 : decode cX5_shown 60 = .ok (.ifCond .eq 5, 3) := by decide +kernel
theorem dX5_shown_63 : decode cX5_shown 63 = .ok (.iload_n 3, 1) := by decide +kernel
theorem dX5_shown_64 : decode cX5_shown 64 = .ok (.ireturn, 1) := by decide +kernel
theorem dX5_shown_65 : decode cX5_shown 65 = .ok (.iinc 3 (-1), 3) := by decide +kernel
theorem dX5_shown_68 : decode cX5_shown 68 = .ok (.goto (-34), 3) := by decide +kernel
theorem dX5_shown_71 : decode cX5_shown 71 = .ok (.bipush (-9), 2) := by decide +kernel
theorem dX5_shown_73 : decode cX5_shown 73 = .ok (.ireturn, 1) := by decide +kernel
theorem dX5_petals_0 : decode cX5_petals 0 = .ok (.aload_n 0, 1) := by decide +kernel
theorem dX5_petals_1 : decode cX5_petals 1 = .ok (.getfield 26, 3) := by decide +kernel
theorem dX5_petals_4 : decode cX5_petals 4 = .ok (.iload_n 1, 1) := by decide +kernel
theorem dX5_petals_5 : decode cX5_petals 5 = .ok (.invokevirtual 99, 3) := by decide +kernel
theorem dX5_petals_8 : decode cX5_petals 8 = .ok (.ifCond .eq 13, 3) := by decide +kernel
theorem dX5_petals_11 : decode cX5_petals 11 = .ok (.iload_n 2, 1) := by decide +kernel
theorem dX5_petals_12 : decode cX5_petals 12 = .ok (.iconst 1, 1) := by decide +kernel
theorem dX5_petals_13 : decode cX5_petals 13 = .ok (.bipush 120, 2) := by decide +kernel
theorem dX5_petals_15 : decode cX5_petals 15 = .ok (.invokestatic 72, 3) := by decide +kernel
theorem dX5_petals_18 : decode cX5_petals 18 = .ok (.ifCond .ne 5, 3) := by decide +kernel
theorem dX5_petals_21 : decode cX5_petals 21 = .ok (.iconst (-1), 1) := by decide +kernel
theorem dX5_petals_22 : decode cX5_petals 22 = .ok (.ireturn, 1) := by decide +kernel
theorem dX5_petals_23 : decode cX5_petals 23 = .ok (.iconst 0, 1) := by decide +kernel
theorem dX5_petals_24 : decode cX5_petals 24 = .ok (.istore_n 3, 1) := by decide +kernel
theorem dX5_petals_25 : decode cX5_petals 25 = .ok (.iload_n 3, 1) := by decide +kernel
theorem dX5_petals_26 : decode cX5_petals 26 = .ok (.aload_n 0, 1) := by decide +kernel
theorem dX5_petals_27 : decode cX5_petals 27 = .ok (.getfield 26, 3) := by decide +kernel
theorem dX5_petals_30 : decode cX5_petals 30 = .ok (.getfield 205, 3) := by decide +kernel
theorem dX5_petals_33 : decode cX5_petals 33 = .ok (.if_icmp .ge 36, 3) := by decide +kernel
theorem dX5_petals_36 : decode cX5_petals 36 = .ok (.aload_n 0, 1) := by decide +kernel
theorem dX5_petals_37 : decode cX5_petals 37 = .ok (.getfield 26, 3) := by decide +kernel
theorem dX5_petals_40 : decode cX5_petals 40 = .ok (.iload_n 1, 1) := by decide +kernel
theorem dX5_petals_41 : decode cX5_petals 41 = .ok (.iload_n 3, 1) := by decide +kernel
theorem dX5_petals_42 : decode cX5_petals 42 = .ok (.invokevirtual 112, 3) := by decide +kernel
theorem dX5_petals_45 : decode cX5_petals 45 = .ok (.ifCond .eq 18, 3) := by decide +kernel
theorem dX5_petals_48 : decode cX5_petals 48 = .ok (.aload_n 0, 1) := by decide +kernel
theorem dX5_petals_49 : decode cX5_petals 49 = .ok (.getfield 26, 3) := by decide +kernel
theorem dX5_petals_52 : decode cX5_petals 52 = .ok (.iload_n 1, 1) := by decide +kernel
theorem dX5_petals_53 : decode cX5_petals 53 = .ok (.iload_n 3, 1) := by decide +kernel
theorem dX5_petals_54 : decode cX5_petals 54 = .ok (.invokevirtual 116, 3) := by decide +kernel
theorem dX5_petals_57 : decode cX5_petals 57 = .ok (.iload_n 2, 1) := by decide +kernel
theorem dX5_petals_58 : decode cX5_petals 58 = .ok (.if_icmp .ne 5, 3) := by decide +kernel
theorem dX5_petals_61 : decode cX5_petals 61 = .ok (.iload_n 3, 1) := by decide +kernel
theorem dX5_petals_62 : decode cX5_petals 62 = .ok (.ireturn, 1) := by decide +kernel
theorem dX5_petals_63 : decode cX5_petals 63 = .ok (.iinc 3 1, 3) := by decide +kernel
theorem dX5_petals_66 : decode cX5_petals 66 = .ok (.goto (-41), 3) := by decide +kernel
theorem dX5_petals_69 : decode cX5_petals 69 = .ok (.bipush (-9), 2) := by decide +kernel
theorem dX5_petals_71 : decode cX5_petals 71 = .ok (.ireturn, 1) := by decide +kernel
theorem dX5_closes_0 : decode cX5_closes 0 = .ok (.aload_n 0, 1) := by decide +kernel
theorem dX5_closes_1 : decode cX5_closes 1 = .ok (.getfield 26, 3) := by decide +kernel
theorem dX5_closes_4 : decode cX5_closes 4 = .ok (.iload_n 1, 1) := by decide +kernel
theorem dX5_closes_5 : decode cX5_closes 5 = .ok (.invokevirtual 99, 3) := by decide +kernel
theorem dX5_closes_8 : decode cX5_closes 8 = .ok (.ifCond .eq 22, 3) := by decide +kernel
theorem dX5_closes_11 : decode cX5_closes 11 = .ok (.iload_n 2, 1) := by decide +kernel
theorem dX5_closes_12 : decode cX5_closes 12 = .ok (.iconst 1, 1) := by decide +kernel
theorem dX5_closes_13 : decode cX5_closes 13 = .ok (.bipush 9, 2) := by decide +kernel
theorem dX5_closes_15 : decode cX5_closes 15 = .ok (.invokestatic 72, 3) := by decide +kernel
theorem dX5_closes_18 : decode cX5_closes 18 = .ok (.ifCond .eq 12, 3) := by decide +kernel
theorem dX5_closes_21 : decode cX5_closes 21 = .ok (.iload_n 3, 1) := by decide +kernel
theorem dX5_closes_22 : decode cX5_closes 22 = .ok (.iconst 0, 1) := by decide +kernel
theorem dX5_closes_23 : decode cX5_closes 23 = .ok (.iconst 1, 1) := by decide +kernel
theorem dX5_closes_24 : decode cX5_closes 24 = .ok (.invokestatic 72, 3) := by decide +kernel
theorem dX5_closes_27 : decode cX5_closes 27 = .ok (.ifCond .ne 5, 3) := by decide +kernel
theorem dX5_closes_30 : decode cX5_closes 30 = .ok (.iconst (-1), 1) := by decide +kernel
theorem dX5_closes_31 : decode cX5_closes 31 = .ok (.ireturn, 1) := by decide +kernel
theorem dX5_closes_32 : decode cX5_closes 32 = .ok (.aload_n 0, 1) := by decide +kernel
theorem dX5_closes_33 : decode cX5_closes 33 = .ok (.iload_n 1, 1) := by decide +kernel
theorem dX5_closes_34 : decode cX5_closes 34 = .ok (.iload_n 2, 1) := by decide +kernel
theorem dX5_closes_35 : decode cX5_closes 35 = .ok (.invokevirtual 208, 3) := by decide +kernel
theorem dX5_closes_38 : decode cX5_closes 38 = .ok (.ifCond .ne 14, 3) := by decide +kernel
theorem dX5_closes_41 : decode cX5_closes 41 = .ok (.iload_n 3, 1) := by decide +kernel
theorem dX5_closes_42 : decode cX5_closes 42 = .ok (.ifCond .ne 7, 3) := by decide +kernel
theorem dX5_closes_45 : decode cX5_closes 45 = .ok (.iconst 0, 1) := by decide +kernel
theorem dX5_closes_46 : decode cX5_closes 46 = .ok (.goto 5, 3) := by decide +kernel
theorem dX5_closes_49 : decode cX5_closes 49 = .ok (.bipush (-9), 2) := by decide +kernel
theorem dX5_closes_51 : decode cX5_closes 51 = .ok (.ireturn, 1) := by decide +kernel
theorem dX5_closes_52 : decode cX5_closes 52 = .ok (.bipush (-9), 2) := by decide +kernel
theorem dX5_closes_54 : decode cX5_closes 54 = .ok (.istore 4, 2) := by decide +kernel
theorem dX5_closes_56 : decode cX5_closes 56 = .ok (.bipush (-9), 2) := by decide +kernel
theorem dX5_closes_58 : decode cX5_closes 58 = .ok (.istore 5, 2) := by decide +kernel
theorem dX5_closes_60 : decode cX5_closes 60 = .ok (.iconst 0, 1) := by decide +kernel
theorem dX5_closes_61 : decode cX5_closes 61 = .ok (.istore 6, 2) := by decide +kernel
theorem dX5_closes_63 : decode cX5_closes 63 = .ok (.iload 6, 2) := by decide +kernel
theorem dX5_closes_65 : decode cX5_closes 65 = .ok (.aload_n 0, 1) := by decide +kernel
theorem dX5_closes_66 : decode cX5_closes 66 = .ok (.getfield 26, 3) := by decide +kernel
theorem dX5_closes_69 : decode cX5_closes 69 = .ok (.getfield 205, 3) := by decide +kernel
theorem dX5_closes_72 : decode cX5_closes 72 = .ok (.if_icmp .ge 68, 3) := by decide +kernel
theorem dX5_closes_75 : decode cX5_closes 75 = .ok (.aload_n 0, 1) := by decide +kernel
theorem dX5_closes_76 : decode cX5_closes 76 = .ok (.getfield 26, 3) := by decide +kernel
theorem dX5_closes_79 : decode cX5_closes 79 = .ok (.iload_n 1, 1) := by decide +kernel
theorem dX5_closes_80 : decode cX5_closes 80 = .ok (.iload 6, 2) := by decide +kernel
theorem dX5_closes_82 : decode cX5_closes 82 = .ok (.invokevirtual 112, 3) := by decide +kernel
theorem dX5_closes_85 : decode cX5_closes 85 = .ok (.ifCond .eq 49, 3) := by decide +kernel
theorem dX5_closes_88 : decode cX5_closes 88 = .ok (.aload_n 0, 1) := by decide +kernel
theorem dX5_closes_89 : decode cX5_closes 89 = .ok (.aload_n 0, 1) := by decide +kernel
theorem dX5_closes_90 : decode cX5_closes 90 = .ok (.getfield 26, 3) := by decide +kernel
theorem dX5_closes_93 : decode cX5_closes 93 = .ok (.iload_n 1, 1) := by decide +kernel
theorem dX5_closes_94 : decode cX5_closes 94 = .ok (.invokevirtual 102, 3) := by decide +kernel
theorem dX5_closes_97 : decode cX5_closes 97 = .ok (.aload_n 0, 1) := by decide +kernel
theorem dX5_closes_98 : decode cX5_closes 98 = .ok (.getfield 26, 3) := by decide +kernel
theorem dX5_closes_101 : decode cX5_closes 101 = .ok (.iload_n 1, 1) := by decide +kernel
theorem dX5_closes_102 : decode cX5_closes 102 = .ok (.iload 6, 2) := by decide +kernel
theorem dX5_closes_104 : decode cX5_closes 104 = .ok (.invokevirtual 211, 3) := by decide +kernel
theorem dX5_closes_107 : decode cX5_closes 107 = .ok (.invokevirtual 214, 3) := by decide +kernel
theorem dX5_closes_110 : decode cX5_closes 110 = .ok (.istore 7, 2) := by decide +kernel
theorem dX5_closes_112 : decode cX5_closes 112 = .ok (.iload 5, 2) := by decide +kernel
theorem dX5_closes_114 : decode cX5_closes 114 = .ok (.bipush (-9), 2) := by decide +kernel
theorem dX5_closes_116 : decode cX5_closes 116 = .ok (.if_icmp .eq 10, 3) := by decide +kernel
theorem dX5_closes_119 : decode cX5_closes 119 = .ok (.iload 7, 2) := by decide +kernel
theorem dX5_closes_121 : decode cX5_closes 121 = .ok (.iload 4, 2) := by decide +kernel
theorem dX5_closes_123 : decode cX5_closes 123 = .ok (.if_icmp .ge 11, 3) := by decide +kernel
theorem dX5_closes_126 : decode cX5_closes 126 = .ok (.iload 7, 2) := by decide +kernel
theorem dX5_closes_128 : decode cX5_closes 128 = .ok (.istore 4, 2) := by decide +kernel
theorem dX5_closes_130 : decode cX5_closes 130 = .ok (.iload 6, 2) := by decide +kernel
theorem dX5_closes_132 : decode cX5_closes 132 = .ok (.istore 5, 2) := by decide +kernel
theorem dX5_closes_134 : decode cX5_closes 134 = .ok (.iinc 6 1, 3) := by decide +kernel
theorem dX5_closes_137 : decode cX5_closes 137 = .ok (.goto (-74), 3) := by decide +kernel
theorem dX5_closes_140 : decode cX5_closes 140 = .ok (.iload_n 3, 1) := by decide +kernel
theorem dX5_closes_141 : decode cX5_closes 141 = .ok (.ifCond .ne 8, 3) := by decide +kernel
theorem dX5_closes_144 : decode cX5_closes 144 = .ok (.iload 4, 2) := by decide +kernel
theorem dX5_closes_146 : decode cX5_closes 146 = .ok (.goto 5, 3) := by decide +kernel
theorem dX5_closes_149 : decode cX5_closes 149 = .ok (.iload 5, 2) := by decide +kernel
theorem dX5_closes_151 : decode cX5_closes 151 = .ok (.ireturn, 1) := by decide +kernel
theorem dX5_best_0 : decode cX5_best 0 = .ok (.aload_n 0, 1) := by decide +kernel
theorem dX5_best_1 : decode cX5_best 1 = .ok (.getfield 26, 3) := by decide +kernel
theorem dX5_best_4 : decode cX5_best 4 = .ok (.iload_n 1, 1) := by decide +kernel
theorem dX5_best_5 : decode cX5_best 5 = .ok (.invokevirtual 126, 3) := by decide +kernel
theorem dX5_best_8 : decode cX5_best 8 = .ok (.ifCond .eq 12, 3) := by decide +kernel
theorem dX5_best_11 : decode cX5_best 11 = .ok (.iload_n 2, 1) := by decide +kernel
theorem dX5_best_12 : decode cX5_best 12 = .ok (.iconst 0, 1) := by decide +kernel
theorem dX5_best_13 : decode cX5_best 13 = .ok (.iconst 1, 1) := by decide +kernel
theorem dX5_best_14 : decode cX5_best 14 = .ok (.invokestatic 72, 3) := by decide +kernel
theorem dX5_best_17 : decode cX5_best 17 = .ok (.ifCond .ne 5, 3) := by decide +kernel
theorem dX5_best_20 : decode cX5_best 20 = .ok (.iconst (-1), 1) := by decide +kernel
theorem dX5_best_21 : decode cX5_best 21 = .ok (.ireturn, 1) := by decide +kernel
theorem dX5_best_22 : decode cX5_best 22 = .ok (.aload_n 0, 1) := by decide +kernel
theorem dX5_best_23 : decode cX5_best 23 = .ok (.getfield 68, 3) := by decide +kernel
theorem dX5_best_26 : decode cX5_best 26 = .ok (.ifCond .ne 7, 3) := by decide +kernel
theorem dX5_best_29 : decode cX5_best 29 = .ok (.aload_n 0, 1) := by decide +kernel
theorem dX5_best_30 : decode cX5_best 30 = .ok (.invokevirtual 217, 3) := by decide +kernel
theorem dX5_best_33 : decode cX5_best 33 = .ok (.aload_n 0, 1) := by decide +kernel
theorem dX5_best_34 : decode cX5_best 34 = .ok (.getfield 37, 3) := by decide +kernel
theorem dX5_best_37 : decode cX5_best 37 = .ok (.iload_n 1, 1) := by decide +kernel
theorem dX5_best_38 : decode cX5_best 38 = .ok (.invokevirtual 129, 3) := by decide +kernel
theorem dX5_best_41 : decode cX5_best 41 = .ok (.iconst 0, 1) := by decide +kernel
theorem dX5_best_42 : decode cX5_best 42 = .ok (.invokestatic 220, 3) := by decide +kernel
theorem dX5_best_45 : decode cX5_best 45 = .ok (.sipush 999, 3) := by decide +kernel
theorem dX5_best_48 : decode cX5_best 48 = .ok (.invokestatic 225, 3) := by decide +kernel
theorem dX5_best_51 : decode cX5_best 51 = .ok (.istore_n 3, 1) := by decide +kernel
theorem dX5_best_52 : decode cX5_best 52 = .ok (.aload_n 0, 1) := by decide +kernel
theorem dX5_best_53 : decode cX5_best 53 = .ok (.getfield 65, 3) := by decide +kernel
theorem dX5_best_56 : decode cX5_best 56 = .ok (.iload_n 3, 1) := by decide +kernel
theorem dX5_best_57 : decode cX5_best 57 = .ok (.iaload, 1) := by decide +kernel
theorem dX5_best_58 : decode cX5_best 58 = .ok (.istore 4, 2) := by decide +kernel
theorem dX5_best_60 : decode cX5_best 60 = .ok (.iload_n 2, 1) := by decide +kernel
theorem dX5_best_61 : decode cX5_best 61 = .ok (.ifCond .ne 6, 3) := by decide +kernel
theorem dX5_best_64 : decode cX5_best 64 = .ok (.iload 4, 2) := by decide +kernel
theorem dX5_best_66 : decode cX5_best 66 = .ok (.ireturn, 1) := by decide +kernel
theorem dX5_best_67 : decode cX5_best 67 = .ok (.iconst 0, 1) := by decide +kernel
theorem dX5_best_68 : decode cX5_best 68 = .ok (.istore 5, 2) := by decide +kernel
theorem dX5_best_70 : decode cX5_best 70 = .ok (.iload 5, 2) := by decide +kernel
theorem dX5_best_72 : decode cX5_best 72 = .ok (.iload_n 3, 1) := by decide +kernel
theorem dX5_best_73 : decode cX5_best 73 = .ok (.if_icmp .ge 21, 3) := by decide +kernel
theorem dX5_best_76 : decode cX5_best 76 = .ok (.aload_n 0, 1) := by decide +kernel
theorem dX5_best_77 : decode cX5_best 77 = .ok (.getfield 65, 3) := by decide +kernel
theorem dX5_best_80 : decode cX5_best 80 = .ok (.iload 5, 2) := by decide +kernel
theorem dX5_best_82 : decode cX5_best 82 = .ok (.iaload, 1) := by decide +kernel
theorem dX5_best_83 : decode cX5_best 83 = .ok (.iload 4, 2) := by decide +kernel
theorem dX5_best_85 : decode cX5_best 85 = .ok (.if_icmp .ge 9, 3) := by decide +kernel
theorem dX5_best_88 : decode cX5_best 88 = .ok (.iinc 5 1, 3) := by decide +kernel
theorem dX5_best_91 : decode cX5_best 91 = .ok (.goto (-21), 3) := by decide +kernel
theorem dX5_best_94 : decode cX5_best 94 = .ok (.iload 5, 2) := by decide +kernel
theorem dX5_best_96 : decode cX5_best 96 = .ok (.ireturn, 1) := by decide +kernel
theorem dX5_meet_0 : decode cX5_meet 0 = .ok (.aload_n 0, 1) := by decide +kernel
theorem dX5_meet_1 : decode cX5_meet 1 = .ok (.getfield 37, 3) := by decide +kernel
theorem dX5_meet_4 : decode cX5_meet 4 = .ok (.iload_n 1, 1) := by decide +kernel
theorem dX5_meet_5 : decode cX5_meet 5 = .ok (.invokevirtual 135, 3) := by decide +kernel
theorem dX5_meet_8 : decode cX5_meet 8 = .ok (.astore_n 3, 1) := by decide +kernel
theorem dX5_meet_9 : decode cX5_meet 9 = .ok (.aload_n 0, 1) := by decide +kernel
theorem dX5_meet_10 : decode cX5_meet 10 = .ok (.getfield 37, 3) := by decide +kernel
theorem dX5_meet_13 : decode cX5_meet 13 = .ok (.iload_n 2, 1) := by decide +kernel
theorem dX5_meet_14 : decode cX5_meet 14 = .ok (.invokevirtual 135, 3) := by decide +kernel
theorem dX5_meet_17 : decode cX5_meet 17 = .ok (.astore 4, 2) := by decide +kernel
theorem dX5_meet_19 : decode cX5_meet 19 = .ok (.aload_n 3, 1) := by decide +kernel
theorem dX5_meet_20 : decode cX5_meet 20 = .ok (.ifnull 13, 3) := by decide +kernel
theorem dX5_meet_23 : decode cX5_meet 23 = .ok (.aload 4, 2) := by decide +kernel
theorem dX5_meet_25 : decode cX5_meet 25 = .ok (.ifnull 8, 3) := by decide +kernel
theorem dX5_meet_28 : decode cX5_meet 28 = .ok (.iload_n 1, 1) := by decide +kernel
theorem dX5_meet_29 : decode cX5_meet 29 = .ok (.iload_n 2, 1) := by decide +kernel
theorem dX5_meet_30 : decode cX5_meet 30 = .ok (.if_icmp .ne 5, 3) := by decide +kernel
theorem dX5_meet_33 : decode cX5_meet 33 = .ok (.iconst (-1), 1) := by decide +kernel
theorem dX5_meet_34 : decode cX5_meet 34 = .ok (.ireturn, 1) := by decide +kernel
theorem dX5_meet_35 : decode cX5_meet 35 = .ok (.iconst 0, 1) := by decide +kernel
theorem dX5_meet_36 : decode cX5_meet 36 = .ok (.istore 5, 2) := by decide +kernel
theorem dX5_meet_38 : decode cX5_meet 38 = .ok (.iconst 0, 1) := by decide +kernel
theorem dX5_meet_39 : decode cX5_meet 39 = .ok (.istore 6, 2) := by decide +kernel
theorem dX5_meet_41 : decode cX5_meet 41 = .ok (.iload 6, 2) := by decide +kernel
theorem dX5_meet_43 : decode cX5_meet 43 = .ok (.aload_n 3, 1) := by decide +kernel
theorem dX5_meet_44 : decode cX5_meet 44 = .ok (.getfield 228, 3) := by decide +kernel
theorem dX5_meet_47 : decode cX5_meet 47 = .ok (.if_icmp .ge 30, 3) := by decide +kernel
theorem dX5_meet_50 : decode cX5_meet 50 = .ok (.aload 4, 2) := by decide +kernel
theorem dX5_meet_52 : decode cX5_meet 52 = .ok (.aload_n 3, 1) := by decide +kernel
theorem dX5_meet_53 : decode cX5_meet 53 = .ok (.iload 6, 2) := by decide +kernel
theorem dX5_meet_55 : decode cX5_meet 55 = .ok (.invokevirtual 231, 3) := by decide +kernel
theorem dX5_meet_58 : decode cX5_meet 58 = .ok (.aload_n 3, 1) := by decide +kernel
theorem dX5_meet_59 : decode cX5_meet 59 = .ok (.getfield 145, 3) := by decide +kernel
theorem dX5_meet_62 : decode cX5_meet 62 = .ok (.invokevirtual 202, 3) := by decide +kernel
theorem dX5_meet_65 : decode cX5_meet 65 = .ok (.ifCond .eq 6, 3) := by decide +kernel
theorem dX5_meet_68 : decode cX5_meet 68 = .ok (.iinc 5 1, 3) := by decide +kernel
theorem dX5_meet_71 : decode cX5_meet 71 = .ok (.iinc 6 1, 3) := by decide +kernel
theorem dX5_meet_74 : decode cX5_meet 74 = .ok (.goto (-33), 3) := by decide +kernel
theorem dX5_meet_77 : decode cX5_meet 77 = .ok (.iload 5, 2) := by decide +kernel
theorem dX5_meet_79 : decode cX5_meet 79 = .ok (.ireturn, 1) := by decide +kernel
theorem dX5_odds_0 : decode cX5_odds 0 = .ok (.aload_n 0, 1) := by decide +kernel
theorem dX5_odds_1 : decode cX5_odds 1 = .ok (.getfield 26, 3) := by decide +kernel
theorem dX5_odds_4 : decode cX5_odds 4 = .ok (.iload_n 1, 1) := by decide +kernel
theorem dX5_odds_5 : decode cX5_odds 5 = .ok (.invokevirtual 99, 3) := by decide +kernel
theorem dX5_odds_8 : decode cX5_odds 8 = .ok (.ifCond .eq 14, 3) := by decide +kernel
theorem dX5_odds_11 : decode cX5_odds 11 = .ok (.aload_n 0, 1) := by decide +kernel
theorem dX5_odds_12 : decode cX5_odds 12 = .ok (.getfield 26, 3) := by decide +kernel
theorem dX5_odds_15 : decode cX5_odds 15 = .ok (.iload_n 2, 1) := by decide +kernel
theorem dX5_odds_16 : decode cX5_odds 16 = .ok (.invokevirtual 106, 3) := by decide +kernel
theorem dX5_odds_19 : decode cX5_odds 19 = .ok (.ifCond .ne 5, 3) := by decide +kernel
theorem dX5_odds_22 : decode cX5_odds 22 = .ok (.iconst (-1), 1) := by decide +kernel
theorem dX5_odds_23 : decode cX5_odds 23 = .ok (.ireturn, 1) := by decide +kernel
theorem dX5_odds_24 : decode cX5_odds 24 = .ok (.iload_n 3, 1) := by decide +kernel
theorem dX5_odds_25 : decode cX5_odds 25 = .ok (.iconst 0, 1) := by decide +kernel
theorem dX5_odds_26 : decode cX5_odds 26 = .ok (.sipush 359, 3) := by decide +kernel
theorem dX5_odds_29 : decode cX5_odds 29 = .ok (.invokestatic 72, 3) := by decide +kernel
theorem dX5_odds_32 : decode cX5_odds 32 = .ok (.ifCond .eq 13, 3) := by decide +kernel
theorem dX5_odds_35 : decode cX5_odds 35 = .ok (.iload 4, 2) := by decide +kernel
theorem dX5_odds_37 : decode cX5_odds 37 = .ok (.iconst 0, 1) := by decide +kernel
theorem dX5_odds_38 : decode cX5_odds 38 = .ok (.iconst 1, 1) := by decide +kernel
theorem dX5_odds_39 : decode cX5_odds 39 = .ok (.invokestatic 72, 3) := by decide +kernel
theorem dX5_odds_42 : decode cX5_odds 42 = .ok (.ifCond .ne 5, 3) := by decide +kernel
theorem dX5_odds_45 : decode cX5_odds 45 = .ok (.iconst (-1), 1) := by decide +kernel
theorem dX5_odds_46 : decode cX5_odds 46 = .ok (.ireturn, 1) := by decide +kernel
theorem dX5_odds_47 : decode cX5_odds 47 = .ok (.aload_n 0, 1) := by decide +kernel
theorem dX5_odds_48 : decode cX5_odds 48 = .ok (.getfield 26, 3) := by decide +kernel
theorem dX5_odds_51 : decode cX5_odds 51 = .ok (.iload_n 1, 1) := by decide +kernel
theorem dX5_odds_52 : decode cX5_odds 52 = .ok (.iload_n 2, 1) := by decide +kernel
theorem dX5_odds_53 : decode cX5_odds 53 = .ok (.invokevirtual 112, 3) := by decide +kernel
theorem dX5_odds_56 : decode cX5_odds 56 = .ok (.ifCond .ne 6, 3) := by decide +kernel
theorem dX5_odds_59 : decode cX5_odds 59 = .ok (.bipush (-2), 2) := by decide +kernel
theorem dX5_odds_61 : decode cX5_odds 61 = .ok (.ireturn, 1) := by decide +kernel
theorem dX5_odds_62 : decode cX5_odds 62 = .ok (.iload_n 3, 1) := by decide +kernel
theorem dX5_odds_63 : decode cX5_odds 63 = .ok (.aload_n 0, 1) := by decide +kernel
theorem dX5_odds_64 : decode cX5_odds 64 = .ok (.getfield 37, 3) := by decide +kernel
theorem dX5_odds_67 : decode cX5_odds 67 = .ok (.getfield 164, 3) := by decide +kernel
theorem dX5_odds_70 : decode cX5_odds 70 = .ok (.isub, 1) := by decide +kernel
theorem dX5_odds_71 : decode cX5_odds 71 = .ok (.aload_n 0, 1) := by decide +kernel
theorem dX5_odds_72 : decode cX5_odds 72 = .ok (.getfield 26, 3) := by decide +kernel
theorem dX5_odds_75 : decode cX5_odds 75 = .ok (.iload_n 1, 1) := by decide +kernel
theorem dX5_odds_76 : decode cX5_odds 76 = .ok (.invokevirtual 234, 3) := by decide +kernel
theorem dX5_odds_79 : decode cX5_odds 79 = .ok (.invokestatic 237, 3) := by decide +kernel
theorem dX5_odds_82 : decode cX5_odds 82 = .ok (.ifCond .ne 7, 3) := by decide +kernel
theorem dX5_odds_85 : decode cX5_odds 85 = .ok (.iconst 1, 1) := by decide +kernel
theorem dX5_odds_86 : decode cX5_odds 86 = .ok (.goto 4, 3) := by decide +kernel
theorem dX5_odds_89 : decode cX5_odds 89 = .ok (.iconst 0, 1) := by decide +kernel
theorem dX5_odds_90 : decode cX5_odds 90 = .ok (.istore 5, 2) := by decide +kernel
theorem dX5_odds_92 : decode cX5_odds 92 = .ok (.iload 4, 2) := by decide +kernel
theorem dX5_odds_94 : decode cX5_odds 94 = .ok (.ifCond .ne 14, 3) := by decide +kernel
theorem dX5_odds_97 : decode cX5_odds 97 = .ok (.iload 5, 2) := by decide +kernel
theorem dX5_odds_99 : decode cX5_odds 99 = .ok (.ifCond .eq 7, 3) := by decide +kernel
theorem dX5_odds_102 : decode cX5_odds 102 = .ok (.iconst 1, 1) := by decide +kernel
theorem dX5_odds_103 : decode cX5_odds 103 = .ok (.goto 4, 3) := by decide +kernel
theorem dX5_odds_106 : decode cX5_odds 106 = .ok (.iconst 0, 1) := by decide +kernel
theorem dX5_odds_107 : decode cX5_odds 107 = .ok (.ireturn, 1) := by decide +kernel
theorem dX5_odds_108 : decode cX5_odds 108 = .ok (.iload 5, 2) := by decide +kernel
theorem dX5_odds_110 : decode cX5_odds 110 = .ok (.ifCond .eq 15, 3) := by decide +kernel
theorem dX5_odds_113 : decode cX5_odds 113 = .ok (.aload_n 0, 1) := by decide +kernel
theorem dX5_odds_114 : decode cX5_odds 114 = .ok (.getfield 26, 3) := by decide +kernel
theorem dX5_odds_117 : decode cX5_odds 117 = .ok (.iload_n 1, 1) := by decide +kernel
theorem dX5_odds_118 : decode cX5_odds 118 = .ok (.iload_n 2, 1) := by decide +kernel
theorem dX5_odds_119 : decode cX5_odds 119 = .ok (.invokevirtual 211, 3) := by decide +kernel
theorem dX5_odds_122 : decode cX5_odds 122 = .ok (.goto 4, 3) := by decide +kernel
theorem dX5_odds_125 : decode cX5_odds 125 = .ok (.iconst 1, 1) := by decide +kernel
theorem dX5_odds_126 : decode cX5_odds 126 = .ok (.ireturn, 1) := by decide +kernel
theorem dX5_sees_0 : decode cX5_sees 0 = .ok (.iload_n 1, 1) := by decide +kernel
theorem dX5_sees_1 : decode cX5_sees 1 = .ok (.iconst 0, 1) := by decide +kernel
theorem dX5_sees_2 : decode cX5_sees 2 = .ok (.bipush 119, 2) := by decide +kernel
theorem dX5_sees_4 : decode cX5_sees 4 = .ok (.invokestatic 72, 3) := by decide +kernel
theorem dX5_sees_7 : decode cX5_sees 7 = .ok (.ifCond .eq 12, 3) := by decide +kernel
theorem dX5_sees_10 : decode cX5_sees 10 = .ok (.iload_n 2, 1) := by decide +kernel
theorem dX5_sees_11 : decode cX5_sees 11 = .ok (.iconst 0, 1) := by decide +kernel
theorem dX5_sees_12 : decode cX5_sees 12 = .ok (.iconst 1, 1) := by decide +kernel
theorem dX5_sees_13 : decode cX5_sees 13 = .ok (.invokestatic 72, 3) := by decide +kernel
theorem dX5_sees_16 : decode cX5_sees 16 = .ok (.ifCond .ne 5, 3) := by decide +kernel
theorem dX5_sees_19 : decode cX5_sees 19 = .ok (.iconst (-1), 1) := by decide +kernel
theorem dX5_sees_20 : decode cX5_sees 20 = .ok (.ireturn, 1) := by decide +kernel
theorem dX5_sees_21 : decode cX5_sees 21 = .ok (.aload_n 0, 1) := by decide +kernel
theorem dX5_sees_22 : decode cX5_sees 22 = .ok (.getfield 19, 3) := by decide +kernel
theorem dX5_sees_25 : decode cX5_sees 25 = .ok (.iload_n 1, 1) := by decide +kernel
theorem dX5_sees_26 : decode cX5_sees 26 = .ok (.iload_n 2, 1) := by decide +kernel
theorem dX5_sees_27 : decode cX5_sees 27 = .ok (.iconst 1, 1) := by decide +kernel
theorem dX5_sees_28 : decode cX5_sees 28 = .ok (.if_icmp .ne 7, 3) := by decide +kernel
theorem dX5_sees_31 : decode cX5_sees 31 = .ok (.iconst 1, 1) := by decide +kernel
theorem dX5_sees_32 : decode cX5_sees 32 = .ok (.goto 4, 3) := by decide +kernel
theorem dX5_sees_35 : decode cX5_sees 35 = .ok (.iconst 0, 1) := by decide +kernel
theorem dX5_sees_36 : decode cX5_sees 36 = .ok (.invokevirtual 240, 3) := by decide +kernel
theorem dX5_sees_39 : decode cX5_sees 39 = .ok (.ifCond .eq 13, 3) := by decide +kernel
theorem dX5_sees_42 : decode cX5_sees 42 = .ok (.aload_n 0, 1) := by decide +kernel
theorem dX5_sees_43 : decode cX5_sees 43 = .ok (.getfield 19, 3) := by decide +kernel
theorem dX5_sees_46 : decode cX5_sees 46 = .ok (.getfield 243, 3) := by decide +kernel
theorem dX5_sees_49 : decode cX5_sees 49 = .ok (.goto 5, 3) := by decide +kernel
theorem dX5_sees_52 : decode cX5_sees 52 = .ok (.bipush (-3), 2) := by decide +kernel
theorem dX5_sees_54 : decode cX5_sees 54 = .ok (.ireturn, 1) := by decide +kernel
theorem dX5_forget_0 : decode cX5_forget 0 = .ok (.aload_n 0, 1) := by decide +kernel
theorem dX5_forget_1 : decode cX5_forget 1 = .ok (.getfield 19, 3) := by decide +kernel
theorem dX5_forget_4 : decode cX5_forget 4 = .ok (.invokevirtual 246, 3) := by decide +kernel
theorem dX5_forget_7 : decode cX5_forget 7 = .ok (.ireturn, 1) := by decide +kernel
theorem dX5_guess_0 : decode cX5_guess 0 = .ok (.aload_n 0, 1) := by decide +kernel
theorem dX5_guess_1 : decode cX5_guess 1 = .ok (.getfield 26, 3) := by decide +kernel
theorem dX5_guess_4 : decode cX5_guess 4 = .ok (.iload_n 1, 1) := by decide +kernel
theorem dX5_guess_5 : decode cX5_guess 5 = .ok (.invokevirtual 99, 3) := by decide +kernel
theorem dX5_guess_8 : decode cX5_guess 8 = .ok (.ifCond .eq 12, 3) := by decide +kernel
theorem dX5_guess_11 : decode cX5_guess 11 = .ok (.iload_n 2, 1) := by decide +kernel
theorem dX5_guess_12 : decode cX5_guess 12 = .ok (.iconst 0, 1) := by decide +kernel
theorem dX5_guess_13 : decode cX5_guess 13 = .ok (.iconst 1, 1) := by decide +kernel
theorem dX5_guess_14 : decode cX5_guess 14 = .ok (.invokestatic 72, 3) := by decide +kernel
theorem dX5_guess_17 : decode cX5_guess 17 = .ok (.ifCond .ne 5, 3) := by decide +kernel
theorem dX5_guess_20 : decode cX5_guess 20 = .ok (.iconst (-1), 1) := by decide +kernel
theorem dX5_guess_21 : decode cX5_guess 21 = .ok (.ireturn, 1) := by decide +kernel
theorem dX5_guess_22 : decode cX5_guess 22 = .ok (.iload_n 2, 1) := by decide +kernel
theorem dX5_guess_23 : decode cX5_guess 23 = .ok (.ifCond .ne 11, 3) := by decide +kernel
theorem dX5_guess_26 : decode cX5_guess 26 = .ok (.aload_n 0, 1) := by decide +kernel
theorem dX5_guess_27 : decode cX5_guess 27 = .ok (.iload_n 1, 1) := by decide +kernel
theorem dX5_guess_28 : decode cX5_guess 28 = .ok (.invokevirtual 247, 3) := by decide +kernel
theorem dX5_guess_31 : decode cX5_guess 31 = .ok (.goto 8, 3) := by decide +kernel
theorem dX5_guess_34 : decode cX5_guess 34 = .ok (.aload_n 0, 1) := by decide +kernel
theorem dX5_guess_35 : decode cX5_guess 35 = .ok (.iload_n 1, 1) := by decide +kernel
theorem dX5_guess_36 : decode cX5_guess 36 = .ok (.invokevirtual 250, 3) := by decide +kernel
theorem dX5_guess_39 : decode cX5_guess 39 = .ok (.ireturn, 1) := by decide +kernel
theorem dX5_look_0 : decode cX5_look 0 = .ok (.aload_n 0, 1) := by decide +kernel
theorem dX5_look_1 : decode cX5_look 1 = .ok (.getfield 26, 3) := by decide +kernel
theorem dX5_look_4 : decode cX5_look 4 = .ok (.iload_n 1, 1) := by decide +kernel
theorem dX5_look_5 : decode cX5_look 5 = .ok (.invokevirtual 99, 3) := by decide +kernel
theorem dX5_look_8 : decode cX5_look 8 = .ok (.ifCond .ne 5, 3) := by decide +kernel
theorem dX5_look_11 : decode cX5_look 11 = .ok (.iconst (-1), 1) := by decide +kernel
theorem dX5_look_12 : decode cX5_look 12 = .ok (.ireturn, 1) := by decide +kernel
theorem dX5_look_13 : decode cX5_look 13 = .ok (.aload_n 0, 1) := by decide +kernel
theorem dX5_look_14 : decode cX5_look 14 = .ok (.iload_n 1, 1) := by decide +kernel
theorem dX5_look_15 : decode cX5_look 15 = .ok (.invokevirtual 247, 3) := by decide +kernel
theorem dX5_look_18 : decode cX5_look 18 = .ok (.istore_n 2, 1) := by decide +kernel
theorem dX5_look_19 : decode cX5_look 19 = .ok (.aload_n 0, 1) := by decide +kernel
theorem dX5_look_20 : decode cX5_look 20 = .ok (.iload_n 1, 1) := by decide +kernel
theorem dX5_look_21 : decode cX5_look 21 = .ok (.invokevirtual 253, 3) := by decide +kernel
theorem dX5_look_24 : decode cX5_look 24 = .ok (.iload_n 2, 1) := by decide +kernel
theorem dX5_look_25 : decode cX5_look 25 = .ok (.istore_n 3, 1) := by decide +kernel
theorem dX5_look_26 : decode cX5_look 26 = .ok (.bipush (-9), 2) := by decide +kernel
theorem dX5_look_28 : decode cX5_look 28 = .ok (.istore 4, 2) := by decide +kernel
theorem dX5_look_30 : decode cX5_look 30 = .ok (.iconst 0, 1) := by decide +kernel
theorem dX5_look_31 : decode cX5_look 31 = .ok (.istore 5, 2) := by decide +kernel
theorem dX5_look_33 : decode cX5_look 33 = .ok (.iload 5, 2) := by decide +kernel
theorem dX5_look_35 : decode cX5_look 35 = .ok (.aload_n 0, 1) := by decide +kernel
theorem dX5_look_36 : decode cX5_look 36 = .ok (.getfield 26, 3) := by decide +kernel
theorem dX5_look_39 : decode cX5_look 39 = .ok (.iload_n 1, 1) := by decide +kernel
theorem dX5_look_40 : decode cX5_look 40 = .ok (.invokevirtual 102, 3) := by decide +kernel
theorem dX5_look_43 : decode cX5_look 43 = .ok (.if_icmp .ge 53, 3) := by decide +kernel
theorem dX5_look_46 : decode cX5_look 46 = .ok (.iload 5, 2) := by decide +kernel
theorem dX5_look_48 : decode cX5_look 48 = .ok (.aload_n 0, 1) := by decide +kernel
theorem dX5_look_49 : decode cX5_look 49 = .ok (.getfield 62, 3) := by decide +kernel
theorem dX5_look_52 : decode cX5_look 52 = .ok (.arraylength, 1) := by decide +kernel
theorem dX5_look_53 : decode cX5_look 53 = .ok (.if_icmp .ge 43, 3) := by decide +kernel
theorem dX5_look_56 : decode cX5_look 56 = .ok (.aload_n 0, 1) := by decide +kernel
theorem dX5_look_57 : decode cX5_look 57 = .ok (.getfield 62, 3) := by decide +kernel
theorem dX5_look_60 : decode cX5_look 60 = .ok (.iload 5, 2) := by decide +kernel
theorem dX5_look_62 : decode cX5_look 62 = .ok (.iaload, 1) := by decide +kernel
theorem dX5_look_63 : decode cX5_look 63 = .ok (.iload_n 2, 1) := by decide +kernel
theorem dX5_look_64 : decode cX5_look 64 = .ok (.aload_n 0, 1) := by decide +kernel
theorem dX5_look_65 : decode cX5_look 65 = .ok (.getfield 62, 3) := by decide +kernel
theorem dX5_look_68 : decode cX5_look 68 = .ok (.iload 5, 2) := by decide +kernel
theorem dX5_look_70 : decode cX5_look 70 = .ok (.iaload, 1) := by decide +kernel
theorem dX5_look_71 : decode cX5_look 71 = .ok (.isub, 1) := by decide +kernel
theorem dX5_look_72 : decode cX5_look 72 = .ok (.invokestatic 220, 3) := by decide +kernel
theorem dX5_look_75 : decode cX5_look 75 = .ok (.istore 6, 2) := by decide +kernel
theorem dX5_look_77 : decode cX5_look 77 = .ok (.iload 6, 2) := by decide +kernel
theorem dX5_look_79 : decode cX5_look 79 = .ok (.iload_n 3, 1) := by decide +kernel
theorem dX5_look_80 : decode cX5_look 80 = .ok (.if_icmp .ge 10, 3) := by decide +kernel
theorem dX5_look_83 : decode cX5_look 83 = .ok (.iload 6, 2) := by decide +kernel
theorem dX5_look_85 : decode cX5_look 85 = .ok (.istore_n 3, 1) := by decide +kernel
theorem dX5_look_86 : decode cX5_look 86 = .ok (.iload 5, 2) := by decide +kernel
theorem dX5_look_88 : decode cX5_look 88 = .ok (.istore 4, 2) := by decide +kernel
theorem dX5_look_90 : decode cX5_look 90 = .ok (.iinc 5 1, 3) := by decide +kernel
theorem dX5_look_93 : decode cX5_look 93 = .ok (.goto (-60), 3) := by decide +kernel
theorem dX5_look_96 : decode cX5_look 96 = .ok (.iload 4, 2) := by decide +kernel
theorem dX5_look_98 : decode cX5_look 98 = .ok (.ireturn, 1) := by decide +kernel
theorem dX5_mark_0 : decode cX5_mark 0 = .ok (.aload_n 0, 1) := by decide +kernel
theorem dX5_mark_1 : decode cX5_mark 1 = .ok (.getfield 37, 3) := by decide +kernel
theorem dX5_mark_4 : decode cX5_mark 4 = .ok (.iload_n 2, 1) := by decide +kernel
theorem dX5_mark_5 : decode cX5_mark 5 = .ok (.invokevirtual 135, 3) := by decide +kernel
theorem dX5_mark_8 : decode cX5_mark 8 = .ok (.astore_n 3, 1) := by decide +kernel
theorem dX5_mark_9 : decode cX5_mark 9 = .ok (.aload_n 3, 1) := by decide +kernel
theorem dX5_mark_10 : decode cX5_mark 10 = .ok (.ifnonnull 7, 3) := by decide +kernel
theorem dX5_mark_13 : decode cX5_mark 13 = .ok (.ldc_w 257, 3) := by decide +kernel
theorem dX5_mark_16 : decode cX5_mark 16 = .ok (.ireturn, 1) := by decide +kernel
theorem dX5_mark_17 : decode cX5_mark 17 = .ok (.iload_n 1, 1) := by decide +kernel
theorem dX5_mark_18 : decode cX5_mark 18 = .ok (.tableswitch 75 0 5 #[38, 44, 50, 56, 62, 69], 38) := by decide +kernel
theorem dX5_mark_56 : decode cX5_mark 56 = .ok (.aload_n 0, 1) := by decide +kernel
theorem dX5_mark_57 : decode cX5_mark 57 = .ok (.aload_n 3, 1) := by decide +kernel
theorem dX5_mark_58 : decode cX5_mark 58 = .ok (.invokevirtual 258, 3) := by decide +kernel
theorem dX5_mark_61 : decode cX5_mark 61 = .ok (.ireturn, 1) := by decide +kernel
theorem dX5_mark_62 : decode cX5_mark 62 = .ok (.aload_n 0, 1) := by decide +kernel
theorem dX5_mark_63 : decode cX5_mark 63 = .ok (.aload_n 3, 1) := by decide +kernel
theorem dX5_mark_64 : decode cX5_mark 64 = .ok (.invokevirtual 262, 3) := by decide +kernel
theorem dX5_mark_67 : decode cX5_mark 67 = .ok (.ireturn, 1) := by decide +kernel
theorem dX5_mark_68 : decode cX5_mark 68 = .ok (.aload_n 0, 1) := by decide +kernel
theorem dX5_mark_69 : decode cX5_mark 69 = .ok (.aload_n 3, 1) := by decide +kernel
theorem dX5_mark_70 : decode cX5_mark 70 = .ok (.invokevirtual 265, 3) := by decide +kernel
theorem dX5_mark_73 : decode cX5_mark 73 = .ok (.ireturn, 1) := by decide +kernel
theorem dX5_mark_74 : decode cX5_mark 74 = .ok (.aload_n 0, 1) := by decide +kernel
theorem dX5_mark_75 : decode cX5_mark 75 = .ok (.aload_n 3, 1) := by decide +kernel
theorem dX5_mark_76 : decode cX5_mark 76 = .ok (.invokevirtual 268, 3) := by decide +kernel
theorem dX5_mark_79 : decode cX5_mark 79 = .ok (.ireturn, 1) := by decide +kernel
theorem dX5_mark_80 : decode cX5_mark 80 = .ok (.aload_n 0, 1) := by decide +kernel
theorem dX5_mark_81 : decode cX5_mark 81 = .ok (.aload_n 3, 1) := by decide +kernel
theorem dX5_mark_82 : decode cX5_mark 82 = .ok (.iload_n 2, 1) := by decide +kernel
theorem dX5_mark_83 : decode cX5_mark 83 = .ok (.invokevirtual 271, 3) := by decide +kernel
theorem dX5_mark_86 : decode cX5_mark 86 = .ok (.ireturn, 1) := by decide +kernel
theorem dX5_mark_87 : decode cX5_mark 87 = .ok (.aload_n 0, 1) := by decide +kernel
theorem dX5_mark_88 : decode cX5_mark 88 = .ok (.aload_n 3, 1) := by decide +kernel
theorem dX5_mark_89 : decode cX5_mark 89 = .ok (.invokevirtual 275, 3) := by decide +kernel
theorem dX5_mark_92 : decode cX5_mark 92 = .ok (.ireturn, 1) := by decide +kernel
theorem dX5_mark_93 : decode cX5_mark 93 = .ok (.ldc_w 257, 3) := by decide +kernel
theorem dX5_mark_96 : decode cX5_mark 96 = .ok (.ireturn, 1) := by decide +kernel
theorem dX5_keep_0 : decode cX5_keep 0 = .ok (.iload_n 1, 1) := by decide +kernel
theorem dX5_keep_1 : decode cX5_keep 1 = .ok (.iconst 0, 1) := by decide +kernel
theorem dX5_keep_2 : decode cX5_keep 2 = .ok (.iconst 1, 1) := by decide +kernel
theorem dX5_keep_3 : decode cX5_keep 3 = .ok (.invokestatic 72, 3) := by decide +kernel
theorem dX5_keep_6 : decode cX5_keep 6 = .ok (.ifCond .ne 5, 3) := by decide +kernel
theorem dX5_keep_9 : decode cX5_keep 9 = .ok (.iconst (-1), 1) := by decide +kernel
theorem dX5_keep_10 : decode cX5_keep 10 = .ok (.ireturn, 1) := by decide +kernel
theorem dX5_keep_11 : decode cX5_keep 11 = .ok (.aload_n 0, 1) := by decide +kernel
theorem dX5_keep_12 : decode cX5_keep 12 = .ok (.getfield 50, 3) := by decide +kernel
theorem dX5_keep_15 : decode cX5_keep 15 = .ok (.iload_n 1, 1) := by decide +kernel
theorem dX5_keep_16 : decode cX5_keep 16 = .ok (.new 48, 3) := by decide +kernel
theorem dX5_keep_19 : decode cX5_keep 19 = .ok (.dup, 1) := by decide +kernel
theorem dX5_keep_20 : decode cX5_keep 20 = .ok (.aload_n 0, 1) := by decide +kernel
theorem dX5_keep_21 : decode cX5_keep 21 = .ok (.getfield 37, 3) := by decide +kernel
theorem dX5_keep_24 : decode cX5_keep 24 = .ok (.aload_n 0, 1) := by decide +kernel
theorem dX5_keep_25 : decode cX5_keep 25 = .ok (.getfield 44, 3) := by decide +kernel
theorem dX5_keep_28 : decode cX5_keep 28 = .ok (.invokespecial 278, 3) := by decide +kernel
theorem dX5_keep_31 : decode cX5_keep 31 = .ok (.aastore, 1) := by decide +kernel
theorem dX5_keep_32 : decode cX5_keep 32 = .ok (.aload_n 0, 1) := by decide +kernel
theorem dX5_keep_33 : decode cX5_keep 33 = .ok (.getfield 37, 3) := by decide +kernel
theorem dX5_keep_36 : decode cX5_keep 36 = .ok (.getfield 160, 3) := by decide +kernel
theorem dX5_keep_39 : decode cX5_keep 39 = .ok (.arraylength, 1) := by decide +kernel
theorem dX5_keep_40 : decode cX5_keep 40 = .ok (.ireturn, 1) := by decide +kernel
theorem dX5_back_0 : decode cX5_back 0 = .ok (.iload_n 1, 1) := by decide +kernel
theorem dX5_back_1 : decode cX5_back 1 = .ok (.iconst 0, 1) := by decide +kernel
theorem dX5_back_2 : decode cX5_back 2 = .ok (.iconst 1, 1) := by decide +kernel
theorem dX5_back_3 : decode cX5_back 3 = .ok (.invokestatic 72, 3) := by decide +kernel
theorem dX5_back_6 : decode cX5_back 6 = .ok (.ifCond .ne 5, 3) := by decide +kernel
theorem dX5_back_9 : decode cX5_back 9 = .ok (.iconst (-1), 1) := by decide +kernel
theorem dX5_back_10 : decode cX5_back 10 = .ok (.ireturn, 1) := by decide +kernel
