theorem dX6_number_64 : decode cX6_number 64 = .ok (.iadd, 1) := by decide +kernel
theorem dX6_number_65 : decode cX6_number 65 = .ok (.bipush 48, 2) := by decide +kernel
theorem dX6_number_67 : decode cX6_number 67 = .ok (.isub, 1) := by decide +kernel
theorem dX6_number_68 : decode cX6_number 68 = .ok (.goto 5, 3) := by decide +kernel
theorem dX6_number_71 : decode cX6_number 71 = .ok (.iload 4, 2) := by decide +kernel
theorem dX6_number_73 : decode cX6_number 73 = .ok (.istore 4, 2) := by decide +kernel
theorem dX6_number_75 : decode cX6_number 75 = .ok (.iinc 3 1, 3) := by decide +kernel
theorem dX6_number_78 : decode cX6_number 78 = .ok (.goto (-69), 3) := by decide +kernel
theorem dX6_number_81 : decode cX6_number 81 = .ok (.iload_n 3, 1) := by decide +kernel
theorem dX6_number_82 : decode cX6_number 82 = .ok (.iconst 1, 1) := by decide +kernel
theorem dX6_number_83 : decode cX6_number 83 = .ok (.iconst 3, 1) := by decide +kernel
theorem dX6_number_84 : decode cX6_number 84 = .ok (.invokestatic 62, 3) := by decide +kernel
theorem dX6_number_87 : decode cX6_number 87 = .ok (.ifCond .eq 27, 3) := by decide +kernel
theorem dX6_number_90 : decode cX6_number 90 = .ok (.iload_n 3, 1) := by decide +kernel
theorem dX6_number_91 : decode cX6_number 91 = .ok (.iconst 1, 1) := by decide +kernel
theorem dX6_number_92 : decode cX6_number 92 = .ok (.if_icmp .le 12, 3) := by decide +kernel
theorem dX6_number_95 : decode cX6_number 95 = .ok (.aload_n 0, 1) := by decide +kernel
theorem dX6_number_96 : decode cX6_number 96 = .ok (.invokevirtual 81, 3) := by decide +kernel
theorem dX6_number_99 : decode cX6_number 99 = .ok (.bipush 48, 2) := by decide +kernel
theorem dX6_number_101 : decode cX6_number 101 = .ok (.if_icmp .eq 13, 3) := by decide +kernel
theorem dX6_number_104 : decode cX6_number 104 = .ok (.iload 4, 2) := by decide +kernel
theorem dX6_number_106 : decode cX6_number 106 = .ok (.iload_n 1, 1) := by decide +kernel
theorem dX6_number_107 : decode cX6_number 107 = .ok (.iload_n 2, 1) := by decide +kernel
theorem dX6_number_108 : decode cX6_number 108 = .ok (.invokestatic 62, 3) := by decide +kernel
theorem dX6_number_111 : decode cX6_number 111 = .ok (.ifCond .ne 5, 3) := by decide +kernel
theorem dX6_number_114 : decode cX6_number 114 = .ok (.iconst 0, 1) := by decide +kernel
theorem dX6_number_115 : decode cX6_number 115 = .ok (.ireturn, 1) := by decide +kernel
theorem dX6_number_116 : decode cX6_number 116 = .ok (.aload_n 0, 1) := by decide +kernel
theorem dX6_number_117 : decode cX6_number 117 = .ok (.iload 4, 2) := by decide +kernel
theorem dX6_number_119 : decode cX6_number 119 = .ok (.putfield 88, 3) := by decide +kernel
theorem dX6_number_122 : decode cX6_number 122 = .ok (.aload_n 0, 1) := by decide +kernel
theorem dX6_number_123 : decode cX6_number 123 = .ok (.dup, 1) := by decide +kernel
theorem dX6_number_124 : decode cX6_number 124 = .ok (.getfield 78, 3) := by decide +kernel
theorem dX6_number_127 : decode cX6_number 127 = .ok (.iload_n 3, 1) := by decide +kernel
theorem dX6_number_128 : decode cX6_number 128 = .ok (.iadd, 1) := by decide +kernel
theorem dX6_number_129 : decode cX6_number 129 = .ok (.putfield 78, 3) := by decide +kernel
theorem dX6_number_132 : decode cX6_number 132 = .ok (.iconst 1, 1) := by decide +kernel
theorem dX6_number_133 : decode cX6_number 133 = .ok (.ireturn, 1) := by decide +kernel
theorem dX6_ends_0 : decode cX6_ends 0 = .ok (.aload_n 0, 1) := by decide +kernel
theorem dX6_ends_1 : decode cX6_ends 1 = .ok (.invokevirtual 85, 3) := by decide +kernel
theorem dX6_ends_4 : decode cX6_ends 4 = .ok (.aload_n 0, 1) := by decide +kernel
theorem dX6_ends_5 : decode cX6_ends 5 = .ok (.invokevirtual 81, 3) := by decide +kernel
theorem dX6_ends_8 : decode cX6_ends 8 = .ok (.bipush 59, 2) := by decide +kernel
theorem dX6_ends_10 : decode cX6_ends 10 = .ok (.if_icmp .eq 5, 3) := by decide +kernel
theorem dX6_ends_13 : decode cX6_ends 13 = .ok (.iconst 0, 1) := by decide +kernel
theorem dX6_ends_14 : decode cX6_ends 14 = .ok (.ireturn, 1) := by decide +kernel
theorem dX6_ends_15 : decode cX6_ends 15 = .ok (.aload_n 0, 1) := by decide +kernel
theorem dX6_ends_16 : decode cX6_ends 16 = .ok (.dup, 1) := by decide +kernel
theorem dX6_ends_17 : decode cX6_ends 17 = .ok (.getfield 78, 3) := by decide +kernel
theorem dX6_ends_20 : decode cX6_ends 20 = .ok (.iconst 1, 1) := by decide +kernel
theorem dX6_ends_21 : decode cX6_ends 21 = .ok (.iadd, 1) := by decide +kernel
theorem dX6_ends_22 : decode cX6_ends 22 = .ok (.putfield 78, 3) := by decide +kernel
theorem dX6_ends_25 : decode cX6_ends 25 = .ok (.iconst 1, 1) := by decide +kernel
theorem dX6_ends_26 : decode cX6_ends 26 = .ok (.ireturn, 1) := by decide +kernel
theorem dX6_readsRing_0 : decode cX6_readsRing 0 = .ok (.aload_n 0, 1) := by decide +kernel
theorem dX6_readsRing_1 : decode cX6_readsRing 1 = .ok (.getfield 78, 3) := by decide +kernel
theorem dX6_readsRing_4 : decode cX6_readsRing 4 = .ok (.istore_n 1, 1) := by decide +kernel
theorem dX6_readsRing_5 : decode cX6_readsRing 5 = .ok (.aload_n 0, 1) := by decide +kernel
theorem dX6_readsRing_6 : decode cX6_readsRing 6 = .ok (.bipush 12, 2) := by decide +kernel
theorem dX6_readsRing_8 : decode cX6_readsRing 8 = .ok (.bipush 120, 2) := by decide +kernel
theorem dX6_readsRing_10 : decode cX6_readsRing 10 = .ok (.invokevirtual 91, 3) := by decide +kernel
theorem dX6_readsRing_13 : decode cX6_readsRing 13 = .ok (.ifCond .ne 5, 3) := by decide +kernel
theorem dX6_readsRing_16 : decode cX6_readsRing 16 = .ok (.iconst 0, 1) := by decide +kernel
theorem dX6_readsRing_17 : decode cX6_readsRing 17 = .ok (.ireturn, 1) := by decide +kernel
theorem dX6_readsRing_18 : decode cX6_readsRing 18 = .ok (.sipush 360, 3) := by decide +kernel
theorem dX6_readsRing_21 : decode cX6_readsRing 21 = .ok (.aload_n 0, 1) := by decide +kernel
theorem dX6_readsRing_22 : decode cX6_readsRing 22 = .ok (.getfield 88, 3) := by decide +kernel
theorem dX6_readsRing_25 : decode cX6_readsRing 25 = .ok (.irem, 1) := by decide +kernel
theorem dX6_readsRing_26 : decode cX6_readsRing 26 = .ok (.ifCond .eq 14, 3) := by decide +kernel
theorem dX6_readsRing_29 : decode cX6_readsRing 29 = .ok (.aload_n 0, 1) := by decide +kernel
theorem dX6_readsRing_30 : decode cX6_readsRing 30 = .ok (.iload_n 1, 1) := by decide +kernel
theorem dX6_readsRing_31 : decode cX6_readsRing 31 = .ok (.putfield 78, 3) := by decide +kernel
theorem dX6_readsRing_34 : decode cX6_readsRing 34 = .ok (.aload_n 0, 1) := by decide +kernel
theorem dX6_readsRing_35 : decode cX6_readsRing 35 = .ok (.invokevirtual 85, 3) := by decide +kernel
theorem dX6_readsRing_38 : decode cX6_readsRing 38 = .ok (.iconst 0, 1) := by decide +kernel
theorem dX6_readsRing_39 : decode cX6_readsRing 39 = .ok (.ireturn, 1) := by decide +kernel
theorem dX6_readsRing_40 : decode cX6_readsRing 40 = .ok (.aload_n 0, 1) := by decide +kernel
theorem dX6_readsRing_41 : decode cX6_readsRing 41 = .ok (.getfield 31, 3) := by decide +kernel
theorem dX6_readsRing_44 : decode cX6_readsRing 44 = .ok (.aload_n 0, 1) := by decide +kernel
theorem dX6_readsRing_45 : decode cX6_readsRing 45 = .ok (.getfield 95, 3) := by decide +kernel
theorem dX6_readsRing_48 : decode cX6_readsRing 48 = .ok (.aload_n 0, 1) := by decide +kernel
theorem dX6_readsRing_49 : decode cX6_readsRing 49 = .ok (.getfield 88, 3) := by decide +kernel
theorem dX6_readsRing_52 : decode cX6_readsRing 52 = .ok (.iastore, 1) := by decide +kernel
theorem dX6_readsRing_53 : decode cX6_readsRing 53 = .ok (.aload_n 0, 1) := by decide +kernel
theorem dX6_readsRing_54 : decode cX6_readsRing 54 = .ok (.dup, 1) := by decide +kernel
theorem dX6_readsRing_55 : decode cX6_readsRing 55 = .ok (.getfield 95, 3) := by decide +kernel
theorem dX6_readsRing_58 : decode cX6_readsRing 58 = .ok (.iconst 1, 1) := by decide +kernel
theorem dX6_readsRing_59 : decode cX6_readsRing 59 = .ok (.iadd, 1) := by decide +kernel
theorem dX6_readsRing_60 : decode cX6_readsRing 60 = .ok (.putfield 95, 3) := by decide +kernel
theorem dX6_readsRing_63 : decode cX6_readsRing 63 = .ok (.aload_n 0, 1) := by decide +kernel
theorem dX6_readsRing_64 : decode cX6_readsRing 64 = .ok (.invokevirtual 98, 3) := by decide +kernel
theorem dX6_readsRing_67 : decode cX6_readsRing 67 = .ok (.ireturn, 1) := by decide +kernel
theorem dX6_readsWheel_0 : decode cX6_readsWheel 0 = .ok (.aload_n 0, 1) := by decide +kernel
theorem dX6_readsWheel_1 : decode cX6_readsWheel 1 = .ok (.iconst 3, 1) := by decide +kernel
theorem dX6_readsWheel_2 : decode cX6_readsWheel 2 = .ok (.bipush 99, 2) := by decide +kernel
theorem dX6_readsWheel_4 : decode cX6_readsWheel 4 = .ok (.invokevirtual 91, 3) := by decide +kernel
theorem dX6_readsWheel_7 : decode cX6_readsWheel 7 = .ok (.ifCond .ne 5, 3) := by decide +kernel
theorem dX6_readsWheel_10 : decode cX6_readsWheel 10 = .ok (.iconst 0, 1) := by decide +kernel
theorem dX6_readsWheel_11 : decode cX6_readsWheel 11 = .ok (.ireturn, 1) := by decide +kernel
theorem dX6_readsWheel_12 : decode cX6_readsWheel 12 = .ok (.aload_n 0, 1) := by decide +kernel
theorem dX6_readsWheel_13 : decode cX6_readsWheel 13 = .ok (.getfield 34, 3) := by decide +kernel
theorem dX6_readsWheel_16 : decode cX6_readsWheel 16 = .ok (.aload_n 0, 1) := by decide +kernel
theorem dX6_readsWheel_17 : decode cX6_readsWheel 17 = .ok (.getfield 102, 3) := by decide +kernel
theorem dX6_readsWheel_20 : decode cX6_readsWheel 20 = .ok (.aload_n 0, 1) := by decide +kernel
theorem dX6_readsWheel_21 : decode cX6_readsWheel 21 = .ok (.getfield 88, 3) := by decide +kernel
theorem dX6_readsWheel_24 : decode cX6_readsWheel 24 = .ok (.iastore, 1) := by decide +kernel
theorem dX6_readsWheel_25 : decode cX6_readsWheel 25 = .ok (.aload_n 0, 1) := by decide +kernel
theorem dX6_readsWheel_26 : decode cX6_readsWheel 26 = .ok (.dup, 1) := by decide +kernel
theorem dX6_readsWheel_27 : decode cX6_readsWheel 27 = .ok (.getfield 102, 3) := by decide +kernel
theorem dX6_readsWheel_30 : decode cX6_readsWheel 30 = .ok (.iconst 1, 1) := by decide +kernel
theorem dX6_readsWheel_31 : decode cX6_readsWheel 31 = .ok (.iadd, 1) := by decide +kernel
theorem dX6_readsWheel_32 : decode cX6_readsWheel 32 = .ok (.putfield 102, 3) := by decide +kernel
theorem dX6_readsWheel_35 : decode cX6_readsWheel 35 = .ok (.aload_n 0, 1) := by decide +kernel
theorem dX6_readsWheel_36 : decode cX6_readsWheel 36 = .ok (.invokevirtual 98, 3) := by decide +kernel
theorem dX6_readsWheel_39 : decode cX6_readsWheel 39 = .ok (.ireturn, 1) := by decide +kernel
theorem dX6_readsPen_0 : decode cX6_readsPen 0 = .ok (.aload_n 0, 1) := by decide +kernel
theorem dX6_readsPen_1 : decode cX6_readsPen 1 = .ok (.iconst 0, 1) := by decide +kernel
theorem dX6_readsPen_2 : decode cX6_readsPen 2 = .ok (.sipush 999, 3) := by decide +kernel
theorem dX6_readsPen_5 : decode cX6_readsPen 5 = .ok (.invokevirtual 91, 3) := by decide +kernel
theorem dX6_readsPen_8 : decode cX6_readsPen 8 = .ok (.ifCond .ne 5, 3) := by decide +kernel
theorem dX6_readsPen_11 : decode cX6_readsPen 11 = .ok (.iconst 0, 1) := by decide +kernel
theorem dX6_readsPen_12 : decode cX6_readsPen 12 = .ok (.ireturn, 1) := by decide +kernel
theorem dX6_readsPen_13 : decode cX6_readsPen 13 = .ok (.aload_n 0, 1) := by decide +kernel
theorem dX6_readsPen_14 : decode cX6_readsPen 14 = .ok (.getfield 37, 3) := by decide +kernel
theorem dX6_readsPen_17 : decode cX6_readsPen 17 = .ok (.aload_n 0, 1) := by decide +kernel
theorem dX6_readsPen_18 : decode cX6_readsPen 18 = .ok (.getfield 105, 3) := by decide +kernel
theorem dX6_readsPen_21 : decode cX6_readsPen 21 = .ok (.aload_n 0, 1) := by decide +kernel
theorem dX6_readsPen_22 : decode cX6_readsPen 22 = .ok (.getfield 88, 3) := by decide +kernel
theorem dX6_readsPen_25 : decode cX6_readsPen 25 = .ok (.iastore, 1) := by decide +kernel
theorem dX6_readsPen_26 : decode cX6_readsPen 26 = .ok (.aload_n 0, 1) := by decide +kernel
theorem dX6_readsPen_27 : decode cX6_readsPen 27 = .ok (.dup, 1) := by decide +kernel
theorem dX6_readsPen_28 : decode cX6_readsPen 28 = .ok (.getfield 105, 3) := by decide +kernel
theorem dX6_readsPen_31 : decode cX6_readsPen 31 = .ok (.iconst 1, 1) := by decide +kernel
theorem dX6_readsPen_32 : decode cX6_readsPen 32 = .ok (.iadd, 1) := by decide +kernel
theorem dX6_readsPen_33 : decode cX6_readsPen 33 = .ok (.putfield 105, 3) := by decide +kernel
theorem dX6_readsPen_36 : decode cX6_readsPen 36 = .ok (.aload_n 0, 1) := by decide +kernel
theorem dX6_readsPen_37 : decode cX6_readsPen 37 = .ok (.invokevirtual 98, 3) := by decide +kernel
theorem dX6_readsPen_40 : decode cX6_readsPen 40 = .ok (.ireturn, 1) := by decide +kernel
theorem dX6_readsItem_0 : decode cX6_readsItem 0 = .ok (.aload_n 0, 1) := by decide +kernel
theorem dX6_readsItem_1 : decode cX6_readsItem 1 = .ok (.invokevirtual 81, 3) := by decide +kernel
theorem dX6_readsItem_4 : decode cX6_readsItem 4 = .ok (.istore_n 1, 1) := by decide +kernel
theorem dX6_readsItem_5 : decode cX6_readsItem 5 = .ok (.aload_n 0, 1) := by decide +kernel
theorem dX6_readsItem_6 : decode cX6_readsItem 6 = .ok (.getfield 78, 3) := by decide +kernel
theorem dX6_readsItem_9 : decode cX6_readsItem 9 = .ok (.iconst 1, 1) := by decide +kernel
theorem dX6_readsItem_10 : decode cX6_readsItem 10 = .ok (.iadd, 1) := by decide +kernel
theorem dX6_readsItem_11 : decode cX6_readsItem 11 = .ok (.aload_n 0, 1) := by decide +kernel
theorem dX6_readsItem_12 : decode cX6_readsItem 12 = .ok (.getfield 75, 3) := by decide +kernel
theorem dX6_readsItem_15 : decode cX6_readsItem 15 = .ok (.if_icmp .ge 24, 3) := by decide +kernel
theorem dX6_readsItem_18 : decode cX6_readsItem 18 = .ok (.aload_n 0, 1) := by decide +kernel
theorem dX6_readsItem_19 : decode cX6_readsItem 19 = .ok (.getfield 28, 3) := by decide +kernel
theorem dX6_readsItem_22 : decode cX6_readsItem 22 = .ok (.aload_n 0, 1) := by decide +kernel
theorem dX6_readsItem_23 : decode cX6_readsItem 23 = .ok (.getfield 78, 3) := by decide +kernel
theorem dX6_readsItem_26 : decode cX6_readsItem 26 = .ok (.iconst 1, 1) := by decide +kernel
theorem dX6_readsItem_27 : decode cX6_readsItem 27 = .ok (.iadd, 1) := by decide +kernel
theorem dX6_readsItem_28 : decode cX6_readsItem 28 = .ok (.iaload, 1) := by decide +kernel
theorem dX6_readsItem_29 : decode cX6_readsItem 29 = .ok (.bipush 97, 2) := by decide +kernel
theorem dX6_readsItem_31 : decode cX6_readsItem 31 = .ok (.bipush 122, 2) := by decide +kernel
theorem dX6_readsItem_33 : decode cX6_readsItem 33 = .ok (.invokestatic 62, 3) := by decide +kernel
theorem dX6_readsItem_36 : decode cX6_readsItem 36 = .ok (.ifCond .ne 7, 3) := by decide +kernel
theorem dX6_readsItem_39 : decode cX6_readsItem 39 = .ok (.iconst 1, 1) := by decide +kernel
theorem dX6_readsItem_40 : decode cX6_readsItem 40 = .ok (.goto 4, 3) := by decide +kernel
theorem dX6_readsItem_43 : decode cX6_readsItem 43 = .ok (.iconst 0, 1) := by decide +kernel
theorem dX6_readsItem_44 : decode cX6_readsItem 44 = .ok (.istore_n 2, 1) := by decide +kernel
theorem dX6_readsItem_45 : decode cX6_readsItem 45 = .ok (.iload_n 1, 1) := by decide +kernel
theorem dX6_readsItem_46 : decode cX6_readsItem 46 = .ok (.bipush 114, 2) := by decide +kernel
theorem dX6_readsItem_48 : decode cX6_readsItem 48 = .ok (.if_icmp .ne 19, 3) := by decide +kernel
theorem dX6_readsItem_51 : decode cX6_readsItem 51 = .ok (.aload_n 0, 1) := by decide +kernel
theorem dX6_readsItem_52 : decode cX6_readsItem 52 = .ok (.getfield 95, 3) := by decide +kernel
theorem dX6_readsItem_55 : decode cX6_readsItem 55 = .ok (.iconst 4, 1) := by decide +kernel
theorem dX6_readsItem_56 : decode cX6_readsItem 56 = .ok (.if_icmp .ge 7, 3) := by decide +kernel
theorem dX6_readsItem_59 : decode cX6_readsItem 59 = .ok (.iconst 1, 1) := by decide +kernel
theorem dX6_readsItem_60 : decode cX6_readsItem 60 = .ok (.goto 49, 3) := by decide +kernel
theorem dX6_readsItem_63 : decode cX6_readsItem 63 = .ok (.iconst 0, 1) := by decide +kernel
theorem dX6_readsItem_64 : decode cX6_readsItem 64 = .ok (.goto 45, 3) := by decide +kernel
theorem dX6_readsItem_67 : decode cX6_readsItem 67 = .ok (.iload_n 1, 1) := by decide +kernel
theorem dX6_readsItem_68 : decode cX6_readsItem 68 = .ok (.bipush 119, 2) := by decide +kernel
theorem dX6_readsItem_70 : decode cX6_readsItem 70 = .ok (.if_icmp .ne 20, 3) := by decide +kernel
theorem dX6_readsItem_73 : decode cX6_readsItem 73 = .ok (.aload_n 0, 1) := by decide +kernel
theorem dX6_readsItem_74 : decode cX6_readsItem 74 = .ok (.getfield 102, 3) := by decide +kernel
theorem dX6_readsItem_77 : decode cX6_readsItem 77 = .ok (.bipush 6, 2) := by decide +kernel
theorem dX6_readsItem_79 : decode cX6_readsItem 79 = .ok (.if_icmp .ge 7, 3) := by decide +kernel
theorem dX6_readsItem_82 : decode cX6_readsItem 82 = .ok (.iconst 1, 1) := by decide +kernel
theorem dX6_readsItem_83 : decode cX6_readsItem 83 = .ok (.goto 26, 3) := by decide +kernel
theorem dX6_readsItem_86 : decode cX6_readsItem 86 = .ok (.iconst 0, 1) := by decide +kernel
theorem dX6_readsItem_87 : decode cX6_readsItem 87 = .ok (.goto 22, 3) := by decide +kernel
theorem dX6_readsItem_90 : decode cX6_readsItem 90 = .ok (.iload_n 1, 1) := by decide +kernel
theorem dX6_readsItem_91 : decode cX6_readsItem 91 = .ok (.bipush 112, 2) := by decide +kernel
theorem dX6_readsItem_93 : decode cX6_readsItem 93 = .ok (.if_icmp .ne 15, 3) := by decide +kernel
theorem dX6_readsItem_96 : decode cX6_readsItem 96 = .ok (.aload_n 0, 1) := by decide +kernel
theorem dX6_readsItem_97 : decode cX6_readsItem 97 = .ok (.getfield 105, 3) := by decide +kernel
theorem dX6_readsItem_100 : decode cX6_readsItem 100 = .ok (.iconst 4, 1) := by decide +kernel
theorem dX6_readsItem_101 : decode cX6_readsItem 101 = .ok (.if_icmp .ge 7, 3) := by decide +kernel
theorem dX6_readsItem_104 : decode cX6_readsItem 104 = .ok (.iconst 1, 1) := by decide +kernel
theorem dX6_readsItem_105 : decode cX6_readsItem 105 = .ok (.goto 4, 3) := by decide +kernel
theorem dX6_readsItem_108 : decode cX6_readsItem 108 = .ok (.iconst 0, 1) := by decide +kernel
theorem dX6_readsItem_109 : decode cX6_readsItem 109 = .ok (.istore_n 3, 1) := by decide +kernel
theorem dX6_readsItem_110 : decode cX6_readsItem 110 = .ok (.iload_n 2, 1) := by decide +kernel
theorem dX6_readsItem_111 : decode cX6_readsItem 111 = .ok (.ifCond .eq 7, 3) := by decide +kernel
theorem dX6_readsItem_114 : decode cX6_readsItem 114 = .ok (.iload_n 3, 1) := by decide +kernel
theorem dX6_readsItem_115 : decode cX6_readsItem 115 = .ok (.ifCond .ne 5, 3) := by decide +kernel
theorem dX6_readsItem_118 : decode cX6_readsItem 118 = .ok (.iconst 0, 1) := by decide +kernel
theorem dX6_readsItem_119 : decode cX6_readsItem 119 = .ok (.ireturn, 1) := by decide +kernel
theorem dX6_readsItem_120 : decode cX6_readsItem 120 = .ok (.aload_n 0, 1) := by decide +kernel
theorem dX6_readsItem_121 : decode cX6_readsItem 121 = .ok (.dup, 1) := by decide +kernel
theorem dX6_readsItem_122 : decode cX6_readsItem 122 = .ok (.getfield 78, 3) := by decide +kernel
theorem dX6_readsItem_125 : decode cX6_readsItem 125 = .ok (.iconst 1, 1) := by decide +kernel
theorem dX6_readsItem_126 : decode cX6_readsItem 126 = .ok (.iadd, 1) := by decide +kernel
theorem dX6_readsItem_127 : decode cX6_readsItem 127 = .ok (.putfield 78, 3) := by decide +kernel
theorem dX6_readsItem_130 : decode cX6_readsItem 130 = .ok (.iload_n 1, 1) := by decide +kernel
theorem dX6_readsItem_131 : decode cX6_readsItem 131 = .ok (.bipush 114, 2) := by decide +kernel
theorem dX6_readsItem_133 : decode cX6_readsItem 133 = .ok (.if_icmp .ne 10, 3) := by decide +kernel
theorem dX6_readsItem_136 : decode cX6_readsItem 136 = .ok (.aload_n 0, 1) := by decide +kernel
theorem dX6_readsItem_137 : decode cX6_readsItem 137 = .ok (.invokevirtual 108, 3) := by decide +kernel
theorem dX6_readsItem_140 : decode cX6_readsItem 140 = .ok (.goto 20, 3) := by decide +kernel
theorem dX6_readsItem_143 : decode cX6_readsItem 143 = .ok (.iload_n 1, 1) := by decide +kernel
theorem dX6_readsItem_144 : decode cX6_readsItem 144 = .ok (.bipush 119, 2) := by decide +kernel
theorem dX6_readsItem_146 : decode cX6_readsItem 146 = .ok (.if_icmp .ne 10, 3) := by decide +kernel
theorem dX6_readsItem_149 : decode cX6_readsItem 149 = .ok (.aload_n 0, 1) := by decide +kernel
theorem dX6_readsItem_150 : decode cX6_readsItem 150 = .ok (.invokevirtual 111, 3) := by decide +kernel
theorem dX6_readsItem_153 : decode cX6_readsItem 153 = .ok (.goto 7, 3) := by decide +kernel
theorem dX6_readsItem_156 : decode cX6_readsItem 156 = .ok (.aload_n 0, 1) := by decide +kernel
theorem dX6_readsItem_157 : decode cX6_readsItem 157 = .ok (.invokevirtual 114, 3) := by decide +kernel
theorem dX6_readsItem_160 : decode cX6_readsItem 160 = .ok (.ireturn, 1) := by decide +kernel
theorem dX6_box_0 : decode cX6_box 0 = .ok (.aload_n 0, 1) := by decide +kernel
theorem dX6_box_1 : decode cX6_box 1 = .ok (.iconst 0, 1) := by decide +kernel
theorem dX6_box_2 : decode cX6_box 2 = .ok (.putfield 78, 3) := by decide +kernel
theorem dX6_box_5 : decode cX6_box 5 = .ok (.aload_n 0, 1) := by decide +kernel
theorem dX6_box_6 : decode cX6_box 6 = .ok (.iconst 0, 1) := by decide +kernel
theorem dX6_box_7 : decode cX6_box 7 = .ok (.putfield 95, 3) := by decide +kernel
theorem dX6_box_10 : decode cX6_box 10 = .ok (.aload_n 0, 1) := by decide +kernel
theorem dX6_box_11 : decode cX6_box 11 = .ok (.iconst 0, 1) := by decide +kernel
theorem dX6_box_12 : decode cX6_box 12 = .ok (.putfield 102, 3) := by decide +kernel
theorem dX6_box_15 : decode cX6_box 15 = .ok (.aload_n 0, 1) := by decide +kernel
theorem dX6_box_16 : decode cX6_box 16 = .ok (.iconst 0, 1) := by decide +kernel
theorem dX6_box_17 : decode cX6_box 17 = .ok (.putfield 105, 3) := by decide +kernel
theorem dX6_box_20 : decode cX6_box 20 = .ok (.iconst 0, 1) := by decide +kernel
theorem dX6_box_21 : decode cX6_box 21 = .ok (.istore_n 1, 1) := by decide +kernel
theorem dX6_box_22 : decode cX6_box 22 = .ok (.aload_n 0, 1) := by decide +kernel
theorem dX6_box_23 : decode cX6_box 23 = .ok (.invokevirtual 85, 3) := by decide +kernel
theorem dX6_box_26 : decode cX6_box 26 = .ok (.aload_n 0, 1) := by decide +kernel
theorem dX6_box_27 : decode cX6_box 27 = .ok (.getfield 78, 3) := by decide +kernel
theorem dX6_box_30 : decode cX6_box 30 = .ok (.aload_n 0, 1) := by decide +kernel
theorem dX6_box_31 : decode cX6_box 31 = .ok (.getfield 75, 3) := by decide +kernel
theorem dX6_box_34 : decode cX6_box 34 = .ok (.if_icmp .ge 28, 3) := by decide +kernel
theorem dX6_box_37 : decode cX6_box 37 = .ok (.aload_n 0, 1) := by decide +kernel
theorem dX6_box_38 : decode cX6_box 38 = .ok (.invokevirtual 117, 3) := by decide +kernel
theorem dX6_box_41 : decode cX6_box 41 = .ok (.ifCond .ne 11, 3) := by decide +kernel
theorem dX6_box_44 : decode cX6_box 44 = .ok (.bipush (-10), 2) := by decide +kernel
theorem dX6_box_46 : decode cX6_box 46 = .ok (.aload_n 0, 1) := by decide +kernel
theorem dX6_box_47 : decode cX6_box 47 = .ok (.getfield 78, 3) := by decide +kernel
theorem dX6_box_50 : decode cX6_box 50 = .ok (.isub, 1) := by decide +kernel
theorem dX6_box_51 : decode cX6_box 51 = .ok (.ireturn, 1) := by decide +kernel
theorem dX6_box_52 : decode cX6_box 52 = .ok (.iinc 1 1, 3) := by decide +kernel
theorem dX6_box_55 : decode cX6_box 55 = .ok (.aload_n 0, 1) := by decide +kernel
theorem dX6_box_56 : decode cX6_box 56 = .ok (.invokevirtual 85, 3) := by decide +kernel
theorem dX6_box_59 : decode cX6_box 59 = .ok (.goto (-33), 3) := by decide +kernel
theorem dX6_box_62 : decode cX6_box 62 = .ok (.aload_n 0, 1) := by decide +kernel
theorem dX6_box_63 : decode cX6_box 63 = .ok (.iconst 0, 1) := by decide +kernel
theorem dX6_box_64 : decode cX6_box 64 = .ok (.putfield 75, 3) := by decide +kernel
theorem dX6_box_67 : decode cX6_box 67 = .ok (.aload_n 0, 1) := by decide +kernel
theorem dX6_box_68 : decode cX6_box 68 = .ok (.aload_n 0, 1) := by decide +kernel
theorem dX6_box_69 : decode cX6_box 69 = .ok (.getfield 95, 3) := by decide +kernel
theorem dX6_box_72 : decode cX6_box 72 = .ok (.putfield 58, 3) := by decide +kernel
theorem dX6_box_75 : decode cX6_box 75 = .ok (.aload_n 0, 1) := by decide +kernel
theorem dX6_box_76 : decode cX6_box 76 = .ok (.aload_n 0, 1) := by decide +kernel
theorem dX6_box_77 : decode cX6_box 77 = .ok (.getfield 102, 3) := by decide +kernel
theorem dX6_box_80 : decode cX6_box 80 = .ok (.putfield 66, 3) := by decide +kernel
theorem dX6_box_83 : decode cX6_box 83 = .ok (.aload_n 0, 1) := by decide +kernel
theorem dX6_box_84 : decode cX6_box 84 = .ok (.aload_n 0, 1) := by decide +kernel
theorem dX6_box_85 : decode cX6_box 85 = .ok (.getfield 105, 3) := by decide +kernel
theorem dX6_box_88 : decode cX6_box 88 = .ok (.putfield 69, 3) := by decide +kernel
theorem dX6_box_91 : decode cX6_box 91 = .ok (.iconst 0, 1) := by decide +kernel
theorem dX6_box_92 : decode cX6_box 92 = .ok (.istore_n 2, 1) := by decide +kernel
theorem dX6_box_93 : decode cX6_box 93 = .ok (.iload_n 2, 1) := by decide +kernel
theorem dX6_box_94 : decode cX6_box 94 = .ok (.aload_n 0, 1) := by decide +kernel
theorem dX6_box_95 : decode cX6_box 95 = .ok (.getfield 58, 3) := by decide +kernel
theorem dX6_box_98 : decode cX6_box 98 = .ok (.if_icmp .ge 21, 3) := by decide +kernel
theorem dX6_box_101 : decode cX6_box 101 = .ok (.aload_n 0, 1) := by decide +kernel
theorem dX6_box_102 : decode cX6_box 102 = .ok (.getfield 7, 3) := by decide +kernel
theorem dX6_box_105 : decode cX6_box 105 = .ok (.iload_n 2, 1) := by decide +kernel
theorem dX6_box_106 : decode cX6_box 106 = .ok (.aload_n 0, 1) := by decide +kernel
theorem dX6_box_107 : decode cX6_box 107 = .ok (.getfield 31, 3) := by decide +kernel
theorem dX6_box_110 : decode cX6_box 110 = .ok (.iload_n 2, 1) := by decide +kernel
theorem dX6_box_111 : decode cX6_box 111 = .ok (.iaload, 1) := by decide +kernel
theorem dX6_box_112 : decode cX6_box 112 = .ok (.iastore, 1) := by decide +kernel
theorem dX6_box_113 : decode cX6_box 113 = .ok (.iinc 2 1, 3) := by decide +kernel
theorem dX6_box_116 : decode cX6_box 116 = .ok (.goto (-23), 3) := by decide +kernel
theorem dX6_box_119 : decode cX6_box 119 = .ok (.iconst 0, 1) := by decide +kernel
theorem dX6_box_120 : decode cX6_box 120 = .ok (.istore_n 2, 1) := by decide +kernel
theorem dX6_box_121 : decode cX6_box 121 = .ok (.iload_n 2, 1) := by decide +kernel
theorem dX6_box_122 : decode cX6_box 122 = .ok (.aload_n 0, 1) := by decide +kernel
theorem dX6_box_123 : decode cX6_box 123 = .ok (.getfield 66, 3) := by decide +kernel
theorem dX6_box_126 : decode cX6_box 126 = .ok (.if_icmp .ge 21, 3) := by decide +kernel
theorem dX6_box_129 : decode cX6_box 129 = .ok (.aload_n 0, 1) := by decide +kernel
theorem dX6_box_130 : decode cX6_box 130 = .ok (.getfield 13, 3) := by decide +kernel
theorem dX6_box_133 : decode cX6_box 133 = .ok (.iload_n 2, 1) := by decide +kernel
theorem dX6_box_134 : decode cX6_box 134 = .ok (.aload_n 0, 1) := by decide +kernel
theorem dX6_box_135 : decode cX6_box 135 = .ok (.getfield 34, 3) := by decide +kernel
theorem dX6_box_138 : decode cX6_box 138 = .ok (.iload_n 2, 1) := by decide +kernel
theorem dX6_box_139 : decode cX6_box 139 = .ok (.iaload, 1) := by decide +kernel
theorem dX6_box_140 : decode cX6_box 140 = .ok (.iastore, 1) := by decide +kernel
theorem dX6_box_141 : decode cX6_box 141 = .ok (.iinc 2 1, 3) := by decide +kernel
theorem dX6_box_144 : decode cX6_box 144 = .ok (.goto (-23), 3) := by decide +kernel
theorem dX6_box_147 : decode cX6_box 147 = .ok (.iconst 0, 1) := by decide +kernel
theorem dX6_box_148 : decode cX6_box 148 = .ok (.istore_n 2, 1) := by decide +kernel
theorem dX6_box_149 : decode cX6_box 149 = .ok (.iload_n 2, 1) := by decide +kernel
theorem dX6_box_150 : decode cX6_box 150 = .ok (.aload_n 0, 1) := by decide +kernel
theorem dX6_box_151 : decode cX6_box 151 = .ok (.getfield 69, 3) := by decide +kernel
theorem dX6_box_154 : decode cX6_box 154 = .ok (.if_icmp .ge 21, 3) := by decide +kernel
theorem dX6_box_157 : decode cX6_box 157 = .ok (.aload_n 0, 1) := by decide +kernel
theorem dX6_box_158 : decode cX6_box 158 = .ok (.getfield 16, 3) := by decide +kernel
theorem dX6_box_161 : decode cX6_box 161 = .ok (.iload_n 2, 1) := by decide +kernel
theorem dX6_box_162 : decode cX6_box 162 = .ok (.aload_n 0, 1) := by decide +kernel
theorem dX6_box_163 : decode cX6_box 163 = .ok (.getfield 37, 3) := by decide +kernel
theorem dX6_box_166 : decode cX6_box 166 = .ok (.iload_n 2, 1) := by decide +kernel
theorem dX6_box_167 : decode cX6_box 167 = .ok (.iaload, 1) := by decide +kernel
theorem dX6_box_168 : decode cX6_box 168 = .ok (.iastore, 1) := by decide +kernel
theorem dX6_box_169 : decode cX6_box 169 = .ok (.iinc 2 1, 3) := by decide +kernel
theorem dX6_box_172 : decode cX6_box 172 = .ok (.goto (-23), 3) := by decide +kernel
theorem dX6_box_175 : decode cX6_box 175 = .ok (.aload_n 0, 1) := by decide +kernel
theorem dX6_box_176 : decode cX6_box 176 = .ok (.iconst 0, 1) := by decide +kernel
theorem dX6_box_177 : decode cX6_box 177 = .ok (.putfield 120, 3) := by decide +kernel
theorem dX6_box_180 : decode cX6_box 180 = .ok (.aload_n 0, 1) := by decide +kernel
theorem dX6_box_181 : decode cX6_box 181 = .ok (.iconst 0, 1) := by decide +kernel
theorem dX6_box_182 : decode cX6_box 182 = .ok (.putfield 72, 3) := by decide +kernel
theorem dX6_box_185 : decode cX6_box 185 = .ok (.aload_n 0, 1) := by decide +kernel
theorem dX6_box_186 : decode cX6_box 186 = .ok (.iconst 0, 1) := by decide +kernel
theorem dX6_box_187 : decode cX6_box 187 = .ok (.putfield 123, 3) := by decide +kernel
theorem dX6_box_190 : decode cX6_box 190 = .ok (.aload_n 0, 1) := by decide +kernel
theorem dX6_box_191 : decode cX6_box 191 = .ok (.iconst 0, 1) := by decide +kernel
theorem dX6_box_192 : decode cX6_box 192 = .ok (.putfield 126, 3) := by decide +kernel
theorem dX6_box_195 : decode cX6_box 195 = .ok (.aload_n 0, 1) := by decide +kernel
theorem dX6_box_196 : decode cX6_box 196 = .ok (.getfield 55, 3) := by decide +kernel
theorem dX6_box_199 : decode cX6_box 199 = .ok (.iconst 0, 1) := by decide +kernel
theorem dX6_box_200 : decode cX6_box 200 = .ok (.iconst 0, 1) := by decide +kernel
theorem dX6_box_201 : decode cX6_box 201 = .ok (.iastore, 1) := by decide +kernel
theorem dX6_box_202 : decode cX6_box 202 = .ok (.aload_n 0, 1) := by decide +kernel
theorem dX6_box_203 : decode cX6_box 203 = .ok (.getfield 55, 3) := by decide +kernel
theorem dX6_box_206 : decode cX6_box 206 = .ok (.sipush 860, 3) := by decide +kernel
theorem dX6_box_209 : decode cX6_box 209 = .ok (.iconst 0, 1) := by decide +kernel
theorem dX6_box_210 : decode cX6_box 210 = .ok (.iastore, 1) := by decide +kernel
theorem dX6_box_211 : decode cX6_box 211 = .ok (.iload_n 1, 1) := by decide +kernel
theorem dX6_box_212 : decode cX6_box 212 = .ok (.ireturn, 1) := by decide +kernel
theorem dX6_fits_0 : decode cX6_fits 0 = .ok (.aload_n 0, 1) := by decide +kernel
theorem dX6_fits_1 : decode cX6_fits 1 = .ok (.getfield 13, 3) := by decide +kernel
theorem dX6_fits_4 : decode cX6_fits 4 = .ok (.iload_n 2, 1) := by decide +kernel
theorem dX6_fits_5 : decode cX6_fits 5 = .ok (.iaload, 1) := by decide +kernel
theorem dX6_fits_6 : decode cX6_fits 6 = .ok (.aload_n 0, 1) := by decide +kernel
theorem dX6_fits_7 : decode cX6_fits 7 = .ok (.getfield 7, 3) := by decide +kernel
theorem dX6_fits_10 : decode cX6_fits 10 = .ok (.iload_n 1, 1) := by decide +kernel
theorem dX6_fits_11 : decode cX6_fits 11 = .ok (.iaload, 1) := by decide +kernel
theorem dX6_fits_12 : decode cX6_fits 12 = .ok (.if_icmp .ge 7, 3) := by decide +kernel
theorem dX6_fits_15 : decode cX6_fits 15 = .ok (.iconst 1, 1) := by decide +kernel
theorem dX6_fits_16 : decode cX6_fits 16 = .ok (.goto 4, 3) := by decide +kernel
theorem dX6_fits_19 : decode cX6_fits 19 = .ok (.iconst 0, 1) := by decide +kernel
theorem dX6_fits_20 : decode cX6_fits 20 = .ok (.ireturn, 1) := by decide +kernel
theorem dX6_commonOf_0 : decode cX6_commonOf 0 = .ok (.aload_n 0, 1) := by decide +kernel
theorem dX6_commonOf_1 : decode cX6_commonOf 1 = .ok (.getfield 7, 3) := by decide +kernel
theorem dX6_commonOf_4 : decode cX6_commonOf 4 = .ok (.iload_n 1, 1) := by decide +kernel
theorem dX6_commonOf_5 : decode cX6_commonOf 5 = .ok (.iaload, 1) := by decide +kernel
theorem dX6_commonOf_6 : decode cX6_commonOf 6 = .ok (.aload_n 0, 1) := by decide +kernel
theorem dX6_commonOf_7 : decode cX6_commonOf 7 = .ok (.getfield 13, 3) := by decide +kernel
theorem dX6_commonOf_10 : decode cX6_commonOf 10 = .ok (.iload_n 2, 1) := by decide +kernel
theorem dX6_commonOf_11 : decode cX6_commonOf 11 = .ok (.iaload, 1) := by decide +kernel
theorem dX6_commonOf_12 : decode cX6_commonOf 12 = .ok (.invokestatic 129, 3) := by decide +kernel
theorem dX6_commonOf_15 : decode cX6_commonOf 15 = .ok (.ireturn, 1) := by decide +kernel
theorem dX6_petalsOf_0 : decode cX6_petalsOf 0 = .ok (.aload_n 0, 1) := by decide +kernel
theorem dX6_petalsOf_1 : decode cX6_petalsOf 1 = .ok (.getfield 7, 3) := by decide +kernel
theorem dX6_petalsOf_4 : decode cX6_petalsOf 4 = .ok (.iload_n 1, 1) := by decide +kernel
theorem dX6_petalsOf_5 : decode cX6_petalsOf 5 = .ok (.iaload, 1) := by decide +kernel
theorem dX6_petalsOf_6 : decode cX6_petalsOf 6 = .ok (.aload_n 0, 1) := by decide +kernel
theorem dX6_petalsOf_7 : decode cX6_petalsOf 7 = .ok (.iload_n 1, 1) := by decide +kernel
theorem dX6_petalsOf_8 : decode cX6_petalsOf 8 = .ok (.iload_n 2, 1) := by decide +kernel
theorem dX6_petalsOf_9 : decode cX6_petalsOf 9 = .ok (.invokevirtual 133, 3) := by decide +kernel
theorem dX6_petalsOf_12 : decode cX6_petalsOf 12 = .ok (.idiv, 1) := by decide +kernel
theorem dX6_petalsOf_13 : decode cX6_petalsOf 13 = .ok (.ireturn, 1) := by decide +kernel
theorem dX6_roundsOf_0 : decode cX6_roundsOf 0 = .ok (.aload_n 0, 1) := by decide +kernel
theorem dX6_roundsOf_1 : decode cX6_roundsOf 1 = .ok (.getfield 13, 3) := by decide +kernel
theorem dX6_roundsOf_4 : decode cX6_roundsOf 4 = .ok (.iload_n 2, 1) := by decide +kernel
theorem dX6_roundsOf_5 : decode cX6_roundsOf 5 = .ok (.iaload, 1) := by decide +kernel
theorem dX6_roundsOf_6 : decode cX6_roundsOf 6 = .ok (.aload_n 0, 1) := by decide +kernel
theorem dX6_roundsOf_7 : decode cX6_roundsOf 7 = .ok (.iload_n 1, 1) := by decide +kernel
theorem dX6_roundsOf_8 : decode cX6_roundsOf 8 = .ok (.iload_n 2, 1) := by decide +kernel
theorem dX6_roundsOf_9 : decode cX6_roundsOf 9 = .ok (.invokevirtual 133, 3) := by decide +kernel
theorem dX6_roundsOf_12 : decode cX6_roundsOf 12 = .ok (.idiv, 1) := by decide +kernel
theorem dX6_roundsOf_13 : decode cX6_roundsOf 13 = .ok (.ireturn, 1) := by decide +kernel
theorem dX6_longOf_0 : decode cX6_longOf 0 = .ok (.aload_n 0, 1) := by decide +kernel
theorem dX6_longOf_1 : decode cX6_longOf 1 = .ok (.getfield 7, 3) := by decide +kernel
theorem dX6_longOf_4 : decode cX6_longOf 4 = .ok (.iload_n 1, 1) := by decide +kernel
theorem dX6_longOf_5 : decode cX6_longOf 5 = .ok (.iaload, 1) := by decide +kernel
theorem dX6_longOf_6 : decode cX6_longOf 6 = .ok (.aload_n 0, 1) := by decide +kernel
theorem dX6_longOf_7 : decode cX6_longOf 7 = .ok (.iload_n 1, 1) := by decide +kernel
theorem dX6_longOf_8 : decode cX6_longOf 8 = .ok (.iload_n 2, 1) := by decide +kernel
theorem dX6_longOf_9 : decode cX6_longOf 9 = .ok (.invokevirtual 136, 3) := by decide +kernel
theorem dX6_longOf_12 : decode cX6_longOf 12 = .ok (.imul, 1) := by decide +kernel
theorem dX6_longOf_13 : decode cX6_longOf 13 = .ok (.ireturn, 1) := by decide +kernel
theorem dX6_ring_0 : decode cX6_ring 0 = .ok (.aload_n 0, 1) := by decide +kernel
theorem dX6_ring_1 : decode cX6_ring 1 = .ok (.iload_n 1, 1) := by decide +kernel
theorem dX6_ring_2 : decode cX6_ring 2 = .ok (.invokevirtual 139, 3) := by decide +kernel
theorem dX6_ring_5 : decode cX6_ring 5 = .ok (.ifCond .eq 12, 3) := by decide +kernel
theorem dX6_ring_8 : decode cX6_ring 8 = .ok (.aload_n 0, 1) := by decide +kernel
theorem dX6_ring_9 : decode cX6_ring 9 = .ok (.getfield 7, 3) := by decide +kernel
theorem dX6_ring_12 : decode cX6_ring 12 = .ok (.iload_n 1, 1) := by decide +kernel
theorem dX6_ring_13 : decode cX6_ring 13 = .ok (.iaload, 1) := by decide +kernel
theorem dX6_ring_14 : decode cX6_ring 14 = .ok (.goto 4, 3) := by decide +kernel
theorem dX6_ring_17 : decode cX6_ring 17 = .ok (.iconst (-1), 1) := by decide +kernel
theorem dX6_ring_18 : decode cX6_ring 18 = .ok (.ireturn, 1) := by decide +kernel
theorem dX6_wheel_0 : decode cX6_wheel 0 = .ok (.aload_n 0, 1) := by decide +kernel
theorem dX6_wheel_1 : decode cX6_wheel 1 = .ok (.iload_n 1, 1) := by decide +kernel
theorem dX6_wheel_2 : decode cX6_wheel 2 = .ok (.invokevirtual 139, 3) := by decide +kernel
theorem dX6_wheel_5 : decode cX6_wheel 5 = .ok (.ifCond .eq 20, 3) := by decide +kernel
theorem dX6_wheel_8 : decode cX6_wheel 8 = .ok (.aload_n 0, 1) := by decide +kernel
theorem dX6_wheel_9 : decode cX6_wheel 9 = .ok (.iload_n 2, 1) := by decide +kernel
theorem dX6_wheel_10 : decode cX6_wheel 10 = .ok (.invokevirtual 143, 3) := by decide +kernel
theorem dX6_wheel_13 : decode cX6_wheel 13 = .ok (.ifCond .eq 12, 3) := by decide +kernel
theorem dX6_wheel_16 : decode cX6_wheel 16 = .ok (.iload_n 3, 1) := by decide +kernel
theorem dX6_wheel_17 : decode cX6_wheel 17 = .ok (.iconst 0, 1) := by decide +kernel
theorem dX6_wheel_18 : decode cX6_wheel 18 = .ok (.iconst 3, 1) := by decide +kernel
theorem dX6_wheel_19 : decode cX6_wheel 19 = .ok (.invokestatic 62, 3) := by decide +kernel
theorem dX6_wheel_22 : decode cX6_wheel 22 = .ok (.ifCond .ne 5, 3) := by decide +kernel
theorem dX6_wheel_25 : decode cX6_wheel 25 = .ok (.iconst (-1), 1) := by decide +kernel
theorem dX6_wheel_26 : decode cX6_wheel 26 = .ok (.ireturn, 1) := by decide +kernel
theorem dX6_wheel_27 : decode cX6_wheel 27 = .ok (.iload_n 3, 1) := by decide +kernel
theorem dX6_wheel_28 : decode cX6_wheel 28 = .ok (.ifCond .ne 10, 3) := by decide +kernel
theorem dX6_wheel_31 : decode cX6_wheel 31 = .ok (.aload_n 0, 1) := by decide +kernel
theorem dX6_wheel_32 : decode cX6_wheel 32 = .ok (.getfield 13, 3) := by decide +kernel
theorem dX6_wheel_35 : decode cX6_wheel 35 = .ok (.iload_n 2, 1) := by decide +kernel
theorem dX6_wheel_36 : decode cX6_wheel 36 = .ok (.iaload, 1) := by decide +kernel
theorem dX6_wheel_37 : decode cX6_wheel 37 = .ok (.ireturn, 1) := by decide +kernel
theorem dX6_wheel_38 : decode cX6_wheel 38 = .ok (.aload_n 0, 1) := by decide +kernel
theorem dX6_wheel_39 : decode cX6_wheel 39 = .ok (.iload_n 1, 1) := by decide +kernel
theorem dX6_wheel_40 : decode cX6_wheel 40 = .ok (.iload_n 2, 1) := by decide +kernel
theorem dX6_wheel_41 : decode cX6_wheel 41 = .ok (.invokevirtual 146, 3) := by decide +kernel
theorem dX6_wheel_44 : decode cX6_wheel 44 = .ok (.ifCond .ne 6, 3) := by decide +kernel
theorem dX6_wheel_47 : decode cX6_wheel 47 = .ok (.bipush (-9), 2) := by decide +kernel
theorem dX6_wheel_49 : decode cX6_wheel 49 = .ok (.ireturn, 1) := by decide +kernel
theorem dX6_wheel_50 : decode cX6_wheel 50 = .ok (.iload_n 3, 1) := by decide +kernel
theorem dX6_wheel_51 : decode cX6_wheel 51 = .ok (.iconst 1, 1) := by decide +kernel
theorem dX6_wheel_52 : decode cX6_wheel 52 = .ok (.if_icmp .ne 12, 3) := by decide +kernel
theorem dX6_wheel_55 : decode cX6_wheel 55 = .ok (.aload_n 0, 1) := by decide +kernel
theorem dX6_wheel_56 : decode cX6_wheel 56 = .ok (.iload_n 1, 1) := by decide +kernel
theorem dX6_wheel_57 : decode cX6_wheel 57 = .ok (.iload_n 2, 1) := by decide +kernel
theorem dX6_wheel_58 : decode cX6_wheel 58 = .ok (.invokevirtual 149, 3) := by decide +kernel
theorem dX6_wheel_61 : decode cX6_wheel 61 = .ok (.goto 23, 3) := by decide +kernel
theorem dX6_wheel_64 : decode cX6_wheel 64 = .ok (.iload_n 3, 1) := by decide +kernel
theorem dX6_wheel_65 : decode cX6_wheel 65 = .ok (.iconst 2, 1) := by decide +kernel
theorem dX6_wheel_66 : decode cX6_wheel 66 = .ok (.if_icmp .ne 12, 3) := by decide +kernel
theorem dX6_wheel_69 : decode cX6_wheel 69 = .ok (.aload_n 0, 1) := by decide +kernel
theorem dX6_wheel_70 : decode cX6_wheel 70 = .ok (.iload_n 1, 1) := by decide +kernel
theorem dX6_wheel_71 : decode cX6_wheel 71 = .ok (.iload_n 2, 1) := by decide +kernel
theorem dX6_wheel_72 : decode cX6_wheel 72 = .ok (.invokevirtual 136, 3) := by decide +kernel
theorem dX6_wheel_75 : decode cX6_wheel 75 = .ok (.goto 9, 3) := by decide +kernel
theorem dX6_wheel_78 : decode cX6_wheel 78 = .ok (.aload_n 0, 1) := by decide +kernel
theorem dX6_wheel_79 : decode cX6_wheel 79 = .ok (.iload_n 1, 1) := by decide +kernel
theorem dX6_wheel_80 : decode cX6_wheel 80 = .ok (.iload_n 2, 1) := by decide +kernel
theorem dX6_wheel_81 : decode cX6_wheel 81 = .ok (.invokevirtual 152, 3) := by decide +kernel
theorem dX6_wheel_84 : decode cX6_wheel 84 = .ok (.ireturn, 1) := by decide +kernel
theorem dX6_toothAt_0 : decode cX6_toothAt 0 = .ok (.iload_n 3, 1) := by decide +kernel
theorem dX6_toothAt_1 : decode cX6_toothAt 1 = .ok (.iload_n 2, 1) := by decide +kernel
theorem dX6_toothAt_2 : decode cX6_toothAt 2 = .ok (.isub, 1) := by decide +kernel
theorem dX6_toothAt_3 : decode cX6_toothAt 3 = .ok (.sipush 360, 3) := by decide +kernel
theorem dX6_toothAt_6 : decode cX6_toothAt 6 = .ok (.iadd, 1) := by decide +kernel
theorem dX6_toothAt_7 : decode cX6_toothAt 7 = .ok (.sipush 360, 3) := by decide +kernel
theorem dX6_toothAt_10 : decode cX6_toothAt 10 = .ok (.irem, 1) := by decide +kernel
theorem dX6_toothAt_11 : decode cX6_toothAt 11 = .ok (.istore 4, 2) := by decide +kernel
theorem dX6_toothAt_13 : decode cX6_toothAt 13 = .ok (.sipush 360, 3) := by decide +kernel
theorem dX6_toothAt_16 : decode cX6_toothAt 16 = .ok (.aload_n 0, 1) := by decide +kernel
theorem dX6_toothAt_17 : decode cX6_toothAt 17 = .ok (.getfield 7, 3) := by decide +kernel
theorem dX6_toothAt_20 : decode cX6_toothAt 20 = .ok (.iload_n 1, 1) := by decide +kernel
theorem dX6_toothAt_21 : decode cX6_toothAt 21 = .ok (.iaload, 1) := by decide +kernel
theorem dX6_toothAt_22 : decode cX6_toothAt 22 = .ok (.idiv, 1) := by decide +kernel
theorem dX6_toothAt_23 : decode cX6_toothAt 23 = .ok (.istore 5, 2) := by decide +kernel
theorem dX6_toothAt_25 : decode cX6_toothAt 25 = .ok (.iload 4, 2) := by decide +kernel
theorem dX6_toothAt_27 : decode cX6_toothAt 27 = .ok (.iload 5, 2) := by decide +kernel
theorem dX6_toothAt_29 : decode cX6_toothAt 29 = .ok (.irem, 1) := by decide +kernel
theorem dX6_toothAt_30 : decode cX6_toothAt 30 = .ok (.ifCond .ne 11, 3) := by decide +kernel
theorem dX6_toothAt_33 : decode cX6_toothAt 33 = .ok (.iload 4, 2) := by decide +kernel
theorem dX6_toothAt_35 : decode cX6_toothAt 35 = .ok (.iload 5, 2) := by decide +kernel
theorem dX6_toothAt_37 : decode cX6_toothAt 37 = .ok (.idiv, 1) := by decide +kernel
theorem dX6_toothAt_38 : decode cX6_toothAt 38 = .ok (.goto 5, 3) := by decide +kernel
theorem dX6_toothAt_41 : decode cX6_toothAt 41 = .ok (.bipush (-9), 2) := by decide +kernel
theorem dX6_toothAt_43 : decode cX6_toothAt 43 = .ok (.ireturn, 1) := by decide +kernel
theorem dX6_pointOf_0 : decode cX6_pointOf 0 = .ok (.sipush 360, 3) := by decide +kernel
theorem dX6_pointOf_3 : decode cX6_pointOf 3 = .ok (.aload_n 0, 1) := by decide +kernel
theorem dX6_pointOf_4 : decode cX6_pointOf 4 = .ok (.getfield 7, 3) := by decide +kernel
theorem dX6_pointOf_7 : decode cX6_pointOf 7 = .ok (.iload_n 1, 1) := by decide +kernel
theorem dX6_pointOf_8 : decode cX6_pointOf 8 = .ok (.iaload, 1) := by decide +kernel
theorem dX6_pointOf_9 : decode cX6_pointOf 9 = .ok (.idiv, 1) := by decide +kernel
theorem dX6_pointOf_10 : decode cX6_pointOf 10 = .ok (.iload_n 3, 1) := by decide +kernel
theorem dX6_pointOf_11 : decode cX6_pointOf 11 = .ok (.imul, 1) := by decide +kernel
theorem dX6_pointOf_12 : decode cX6_pointOf 12 = .ok (.iload_n 2, 1) := by decide +kernel
theorem dX6_pointOf_13 : decode cX6_pointOf 13 = .ok (.iadd, 1) := by decide +kernel
theorem dX6_pointOf_14 : decode cX6_pointOf 14 = .ok (.sipush 360, 3) := by decide +kernel
theorem dX6_pointOf_17 : decode cX6_pointOf 17 = .ok (.irem, 1) := by decide +kernel
theorem dX6_pointOf_18 : decode cX6_pointOf 18 = .ok (.ireturn, 1) := by decide +kernel
theorem dX6_isTip_0 : decode cX6_isTip 0 = .ok (.iload_n 1, 1) := by decide +kernel
theorem dX6_isTip_1 : decode cX6_isTip 1 = .ok (.iload_n 2, 1) := by decide +kernel
theorem dX6_isTip_2 : decode cX6_isTip 2 = .ok (.isub, 1) := by decide +kernel
theorem dX6_isTip_3 : decode cX6_isTip 3 = .ok (.iload_n 0, 1) := by decide +kernel
theorem dX6_isTip_4 : decode cX6_isTip 4 = .ok (.irem, 1) := by decide +kernel
theorem dX6_isTip_5 : decode cX6_isTip 5 = .ok (.ifCond .ne 7, 3) := by decide +kernel
theorem dX6_isTip_8 : decode cX6_isTip 8 = .ok (.iconst 1, 1) := by decide +kernel
theorem dX6_isTip_9 : decode cX6_isTip 9 = .ok (.goto 4, 3) := by decide +kernel
theorem dX6_isTip_12 : decode cX6_isTip 12 = .ok (.iconst 0, 1) := by decide +kernel
theorem dX6_isTip_13 : decode cX6_isTip 13 = .ok (.ireturn, 1) := by decide +kernel
theorem dX6_hasTip_0 : decode cX6_hasTip 0 = .ok (.bipush 6, 2) := by decide +kernel
theorem dX6_hasTip_2 : decode cX6_hasTip 2 = .ok (.iload_n 1, 1) := by decide +kernel
theorem dX6_hasTip_3 : decode cX6_hasTip 3 = .ok (.imul, 1) := by decide +kernel
theorem dX6_hasTip_4 : decode cX6_hasTip 4 = .ok (.istore 4, 2) := by decide +kernel
theorem dX6_hasTip_6 : decode cX6_hasTip 6 = .ok (.aload_n 0, 1) := by decide +kernel
theorem dX6_hasTip_7 : decode cX6_hasTip 7 = .ok (.getfield 19, 3) := by decide +kernel
theorem dX6_hasTip_10 : decode cX6_hasTip 10 = .ok (.iload 4, 2) := by decide +kernel
theorem dX6_hasTip_12 : decode cX6_hasTip 12 = .ok (.iaload, 1) := by decide +kernel
theorem dX6_hasTip_13 : decode cX6_hasTip 13 = .ok (.istore 5, 2) := by decide +kernel
theorem dX6_hasTip_15 : decode cX6_hasTip 15 = .ok (.aload_n 0, 1) := by decide +kernel
theorem dX6_hasTip_16 : decode cX6_hasTip 16 = .ok (.getfield 19, 3) := by decide +kernel
theorem dX6_hasTip_19 : decode cX6_hasTip 19 = .ok (.iload 4, 2) := by decide +kernel
theorem dX6_hasTip_21 : decode cX6_hasTip 21 = .ok (.iconst 2, 1) := by decide +kernel
theorem dX6_hasTip_22 : decode cX6_hasTip 22 = .ok (.iadd, 1) := by decide +kernel
theorem dX6_hasTip_23 : decode cX6_hasTip 23 = .ok (.iaload, 1) := by decide +kernel
theorem dX6_hasTip_24 : decode cX6_hasTip 24 = .ok (.iload_n 3, 1) := by decide +kernel
theorem dX6_hasTip_25 : decode cX6_hasTip 25 = .ok (.if_icmp .eq 5, 3) := by decide +kernel
theorem dX6_hasTip_28 : decode cX6_hasTip 28 = .ok (.iconst 0, 1) := by decide +kernel
theorem dX6_hasTip_29 : decode cX6_hasTip 29 = .ok (.ireturn, 1) := by decide +kernel
theorem dX6_hasTip_30 : decode cX6_hasTip 30 = .ok (.aload_n 0, 1) := by decide +kernel
theorem dX6_hasTip_31 : decode cX6_hasTip 31 = .ok (.iload 5, 2) := by decide +kernel
theorem dX6_hasTip_33 : decode cX6_hasTip 33 = .ok (.aload_n 0, 1) := by decide +kernel
theorem dX6_hasTip_34 : decode cX6_hasTip 34 = .ok (.getfield 19, 3) := by decide +kernel
theorem dX6_hasTip_37 : decode cX6_hasTip 37 = .ok (.iload 4, 2) := by decide +kernel
theorem dX6_hasTip_39 : decode cX6_hasTip 39 = .ok (.iconst 5, 1) := by decide +kernel
theorem dX6_hasTip_40 : decode cX6_hasTip 40 = .ok (.iadd, 1) := by decide +kernel
theorem dX6_hasTip_41 : decode cX6_hasTip 41 = .ok (.iaload, 1) := by decide +kernel
theorem dX6_hasTip_42 : decode cX6_hasTip 42 = .ok (.iload_n 2, 1) := by decide +kernel
theorem dX6_hasTip_43 : decode cX6_hasTip 43 = .ok (.invokevirtual 155, 3) := by decide +kernel
theorem dX6_hasTip_46 : decode cX6_hasTip 46 = .ok (.istore 6, 2) := by decide +kernel
theorem dX6_hasTip_48 : decode cX6_hasTip 48 = .ok (.iload 6, 2) := by decide +kernel
theorem dX6_hasTip_50 : decode cX6_hasTip 50 = .ok (.bipush (-9), 2) := by decide +kernel
theorem dX6_hasTip_52 : decode cX6_hasTip 52 = .ok (.if_icmp .eq 39, 3) := by decide +kernel
theorem dX6_hasTip_55 : decode cX6_hasTip 55 = .ok (.aload_n 0, 1) := by decide +kernel
theorem dX6_hasTip_56 : decode cX6_hasTip 56 = .ok (.iload 5, 2) := by decide +kernel
theorem dX6_hasTip_58 : decode cX6_hasTip 58 = .ok (.aload_n 0, 1) := by decide +kernel
theorem dX6_hasTip_59 : decode cX6_hasTip 59 = .ok (.getfield 19, 3) := by decide +kernel
theorem dX6_hasTip_62 : decode cX6_hasTip 62 = .ok (.iload 4, 2) := by decide +kernel
theorem dX6_hasTip_64 : decode cX6_hasTip 64 = .ok (.iconst 1, 1) := by decide +kernel
theorem dX6_hasTip_65 : decode cX6_hasTip 65 = .ok (.iadd, 1) := by decide +kernel
theorem dX6_hasTip_66 : decode cX6_hasTip 66 = .ok (.iaload, 1) := by decide +kernel
theorem dX6_hasTip_67 : decode cX6_hasTip 67 = .ok (.invokevirtual 133, 3) := by decide +kernel
theorem dX6_hasTip_70 : decode cX6_hasTip 70 = .ok (.iload 6, 2) := by decide +kernel
theorem dX6_hasTip_72 : decode cX6_hasTip 72 = .ok (.aload_n 0, 1) := by decide +kernel
theorem dX6_hasTip_73 : decode cX6_hasTip 73 = .ok (.getfield 19, 3) := by decide +kernel
theorem dX6_hasTip_76 : decode cX6_hasTip 76 = .ok (.iload 4, 2) := by decide +kernel
theorem dX6_hasTip_78 : decode cX6_hasTip 78 = .ok (.iconst 3, 1) := by decide +kernel
theorem dX6_hasTip_79 : decode cX6_hasTip 79 = .ok (.iadd, 1) := by decide +kernel
theorem dX6_hasTip_80 : decode cX6_hasTip 80 = .ok (.iaload, 1) := by decide +kernel
theorem dX6_hasTip_81 : decode cX6_hasTip 81 = .ok (.invokestatic 159, 3) := by decide +kernel
theorem dX6_hasTip_84 : decode cX6_hasTip 84 = .ok (.ifCond .eq 7, 3) := by decide +kernel
theorem dX6_hasTip_87 : decode cX6_hasTip 87 = .ok (.iconst 1, 1) := by decide +kernel
theorem dX6_hasTip_88 : decode cX6_hasTip 88 = .ok (.goto 4, 3) := by decide +kernel
theorem dX6_hasTip_91 : decode cX6_hasTip 91 = .ok (.iconst 0, 1) := by decide +kernel
theorem dX6_hasTip_92 : decode cX6_hasTip 92 = .ok (.ireturn, 1) := by decide +kernel
theorem dX6_shownAt_0 : decode cX6_shownAt 0 = .ok (.aload_n 0, 1) := by decide +kernel
theorem dX6_shownAt_1 : decode cX6_shownAt 1 = .ok (.getfield 72, 3) := by decide +kernel
theorem dX6_shownAt_4 : decode cX6_shownAt 4 = .ok (.iconst 1, 1) := by decide +kernel
theorem dX6_shownAt_5 : decode cX6_shownAt 5 = .ok (.isub, 1) := by decide +kernel
theorem dX6_shownAt_6 : decode cX6_shownAt 6 = .ok (.istore_n 3, 1) := by decide +kernel
theorem dX6_shownAt_7 : decode cX6_shownAt 7 = .ok (.iload_n 3, 1) := by decide +kernel
theorem dX6_shownAt_8 : decode cX6_shownAt 8 = .ok (.ifCond .lt 19, 3) := by decide +kernel
theorem dX6_shownAt_11 : decode cX6_shownAt 11 = .ok (.aload_n 0, 1) := by decide +kernel
theorem dX6_shownAt_12 : decode cX6_shownAt 12 = .ok (.iload_n 3, 1) := by decide +kernel
theorem dX6_shownAt_13 : decode cX6_shownAt 13 = .ok (.iload_n 1, 1) := by decide +kernel
theorem dX6_shownAt_14 : decode cX6_shownAt 14 = .ok (.iload_n 2, 1) := by decide +kernel
theorem dX6_shownAt_15 : decode cX6_shownAt 15 = .ok (.invokevirtual 162, 3) := by decide +kernel
theorem dX6_shownAt_18 : decode cX6_shownAt 18 = .ok (.ifCond .ne 9, 3) := by decide +kernel
theorem dX6_shownAt_21 : decode cX6_shownAt 21 = .ok (.iinc 3 (-1), 3) := by decide +kernel
theorem dX6_shownAt_24 : decode cX6_shownAt 24 = .ok (.goto (-17), 3) := by decide +kernel
theorem dX6_shownAt_27 : decode cX6_shownAt 27 = .ok (.iload_n 3, 1) := by decide +kernel
theorem dX6_shownAt_28 : decode cX6_shownAt 28 = .ok (.ifCond .ge 8, 3) := by decide +kernel
theorem dX6_shownAt_31 : decode cX6_shownAt 31 = .ok (.bipush (-9), 2) := by decide +kernel
theorem dX6_shownAt_33 : decode cX6_shownAt 33 = .ok (.goto 4, 3) := by decide +kernel
theorem dX6_shownAt_36 : decode cX6_shownAt 36 = .ok (.iload_n 3, 1) := by decide +kernel
theorem dX6_shownAt_37 : decode cX6_shownAt 37 = .ok (.ireturn, 1) := by decide +kernel
theorem dX6_penAt_0 : decode cX6_penAt 0 = .ok (.aload_n 0, 1) := by decide +kernel
theorem dX6_penAt_1 : decode cX6_penAt 1 = .ok (.iload_n 1, 1) := by decide +kernel
theorem dX6_penAt_2 : decode cX6_penAt 2 = .ok (.iload_n 2, 1) := by decide +kernel
theorem dX6_penAt_3 : decode cX6_penAt 3 = .ok (.invokevirtual 165, 3) := by decide +kernel
theorem dX6_penAt_6 : decode cX6_penAt 6 = .ok (.istore_n 3, 1) := by decide +kernel
theorem dX6_penAt_7 : decode cX6_penAt 7 = .ok (.iload_n 3, 1) := by decide +kernel
theorem dX6_penAt_8 : decode cX6_penAt 8 = .ok (.bipush (-9), 2) := by decide +kernel
theorem dX6_penAt_10 : decode cX6_penAt 10 = .ok (.if_icmp .ne 8, 3) := by decide +kernel
theorem dX6_penAt_13 : decode cX6_penAt 13 = .ok (.bipush (-9), 2) := by decide +kernel
theorem dX6_penAt_15 : decode cX6_penAt 15 = .ok (.goto 14, 3) := by decide +kernel
theorem dX6_penAt_18 : decode cX6_penAt 18 = .ok (.aload_n 0, 1) := by decide +kernel
theorem dX6_penAt_19 : decode cX6_penAt 19 = .ok (.getfield 19, 3) := by decide +kernel
theorem dX6_penAt_22 : decode cX6_penAt 22 = .ok (.bipush 6, 2) := by decide +kernel
theorem dX6_penAt_24 : decode cX6_penAt 24 = .ok (.iload_n 3, 1) := by decide +kernel
theorem dX6_penAt_25 : decode cX6_penAt 25 = .ok (.imul, 1) := by decide +kernel
theorem dX6_penAt_26 : decode cX6_penAt 26 = .ok (.iconst 4, 1) := by decide +kernel
theorem dX6_penAt_27 : decode cX6_penAt 27 = .ok (.iadd, 1) := by decide +kernel
theorem dX6_penAt_28 : decode cX6_penAt 28 = .ok (.iaload, 1) := by decide +kernel
theorem dX6_penAt_29 : decode cX6_penAt 29 = .ok (.ireturn, 1) := by decide +kernel
theorem dX6_penShown_0 : decode cX6_penShown 0 = .ok (.iconst 0, 1) := by decide +kernel
theorem dX6_penShown_1 : decode cX6_penShown 1 = .ok (.istore_n 2, 1) := by decide +kernel
theorem dX6_penShown_2 : decode cX6_penShown 2 = .ok (.iconst 0, 1) := by decide +kernel
theorem dX6_penShown_3 : decode cX6_penShown 3 = .ok (.istore_n 3, 1) := by decide +kernel
theorem dX6_penShown_4 : decode cX6_penShown 4 = .ok (.iload_n 3, 1) := by decide +kernel
theorem dX6_penShown_5 : decode cX6_penShown 5 = .ok (.sipush 360, 3) := by decide +kernel
theorem dX6_penShown_8 : decode cX6_penShown 8 = .ok (.if_icmp .ge 44, 3) := by decide +kernel
theorem dX6_penShown_11 : decode cX6_penShown 11 = .ok (.iconst 1, 1) := by decide +kernel
theorem dX6_penShown_12 : decode cX6_penShown 12 = .ok (.istore 4, 2) := by decide +kernel
theorem dX6_penShown_14 : decode cX6_penShown 14 = .ok (.iload 4, 2) := by decide +kernel
theorem dX6_penShown_16 : decode cX6_penShown 16 = .ok (.bipush 9, 2) := by decide +kernel
theorem dX6_penShown_18 : decode cX6_penShown 18 = .ok (.if_icmp .gt 28, 3) := by decide +kernel
theorem dX6_penShown_21 : decode cX6_penShown 21 = .ok (.iload_n 2, 1) := by decide +kernel
theorem dX6_penShown_22 : decode cX6_penShown 22 = .ok (.aload_n 0, 1) := by decide +kernel
theorem dX6_penShown_23 : decode cX6_penShown 23 = .ok (.iload_n 3, 1) := by decide +kernel
theorem dX6_penShown_24 : decode cX6_penShown 24 = .ok (.iload 4, 2) := by decide +kernel
theorem dX6_penShown_26 : decode cX6_penShown 26 = .ok (.invokevirtual 168, 3) := by decide +kernel
theorem dX6_penShown_29 : decode cX6_penShown 29 = .ok (.iload_n 1, 1) := by decide +kernel
theorem dX6_penShown_30 : decode cX6_penShown 30 = .ok (.if_icmp .ne 7, 3) := by decide +kernel
theorem dX6_penShown_33 : decode cX6_penShown 33 = .ok (.iconst 1, 1) := by decide +kernel
theorem dX6_penShown_34 : decode cX6_penShown 34 = .ok (.goto 4, 3) := by decide +kernel
theorem dX6_penShown_37 : decode cX6_penShown 37 = .ok (.iconst 0, 1) := by decide +kernel
theorem dX6_penShown_38 : decode cX6_penShown 38 = .ok (.iadd, 1) := by decide +kernel
theorem dX6_penShown_39 : decode cX6_penShown 39 = .ok (.istore_n 2, 1) := by decide +kernel
theorem dX6_penShown_40 : decode cX6_penShown 40 = .ok (.iinc 4 1, 3) := by decide +kernel
theorem dX6_penShown_43 : decode cX6_penShown 43 = .ok (.goto (-29), 3) := by decide +kernel
theorem dX6_penShown_46 : decode cX6_penShown 46 = .ok (.iinc 3 1, 3) := by decide +kernel
theorem dX6_penShown_49 : decode cX6_penShown 49 = .ok (.goto (-45), 3) := by decide +kernel
theorem dX6_penShown_52 : decode cX6_penShown 52 = .ok (.iload_n 2, 1) := by decide +kernel
theorem dX6_penShown_53 : decode cX6_penShown 53 = .ok (.ireturn, 1) := by decide +kernel
theorem dX6_pen_0 : decode cX6_pen 0 = .ok (.aload_n 0, 1) := by decide +kernel
theorem dX6_pen_1 : decode cX6_pen 1 = .ok (.iload_n 1, 1) := by decide +kernel
theorem dX6_pen_2 : decode cX6_pen 2 = .ok (.invokevirtual 171, 3) := by decide +kernel
theorem dX6_pen_5 : decode cX6_pen 5 = .ok (.ifCond .eq 12, 3) := by decide +kernel
theorem dX6_pen_8 : decode cX6_pen 8 = .ok (.iload_n 2, 1) := by decide +kernel
theorem dX6_pen_9 : decode cX6_pen 9 = .ok (.iconst 0, 1) := by decide +kernel
theorem dX6_pen_10 : decode cX6_pen 10 = .ok (.iconst 1, 1) := by decide +kernel
theorem dX6_pen_11 : decode cX6_pen 11 = .ok (.invokestatic 62, 3) := by decide +kernel
theorem dX6_pen_14 : decode cX6_pen 14 = .ok (.ifCond .ne 5, 3) := by decide +kernel
theorem dX6_pen_17 : decode cX6_pen 17 = .ok (.iconst (-1), 1) := by decide +kernel
theorem dX6_pen_18 : decode cX6_pen 18 = .ok (.ireturn, 1) := by decide +kernel
theorem dX6_pen_19 : decode cX6_pen 19 = .ok (.iload_n 2, 1) := by decide +kernel
theorem dX6_pen_20 : decode cX6_pen 20 = .ok (.ifCond .ne 12, 3) := by decide +kernel
theorem dX6_pen_23 : decode cX6_pen 23 = .ok (.aload_n 0, 1) := by decide +kernel
theorem dX6_pen_24 : decode cX6_pen 24 = .ok (.getfield 16, 3) := by decide +kernel
theorem dX6_pen_27 : decode cX6_pen 27 = .ok (.iload_n 1, 1) := by decide +kernel
theorem dX6_pen_28 : decode cX6_pen 28 = .ok (.iaload, 1) := by decide +kernel
theorem dX6_pen_29 : decode cX6_pen 29 = .ok (.goto 8, 3) := by decide +kernel
theorem dX6_pen_32 : decode cX6_pen 32 = .ok (.aload_n 0, 1) := by decide +kernel
theorem dX6_pen_33 : decode cX6_pen 33 = .ok (.iload_n 1, 1) := by decide +kernel
theorem dX6_pen_34 : decode cX6_pen 34 = .ok (.invokevirtual 174, 3) := by decide +kernel
theorem dX6_pen_37 : decode cX6_pen 37 = .ok (.ireturn, 1) := by decide +kernel
theorem dX6_curveShown_0 : decode cX6_curveShown 0 = .ok (.iconst 0, 1) := by decide +kernel
theorem dX6_curveShown_1 : decode cX6_curveShown 1 = .ok (.istore_n 2, 1) := by decide +kernel
theorem dX6_curveShown_2 : decode cX6_curveShown 2 = .ok (.iconst 0, 1) := by decide +kernel
theorem dX6_curveShown_3 : decode cX6_curveShown 3 = .ok (.istore_n 3, 1) := by decide +kernel
theorem dX6_curveShown_4 : decode cX6_curveShown 4 = .ok (.iload_n 3, 1) := by decide +kernel
theorem dX6_curveShown_5 : decode cX6_curveShown 5 = .ok (.sipush 360, 3) := by decide +kernel
theorem dX6_curveShown_8 : decode cX6_curveShown 8 = .ok (.if_icmp .ge 37, 3) := by decide +kernel
theorem dX6_curveShown_11 : decode cX6_curveShown 11 = .ok (.iload_n 2, 1) := by decide +kernel
theorem dX6_curveShown_12 : decode cX6_curveShown 12 = .ok (.aload_n 0, 1) := by decide +kernel
theorem dX6_curveShown_13 : decode cX6_curveShown 13 = .ok (.iload_n 3, 1) := by decide +kernel
theorem dX6_curveShown_14 : decode cX6_curveShown 14 = .ok (.aload_n 0, 1) := by decide +kernel
theorem dX6_curveShown_15 : decode cX6_curveShown 15 = .ok (.getfield 19, 3) := by decide +kernel
theorem dX6_curveShown_18 : decode cX6_curveShown 18 = .ok (.bipush 6, 2) := by decide +kernel
theorem dX6_curveShown_20 : decode cX6_curveShown 20 = .ok (.iload_n 1, 1) := by decide +kernel
theorem dX6_curveShown_21 : decode cX6_curveShown 21 = .ok (.imul, 1) := by decide +kernel
theorem dX6_curveShown_22 : decode cX6_curveShown 22 = .ok (.iconst 2, 1) := by decide +kernel
theorem dX6_curveShown_23 : decode cX6_curveShown 23 = .ok (.iadd, 1) := by decide +kernel
theorem dX6_curveShown_24 : decode cX6_curveShown 24 = .ok (.iaload, 1) := by decide +kernel
theorem dX6_curveShown_25 : decode cX6_curveShown 25 = .ok (.invokevirtual 165, 3) := by decide +kernel
theorem dX6_curveShown_28 : decode cX6_curveShown 28 = .ok (.iload_n 1, 1) := by decide +kernel
theorem dX6_curveShown_29 : decode cX6_curveShown 29 = .ok (.if_icmp .ne 7, 3) := by decide +kernel
theorem dX6_curveShown_32 : decode cX6_curveShown 32 = .ok (.iconst 1, 1) := by decide +kernel
theorem dX6_curveShown_33 : decode cX6_curveShown 33 = .ok (.goto 4, 3) := by decide +kernel
theorem dX6_curveShown_36 : decode cX6_curveShown 36 = .ok (.iconst 0, 1) := by decide +kernel
theorem dX6_curveShown_37 : decode cX6_curveShown 37 = .ok (.iadd, 1) := by decide +kernel
theorem dX6_curveShown_38 : decode cX6_curveShown 38 = .ok (.istore_n 2, 1) := by decide +kernel
theorem dX6_curveShown_39 : decode cX6_curveShown 39 = .ok (.iinc 3 1, 3) := by decide +kernel
theorem dX6_curveShown_42 : decode cX6_curveShown 42 = .ok (.goto (-38), 3) := by decide +kernel
theorem dX6_curveShown_45 : decode cX6_curveShown 45 = .ok (.iload_n 2, 1) := by decide +kernel
theorem dX6_curveShown_46 : decode cX6_curveShown 46 = .ok (.ireturn, 1) := by decide +kernel
theorem dX6_curve_0 : decode cX6_curve 0 = .ok (.aload_n 0, 1) := by decide +kernel
theorem dX6_curve_1 : decode cX6_curve 1 = .ok (.iload_n 1, 1) := by decide +kernel
theorem dX6_curve_2 : decode cX6_curve 2 = .ok (.invokevirtual 178, 3) := by decide +kernel
theorem dX6_curve_5 : decode cX6_curve 5 = .ok (.ifCond .eq 13, 3) := by decide +kernel
theorem dX6_curve_8 : decode cX6_curve 8 = .ok (.iload_n 2, 1) := by decide +kernel
theorem dX6_curve_9 : decode cX6_curve 9 = .ok (.iconst 0, 1) := by decide +kernel
theorem dX6_curve_10 : decode cX6_curve 10 = .ok (.bipush 6, 2) := by decide +kernel
theorem dX6_curve_12 : decode cX6_curve 12 = .ok (.invokestatic 62, 3) := by decide +kernel
theorem dX6_curve_15 : decode cX6_curve 15 = .ok (.ifCond .ne 5, 3) := by decide +kernel
theorem dX6_curve_18 : decode cX6_curve 18 = .ok (.iconst (-1), 1) := by decide +kernel
theorem dX6_curve_19 : decode cX6_curve 19 = .ok (.ireturn, 1) := by decide +kernel
theorem dX6_curve_20 : decode cX6_curve 20 = .ok (.iload_n 2, 1) := by decide +kernel
theorem dX6_curve_21 : decode cX6_curve 21 = .ok (.bipush 6, 2) := by decide +kernel
theorem dX6_curve_23 : decode cX6_curve 23 = .ok (.if_icmp .ge 17, 3) := by decide +kernel
theorem dX6_curve_26 : decode cX6_curve 26 = .ok (.aload_n 0, 1) := by decide +kernel
theorem dX6_curve_27 : decode cX6_curve 27 = .ok (.getfield 19, 3) := by decide +kernel
theorem dX6_curve_30 : decode cX6_curve 30 = .ok (.bipush 6, 2) := by decide +kernel
theorem dX6_curve_32 : decode cX6_curve 32 = .ok (.iload_n 1, 1) := by decide +kernel
theorem dX6_curve_33 : decode cX6_curve 33 = .ok (.imul, 1) := by decide +kernel
theorem dX6_curve_34 : decode cX6_curve 34 = .ok (.iload_n 2, 1) := by decide +kernel
theorem dX6_curve_35 : decode cX6_curve 35 = .ok (.iadd, 1) := by decide +kernel
theorem dX6_curve_36 : decode cX6_curve 36 = .ok (.iaload, 1) := by decide +kernel
theorem dX6_curve_37 : decode cX6_curve 37 = .ok (.goto 8, 3) := by decide +kernel
theorem dX6_curve_40 : decode cX6_curve 40 = .ok (.aload_n 0, 1) := by decide +kernel
theorem dX6_curve_41 : decode cX6_curve 41 = .ok (.iload_n 1, 1) := by decide +kernel
theorem dX6_curve_42 : decode cX6_curve 42 = .ok (.invokevirtual 181, 3) := by decide +kernel
theorem dX6_curve_45 : decode cX6_curve 45 = .ok (.ireturn, 1) := by decide +kernel
theorem dX6_lays_0 : decode cX6_lays 0 = .ok (.aload_n 1, 1) := by decide +kernel
theorem dX6_lays_1 : decode cX6_lays 1 = .ok (.iload_n 2, 1) := by decide +kernel
theorem dX6_lays_2 : decode cX6_lays 2 = .ok (.aload_n 0, 1) := by decide +kernel
theorem dX6_lays_3 : decode cX6_lays 3 = .ok (.getfield 120, 3) := by decide +kernel
theorem dX6_lays_6 : decode cX6_lays 6 = .ok (.iastore, 1) := by decide +kernel
theorem dX6_lays_7 : decode cX6_lays 7 = .ok (.aload_n 1, 1) := by decide +kernel
theorem dX6_lays_8 : decode cX6_lays 8 = .ok (.iload_n 2, 1) := by decide +kernel
theorem dX6_lays_9 : decode cX6_lays 9 = .ok (.iconst 1, 1) := by decide +kernel
theorem dX6_lays_10 : decode cX6_lays 10 = .ok (.iadd, 1) := by decide +kernel
theorem dX6_lays_11 : decode cX6_lays 11 = .ok (.aload_n 0, 1) := by decide +kernel
theorem dX6_lays_12 : decode cX6_lays 12 = .ok (.getfield 72, 3) := by decide +kernel
theorem dX6_lays_15 : decode cX6_lays 15 = .ok (.iastore, 1) := by decide +kernel
theorem dX6_lays_16 : decode cX6_lays 16 = .ok (.iconst 0, 1) := by decide +kernel
theorem dX6_lays_17 : decode cX6_lays 17 = .ok (.istore_n 3, 1) := by decide +kernel
theorem dX6_lays_18 : decode cX6_lays 18 = .ok (.iload_n 3, 1) := by decide +kernel
theorem dX6_lays_19 : decode cX6_lays 19 = .ok (.iconst 4, 1) := by decide +kernel
theorem dX6_lays_20 : decode cX6_lays 20 = .ok (.if_icmp .ge 22, 3) := by decide +kernel
theorem dX6_lays_23 : decode cX6_lays 23 = .ok (.aload_n 1, 1) := by decide +kernel
theorem dX6_lays_24 : decode cX6_lays 24 = .ok (.iload_n 2, 1) := by decide +kernel
theorem dX6_lays_25 : decode cX6_lays 25 = .ok (.iconst 2, 1) := by decide +kernel
theorem dX6_lays_26 : decode cX6_lays 26 = .ok (.iadd, 1) := by decide +kernel
theorem dX6_lays_27 : decode cX6_lays 27 = .ok (.iload_n 3, 1) := by decide +kernel
theorem dX6_lays_28 : decode cX6_lays 28 = .ok (.iadd, 1) := by decide +kernel
theorem dX6_lays_29 : decode cX6_lays 29 = .ok (.aload_n 0, 1) := by decide +kernel
theorem dX6_lays_30 : decode cX6_lays 30 = .ok (.getfield 16, 3) := by decide +kernel
theorem dX6_lays_33 : decode cX6_lays 33 = .ok (.iload_n 3, 1) := by decide +kernel
theorem dX6_lays_34 : decode cX6_lays 34 = .ok (.iaload, 1) := by decide +kernel
theorem dX6_lays_35 : decode cX6_lays 35 = .ok (.iastore, 1) := by decide +kernel
theorem dX6_lays_36 : decode cX6_lays 36 = .ok (.iinc 3 1, 3) := by decide +kernel
theorem dX6_lays_39 : decode cX6_lays 39 = .ok (.goto (-21), 3) := by decide +kernel
theorem dX6_lays_42 : decode cX6_lays 42 = .ok (.iconst 0, 1) := by decide +kernel
theorem dX6_lays_43 : decode cX6_lays 43 = .ok (.istore_n 3, 1) := by decide +kernel
theorem dX6_lays_44 : decode cX6_lays 44 = .ok (.iload_n 3, 1) := by decide +kernel
theorem dX6_lays_45 : decode cX6_lays 45 = .ok (.bipush 72, 2) := by decide +kernel
theorem dX6_lays_47 : decode cX6_lays 47 = .ok (.if_icmp .ge 23, 3) := by decide +kernel
theorem dX6_lays_50 : decode cX6_lays 50 = .ok (.aload_n 1, 1) := by decide +kernel
theorem dX6_lays_51 : decode cX6_lays 51 = .ok (.iload_n 2, 1) := by decide +kernel
theorem dX6_lays_52 : decode cX6_lays 52 = .ok (.bipush 6, 2) := by decide +kernel
theorem dX6_lays_54 : decode cX6_lays 54 = .ok (.iadd, 1) := by decide +kernel
theorem dX6_lays_55 : decode cX6_lays 55 = .ok (.iload_n 3, 1) := by decide +kernel
theorem dX6_lays_56 : decode cX6_lays 56 = .ok (.iadd, 1) := by decide +kernel
theorem dX6_lays_57 : decode cX6_lays 57 = .ok (.aload_n 0, 1) := by decide +kernel
theorem dX6_lays_58 : decode cX6_lays 58 = .ok (.getfield 19, 3) := by decide +kernel
theorem dX6_lays_61 : decode cX6_lays 61 = .ok (.iload_n 3, 1) := by decide +kernel
theorem dX6_lays_62 : decode cX6_lays 62 = .ok (.iaload, 1) := by decide +kernel
theorem dX6_lays_63 : decode cX6_lays 63 = .ok (.iastore, 1) := by decide +kernel
theorem dX6_lays_64 : decode cX6_lays 64 = .ok (.iinc 3 1, 3) := by decide +kernel
theorem dX6_lays_67 : decode cX6_lays 67 = .ok (.goto (-23), 3) := by decide +kernel
theorem dX6_lays_70 : decode cX6_lays 70 = .ok (.return_, 1) := by decide +kernel
theorem dX6_takes_0 : decode cX6_takes 0 = .ok (.aload_n 0, 1) := by decide +kernel
theorem dX6_takes_1 : decode cX6_takes 1 = .ok (.aload_n 1, 1) := by decide +kernel
theorem dX6_takes_2 : decode cX6_takes 2 = .ok (.iload_n 2, 1) := by decide +kernel
theorem dX6_takes_3 : decode cX6_takes 3 = .ok (.iaload, 1) := by decide +kernel
theorem dX6_takes_4 : decode cX6_takes 4 = .ok (.putfield 120, 3) := by decide +kernel
theorem dX6_takes_7 : decode cX6_takes 7 = .ok (.aload_n 0, 1) := by decide +kernel
theorem dX6_takes_8 : decode cX6_takes 8 = .ok (.aload_n 1, 1) := by decide +kernel
theorem dX6_takes_9 : decode cX6_takes 9 = .ok (.iload_n 2, 1) := by decide +kernel
theorem dX6_takes_10 : decode cX6_takes 10 = .ok (.iconst 1, 1) := by decide +kernel
theorem dX6_takes_11 : decode cX6_takes 11 = .ok (.iadd, 1) := by decide +kernel
theorem dX6_takes_12 : decode cX6_takes 12 = .ok (.iaload, 1) := by decide +kernel
theorem dX6_takes_13 : decode cX6_takes 13 = .ok (.putfield 72, 3) := by decide +kernel
theorem dX6_takes_16 : decode cX6_takes 16 = .ok (.iconst 0, 1) := by decide +kernel
theorem dX6_takes_17 : decode cX6_takes 17 = .ok (.istore_n 3, 1) := by decide +kernel
theorem dX6_takes_18 : decode cX6_takes 18 = .ok (.iload_n 3, 1) := by decide +kernel
theorem dX6_takes_19 : decode cX6_takes 19 = .ok (.iconst 4, 1) := by decide +kernel
theorem dX6_takes_20 : decode cX6_takes 20 = .ok (.if_icmp .ge 22, 3) := by decide +kernel
theorem dX6_takes_23 : decode cX6_takes 23 = .ok (.aload_n 0, 1) := by decide +kernel
theorem dX6_takes_24 : decode cX6_takes 24 = .ok (.getfield 16, 3) := by decide +kernel
theorem dX6_takes_27 : decode cX6_takes 27 = .ok (.iload_n 3, 1) := by decide +kernel
theorem dX6_takes_28 : decode cX6_takes 28 = .ok (.aload_n 1, 1) := by decide +kernel
theorem dX6_takes_29 : decode cX6_takes 29 = .ok (.iload_n 2, 1) := by decide +kernel
theorem dX6_takes_30 : decode cX6_takes 30 = .ok (.iconst 2, 1) := by decide +kernel
theorem dX6_takes_31 : decode cX6_takes 31 = .ok (.iadd, 1) := by decide +kernel
theorem dX6_takes_32 : decode cX6_takes 32 = .ok (.iload_n 3, 1) := by decide +kernel
theorem dX6_takes_33 : decode cX6_takes 33 = .ok (.iadd, 1) := by decide +kernel
theorem dX6_takes_34 : decode cX6_takes 34 = .ok (.iaload, 1) := by decide +kernel
theorem dX6_takes_35 : decode cX6_takes 35 = .ok (.iastore, 1) := by decide +kernel
theorem dX6_takes_36 : decode cX6_takes 36 = .ok (.iinc 3 1, 3) := by decide +kernel
theorem dX6_takes_39 : decode cX6_takes 39 = .ok (.goto (-21), 3) := by decide +kernel
theorem dX6_takes_42 : decode cX6_takes 42 = .ok (.iconst 0, 1) := by decide +kernel
theorem dX6_takes_43 : decode cX6_takes 43 = .ok (.istore_n 3, 1) := by decide +kernel
theorem dX6_takes_44 : decode cX6_takes 44 = .ok (.iload_n 3, 1) := by decide +kernel
theorem dX6_takes_45 : decode cX6_takes 45 = .ok (.bipush 72, 2) := by decide +kernel
theorem dX6_takes_47 : decode cX6_takes 47 = .ok (.if_icmp .ge 23, 3) := by decide +kernel
theorem dX6_takes_50 : decode cX6_takes 50 = .ok (.aload_n 0, 1) := by decide +kernel
theorem dX6_takes_51 : decode cX6_takes 51 = .ok (.getfield 19, 3) := by decide +kernel
theorem dX6_takes_54 : decode cX6_takes 54 = .ok (.iload_n 3, 1) := by decide +kernel
theorem dX6_takes_55 : decode cX6_takes 55 = .ok (.aload_n 1, 1) := by decide +kernel
theorem dX6_takes_56 : decode cX6_takes 56 = .ok (.iload_n 2, 1) := by decide +kernel
theorem dX6_takes_57 : decode cX6_takes 57 = .ok (.bipush 6, 2) := by decide +kernel
theorem dX6_takes_59 : decode cX6_takes 59 = .ok (.iadd, 1) := by decide +kernel
theorem dX6_takes_60 : decode cX6_takes 60 = .ok (.iload_n 3, 1) := by decide +kernel
theorem dX6_takes_61 : decode cX6_takes 61 = .ok (.iadd, 1) := by decide +kernel
theorem dX6_takes_62 : decode cX6_takes 62 = .ok (.iaload, 1) := by decide +kernel
theorem dX6_takes_63 : decode cX6_takes 63 = .ok (.iastore, 1) := by decide +kernel
theorem dX6_takes_64 : decode cX6_takes 64 = .ok (.iinc 3 1, 3) := by decide +kernel
theorem dX6_takes_67 : decode cX6_takes 67 = .ok (.goto (-23), 3) := by decide +kernel
theorem dX6_takes_70 : decode cX6_takes 70 = .ok (.return_, 1) := by decide +kernel
theorem dX6_notes_0 : decode cX6_notes 0 = .ok (.aload_n 0, 1) := by decide +kernel
theorem dX6_notes_1 : decode cX6_notes 1 = .ok (.getfield 126, 3) := by decide +kernel
theorem dX6_notes_4 : decode cX6_notes 4 = .ok (.bipush 10, 2) := by decide +kernel
theorem dX6_notes_6 : decode cX6_notes 6 = .ok (.if_icmp .ne 43, 3) := by decide +kernel
theorem dX6_notes_9 : decode cX6_notes 9 = .ok (.iconst 0, 1) := by decide +kernel
theorem dX6_notes_10 : decode cX6_notes 10 = .ok (.istore_n 1, 1) := by decide +kernel
theorem dX6_notes_11 : decode cX6_notes 11 = .ok (.iload_n 1, 1) := by decide +kernel
theorem dX6_notes_12 : decode cX6_notes 12 = .ok (.sipush 702, 3) := by decide +kernel
theorem dX6_notes_15 : decode cX6_notes 15 = .ok (.if_icmp .ge 24, 3) := by decide +kernel
theorem dX6_notes_18 : decode cX6_notes 18 = .ok (.aload_n 0, 1) := by decide +kernel
theorem dX6_notes_19 : decode cX6_notes 19 = .ok (.getfield 40, 3) := by decide +kernel
theorem dX6_notes_22 : decode cX6_notes 22 = .ok (.iload_n 1, 1) := by decide +kernel
theorem dX6_notes_23 : decode cX6_notes 23 = .ok (.aload_n 0, 1) := by decide +kernel
theorem dX6_notes_24 : decode cX6_notes 24 = .ok (.getfield 40, 3) := by decide +kernel
theorem dX6_notes_27 : decode cX6_notes 27 = .ok (.iload_n 1, 1) := by decide +kernel
theorem dX6_notes_28 : decode cX6_notes 28 = .ok (.bipush 78, 2) := by decide +kernel
theorem dX6_notes_30 : decode cX6_notes 30 = .ok (.iadd, 1) := by decide +kernel
theorem dX6_notes_31 : decode cX6_notes 31 = .ok (.iaload, 1) := by decide +kernel
theorem dX6_notes_32 : decode cX6_notes 32 = .ok (.iastore, 1) := by decide +kernel
theorem dX6_notes_33 : decode cX6_notes 33 = .ok (.iinc 1 1, 3) := by decide +kernel
theorem dX6_notes_36 : decode cX6_notes 36 = .ok (.goto (-25), 3) := by decide +kernel
theorem dX6_notes_39 : decode cX6_notes 39 = .ok (.aload_n 0, 1) := by decide +kernel
theorem dX6_notes_40 : decode cX6_notes 40 = .ok (.dup, 1) := by decide +kernel
theorem dX6_notes_41 : decode cX6_notes 41 = .ok (.getfield 126, 3) := by decide +kernel
theorem dX6_notes_44 : decode cX6_notes 44 = .ok (.iconst 1, 1) := by decide +kernel
theorem dX6_notes_45 : decode cX6_notes 45 = .ok (.isub, 1) := by decide +kernel
theorem dX6_notes_46 : decode cX6_notes 46 = .ok (.putfield 126, 3) := by decide +kernel
theorem dX6_notes_49 : decode cX6_notes 49 = .ok (.aload_n 0, 1) := by decide +kernel
theorem dX6_notes_50 : decode cX6_notes 50 = .ok (.aload_n 0, 1) := by decide +kernel
theorem dX6_notes_51 : decode cX6_notes 51 = .ok (.getfield 40, 3) := by decide +kernel
theorem dX6_notes_54 : decode cX6_notes 54 = .ok (.bipush 78, 2) := by decide +kernel
theorem dX6_notes_56 : decode cX6_notes 56 = .ok (.aload_n 0, 1) := by decide +kernel
theorem dX6_notes_57 : decode cX6_notes 57 = .ok (.getfield 126, 3) := by decide +kernel
theorem dX6_notes_60 : decode cX6_notes 60 = .ok (.imul, 1) := by decide +kernel
theorem dX6_notes_61 : decode cX6_notes 61 = .ok (.invokevirtual 184, 3) := by decide +kernel
theorem dX6_notes_64 : decode cX6_notes 64 = .ok (.aload_n 0, 1) := by decide +kernel
theorem dX6_notes_65 : decode cX6_notes 65 = .ok (.dup, 1) := by decide +kernel
theorem dX6_notes_66 : decode cX6_notes 66 = .ok (.getfield 126, 3) := by decide +kernel
theorem dX6_notes_69 : decode cX6_notes 69 = .ok (.iconst 1, 1) := by decide +kernel
theorem dX6_notes_70 : decode cX6_notes 70 = .ok (.iadd, 1) := by decide +kernel
theorem dX6_notes_71 : decode cX6_notes 71 = .ok (.putfield 126, 3) := by decide +kernel
theorem dX6_notes_74 : decode cX6_notes 74 = .ok (.return_, 1) := by decide +kernel
theorem dX6_draws_0 : decode cX6_draws 0 = .ok (.aload_n 0, 1) := by decide +kernel
theorem dX6_draws_1 : decode cX6_draws 1 = .ok (.iload_n 1, 1) := by decide +kernel
theorem dX6_draws_2 : decode cX6_draws 2 = .ok (.invokevirtual 139, 3) := by decide +kernel
theorem dX6_draws_5 : decode cX6_draws 5 = .ok (.ifCond .eq 47, 3) := by decide +kernel
theorem dX6_draws_8 : decode cX6_draws 8 = .ok (.aload_n 0, 1) := by decide +kernel
theorem dX6_draws_9 : decode cX6_draws 9 = .ok (.iload_n 2, 1) := by decide +kernel
theorem dX6_draws_10 : decode cX6_draws 10 = .ok (.invokevirtual 143, 3) := by decide +kernel
theorem dX6_draws_13 : decode cX6_draws 13 = .ok (.ifCond .eq 39, 3) := by decide +kernel
theorem dX6_draws_16 : decode cX6_draws 16 = .ok (.iload_n 3, 1) := by decide +kernel
theorem dX6_draws_17 : decode cX6_draws 17 = .ok (.iconst 1, 1) := by decide +kernel
theorem dX6_draws_18 : decode cX6_draws 18 = .ok (.bipush 9, 2) := by decide +kernel
theorem dX6_draws_20 : decode cX6_draws 20 = .ok (.invokestatic 62, 3) := by decide +kernel
theorem dX6_draws_23 : decode cX6_draws 23 = .ok (.ifCond .eq 29, 3) := by decide +kernel
theorem dX6_draws_26 : decode cX6_draws 26 = .ok (.iload 4, 2) := by decide +kernel
theorem dX6_draws_28 : decode cX6_draws 28 = .ok (.iconst 0, 1) := by decide +kernel
theorem dX6_draws_29 : decode cX6_draws 29 = .ok (.aload_n 0, 1) := by decide +kernel
theorem dX6_draws_30 : decode cX6_draws 30 = .ok (.getfield 7, 3) := by decide +kernel
theorem dX6_draws_33 : decode cX6_draws 33 = .ok (.iload_n 1, 1) := by decide +kernel
theorem dX6_draws_34 : decode cX6_draws 34 = .ok (.iaload, 1) := by decide +kernel
theorem dX6_draws_35 : decode cX6_draws 35 = .ok (.iconst 1, 1) := by decide +kernel
theorem dX6_draws_36 : decode cX6_draws 36 = .ok (.isub, 1) := by decide +kernel
theorem dX6_draws_37 : decode cX6_draws 37 = .ok (.invokestatic 62, 3) := by decide +kernel
theorem dX6_draws_40 : decode cX6_draws 40 = .ok (.ifCond .eq 12, 3) := by decide +kernel
theorem dX6_draws_43 : decode cX6_draws 43 = .ok (.aload_n 0, 1) := by decide +kernel
theorem dX6_draws_44 : decode cX6_draws 44 = .ok (.iload 5, 2) := by decide +kernel
theorem dX6_draws_46 : decode cX6_draws 46 = .ok (.invokevirtual 171, 3) := by decide +kernel
theorem dX6_draws_49 : decode cX6_draws 49 = .ok (.ifCond .ne 5, 3) := by decide +kernel
theorem dX6_draws_52 : decode cX6_draws 52 = .ok (.iconst (-1), 1) := by decide +kernel
theorem dX6_draws_53 : decode cX6_draws 53 = .ok (.ireturn, 1) := by decide +kernel
theorem dX6_draws_54 : decode cX6_draws 54 = .ok (.aload_n 0, 1) := by decide +kernel
theorem dX6_draws_55 : decode cX6_draws 55 = .ok (.iload_n 1, 1) := by decide +kernel
theorem dX6_draws_56 : decode cX6_draws 56 = .ok (.iload_n 2, 1) := by decide +kernel
theorem dX6_draws_57 : decode cX6_draws 57 = .ok (.invokevirtual 146, 3) := by decide +kernel
theorem dX6_draws_60 : decode cX6_draws 60 = .ok (.ifCond .eq 19, 3) := by decide +kernel
theorem dX6_draws_63 : decode cX6_draws 63 = .ok (.aload_n 0, 1) := by decide +kernel
theorem dX6_draws_64 : decode cX6_draws 64 = .ok (.iload_n 1, 1) := by decide +kernel
theorem dX6_draws_65 : decode cX6_draws 65 = .ok (.iload_n 2, 1) := by decide +kernel
theorem dX6_draws_66 : decode cX6_draws 66 = .ok (.invokevirtual 152, 3) := by decide +kernel
theorem dX6_draws_69 : decode cX6_draws 69 = .ok (.aload_n 0, 1) := by decide +kernel
theorem dX6_draws_70 : decode cX6_draws 70 = .ok (.getfield 16, 3) := by decide +kernel
theorem dX6_draws_73 : decode cX6_draws 73 = .ok (.iload 5, 2) := by decide +kernel
theorem dX6_draws_75 : decode cX6_draws 75 = .ok (.iaload, 1) := by decide +kernel
theorem dX6_draws_76 : decode cX6_draws 76 = .ok (.if_icmp .le 6, 3) := by decide +kernel
theorem dX6_draws_79 : decode cX6_draws 79 = .ok (.bipush (-2), 2) := by decide +kernel
theorem dX6_draws_81 : decode cX6_draws 81 = .ok (.ireturn, 1) := by decide +kernel
theorem dX6_draws_82 : decode cX6_draws 82 = .ok (.aload_n 0, 1) := by decide +kernel
theorem dX6_draws_83 : decode cX6_draws 83 = .ok (.getfield 72, 3) := by decide +kernel
theorem dX6_draws_86 : decode cX6_draws 86 = .ok (.bipush 12, 2) := by decide +kernel
theorem dX6_draws_88 : decode cX6_draws 88 = .ok (.if_icmp .ne 6, 3) := by decide +kernel
theorem dX6_draws_91 : decode cX6_draws 91 = .ok (.bipush (-3), 2) := by decide +kernel
theorem dX6_draws_93 : decode cX6_draws 93 = .ok (.ireturn, 1) := by decide +kernel
theorem dX6_draws_94 : decode cX6_draws 94 = .ok (.aload_n 0, 1) := by decide +kernel
theorem dX6_draws_95 : decode cX6_draws 95 = .ok (.invokevirtual 188, 3) := by decide +kernel
theorem dX6_draws_98 : decode cX6_draws 98 = .ok (.bipush 6, 2) := by decide +kernel
theorem dX6_draws_100 : decode cX6_draws 100 = .ok (.aload_n 0, 1) := by decide +kernel
theorem dX6_draws_101 : decode cX6_draws 101 = .ok (.getfield 72, 3) := by decide +kernel
theorem dX6_draws_104 : decode cX6_draws 104 = .ok (.imul, 1) := by decide +kernel
theorem dX6_draws_105 : decode cX6_draws 105 = .ok (.istore 6, 2) := by decide +kernel
theorem dX6_draws_107 : decode cX6_draws 107 = .ok (.aload_n 0, 1) := by decide +kernel
theorem dX6_draws_108 : decode cX6_draws 108 = .ok (.getfield 19, 3) := by decide +kernel
theorem dX6_draws_111 : decode cX6_draws 111 = .ok (.iload 6, 2) := by decide +kernel
theorem dX6_draws_113 : decode cX6_draws 113 = .ok (.iload_n 1, 1) := by decide +kernel
theorem dX6_draws_114 : decode cX6_draws 114 = .ok (.iastore, 1) := by decide +kernel
theorem dX6_draws_115 : decode cX6_draws 115 = .ok (.aload_n 0, 1) := by decide +kernel
theorem dX6_draws_116 : decode cX6_draws 116 = .ok (.getfield 19, 3) := by decide +kernel
theorem dX6_draws_119 : decode cX6_draws 119 = .ok (.iload 6, 2) := by decide +kernel
theorem dX6_draws_121 : decode cX6_draws 121 = .ok (.iconst 1, 1) := by decide +kernel
theorem dX6_draws_122 : decode cX6_draws 122 = .ok (.iadd, 1) := by decide +kernel
theorem dX6_draws_123 : decode cX6_draws 123 = .ok (.iload_n 2, 1) := by decide +kernel
theorem dX6_draws_124 : decode cX6_draws 124 = .ok (.iastore, 1) := by decide +kernel
theorem dX6_draws_125 : decode cX6_draws 125 = .ok (.aload_n 0, 1) := by decide +kernel
theorem dX6_draws_126 : decode cX6_draws 126 = .ok (.getfield 19, 3) := by decide +kernel
theorem dX6_draws_129 : decode cX6_draws 129 = .ok (.iload 6, 2) := by decide +kernel
theorem dX6_draws_131 : decode cX6_draws 131 = .ok (.iconst 2, 1) := by decide +kernel
theorem dX6_draws_132 : decode cX6_draws 132 = .ok (.iadd, 1) := by decide +kernel
theorem dX6_draws_133 : decode cX6_draws 133 = .ok (.iload_n 3, 1) := by decide +kernel
theorem dX6_draws_134 : decode cX6_draws 134 = .ok (.iastore, 1) := by decide +kernel
theorem dX6_draws_135 : decode cX6_draws 135 = .ok (.aload_n 0, 1) := by decide +kernel
theorem dX6_draws_136 : decode cX6_draws 136 = .ok (.getfield 19, 3) := by decide +kernel
theorem dX6_draws_139 : decode cX6_draws 139 = .ok (.iload 6, 2) := by decide +kernel
theorem dX6_draws_141 : decode cX6_draws 141 = .ok (.iconst 3, 1) := by decide +kernel
theorem dX6_draws_142 : decode cX6_draws 142 = .ok (.iadd, 1) := by decide +kernel
theorem dX6_draws_143 : decode cX6_draws 143 = .ok (.iload 4, 2) := by decide +kernel
theorem dX6_draws_145 : decode cX6_draws 145 = .ok (.iastore, 1) := by decide +kernel
theorem dX6_draws_146 : decode cX6_draws 146 = .ok (.aload_n 0, 1) := by decide +kernel
theorem dX6_draws_147 : decode cX6_draws 147 = .ok (.getfield 19, 3) := by decide +kernel
theorem dX6_draws_150 : decode cX6_draws 150 = .ok (.iload 6, 2) := by decide +kernel
theorem dX6_draws_152 : decode cX6_draws 152 = .ok (.iconst 4, 1) := by decide +kernel
theorem dX6_draws_153 : decode cX6_draws 153 = .ok (.iadd, 1) := by decide +kernel
theorem dX6_draws_154 : decode cX6_draws 154 = .ok (.iload 5, 2) := by decide +kernel
theorem dX6_draws_156 : decode cX6_draws 156 = .ok (.iastore, 1) := by decide +kernel
theorem dX6_draws_157 : decode cX6_draws 157 = .ok (.aload_n 0, 1) := by decide +kernel
theorem dX6_draws_158 : decode cX6_draws 158 = .ok (.getfield 19, 3) := by decide +kernel
theorem dX6_draws_161 : decode cX6_draws 161 = .ok (.iload 6, 2) := by decide +kernel
theorem dX6_draws_163 : decode cX6_draws 163 = .ok (.iconst 5, 1) := by decide +kernel
theorem dX6_draws_164 : decode cX6_draws 164 = .ok (.iadd, 1) := by decide +kernel
theorem dX6_draws_165 : decode cX6_draws 165 = .ok (.aload_n 0, 1) := by decide +kernel
theorem dX6_draws_166 : decode cX6_draws 166 = .ok (.getfield 120, 3) := by decide +kernel
theorem dX6_draws_169 : decode cX6_draws 169 = .ok (.iastore, 1) := by decide +kernel
theorem dX6_draws_170 : decode cX6_draws 170 = .ok (.aload_n 0, 1) := by decide +kernel
theorem dX6_draws_171 : decode cX6_draws 171 = .ok (.getfield 16, 3) := by decide +kernel
theorem dX6_draws_174 : decode cX6_draws 174 = .ok (.iload 5, 2) := by decide +kernel
theorem dX6_draws_176 : decode cX6_draws 176 = .ok (.dup2, 1) := by decide +kernel
theorem dX6_draws_177 : decode cX6_draws 177 = .ok (.iaload, 1) := by decide +kernel
theorem dX6_draws_178 : decode cX6_draws 178 = .ok (.aload_n 0, 1) := by decide +kernel
theorem dX6_draws_179 : decode cX6_draws 179 = .ok (.iload_n 1, 1) := by decide +kernel
theorem dX6_draws_180 : decode cX6_draws 180 = .ok (.iload_n 2, 1) := by decide +kernel
theorem dX6_draws_181 : decode cX6_draws 181 = .ok (.invokevirtual 152, 3) := by decide +kernel
theorem dX6_draws_184 : decode cX6_draws 184 = .ok (.isub, 1) := by decide +kernel
theorem dX6_draws_185 : decode cX6_draws 185 = .ok (.iastore, 1) := by decide +kernel
theorem dX6_draws_186 : decode cX6_draws 186 = .ok (.aload_n 0, 1) := by decide +kernel
theorem dX6_draws_187 : decode cX6_draws 187 = .ok (.dup, 1) := by decide +kernel
theorem dX6_draws_188 : decode cX6_draws 188 = .ok (.getfield 72, 3) := by decide +kernel
theorem dX6_draws_191 : decode cX6_draws 191 = .ok (.iconst 1, 1) := by decide +kernel
theorem dX6_draws_192 : decode cX6_draws 192 = .ok (.iadd, 1) := by decide +kernel
theorem dX6_draws_193 : decode cX6_draws 193 = .ok (.putfield 72, 3) := by decide +kernel
theorem dX6_draws_196 : decode cX6_draws 196 = .ok (.aload_n 0, 1) := by decide +kernel
theorem dX6_draws_197 : decode cX6_draws 197 = .ok (.getfield 72, 3) := by decide +kernel
theorem dX6_draws_200 : decode cX6_draws 200 = .ok (.iconst 1, 1) := by decide +kernel
theorem dX6_draws_201 : decode cX6_draws 201 = .ok (.isub, 1) := by decide +kernel
theorem dX6_draws_202 : decode cX6_draws 202 = .ok (.ireturn, 1) := by decide +kernel
theorem dX6_rubs_0 : decode cX6_rubs 0 = .ok (.aload_n 0, 1) := by decide +kernel
theorem dX6_rubs_1 : decode cX6_rubs 1 = .ok (.iload_n 1, 1) := by decide +kernel
theorem dX6_rubs_2 : decode cX6_rubs 2 = .ok (.invokevirtual 178, 3) := by decide +kernel
theorem dX6_rubs_5 : decode cX6_rubs 5 = .ok (.ifCond .ne 5, 3) := by decide +kernel
theorem dX6_rubs_8 : decode cX6_rubs 8 = .ok (.iconst (-1), 1) := by decide +kernel
theorem dX6_rubs_9 : decode cX6_rubs 9 = .ok (.ireturn, 1) := by decide +kernel
theorem dX6_rubs_10 : decode cX6_rubs 10 = .ok (.aload_n 0, 1) := by decide +kernel
theorem dX6_rubs_11 : decode cX6_rubs 11 = .ok (.invokevirtual 188, 3) := by decide +kernel
theorem dX6_rubs_14 : decode cX6_rubs 14 = .ok (.aload_n 0, 1) := by decide +kernel
theorem dX6_rubs_15 : decode cX6_rubs 15 = .ok (.dup, 1) := by decide +kernel
theorem dX6_rubs_16 : decode cX6_rubs 16 = .ok (.getfield 72, 3) := by decide +kernel
theorem dX6_rubs_19 : decode cX6_rubs 19 = .ok (.iconst 1, 1) := by decide +kernel
theorem dX6_rubs_20 : decode cX6_rubs 20 = .ok (.isub, 1) := by decide +kernel
theorem dX6_rubs_21 : decode cX6_rubs 21 = .ok (.putfield 72, 3) := by decide +kernel
theorem dX6_rubs_24 : decode cX6_rubs 24 = .ok (.bipush 6, 2) := by decide +kernel
theorem dX6_rubs_26 : decode cX6_rubs 26 = .ok (.iload_n 1, 1) := by decide +kernel
theorem dX6_rubs_27 : decode cX6_rubs 27 = .ok (.imul, 1) := by decide +kernel
theorem dX6_rubs_28 : decode cX6_rubs 28 = .ok (.istore_n 2, 1) := by decide +kernel
theorem dX6_rubs_29 : decode cX6_rubs 29 = .ok (.iload_n 2, 1) := by decide +kernel
theorem dX6_rubs_30 : decode cX6_rubs 30 = .ok (.bipush 6, 2) := by decide +kernel
theorem dX6_rubs_32 : decode cX6_rubs 32 = .ok (.aload_n 0, 1) := by decide +kernel
theorem dX6_rubs_33 : decode cX6_rubs 33 = .ok (.getfield 72, 3) := by decide +kernel
theorem dX6_rubs_36 : decode cX6_rubs 36 = .ok (.imul, 1) := by decide +kernel
theorem dX6_rubs_37 : decode cX6_rubs 37 = .ok (.if_icmp .ge 24, 3) := by decide +kernel
theorem dX6_rubs_40 : decode cX6_rubs 40 = .ok (.aload_n 0, 1) := by decide +kernel
theorem dX6_rubs_41 : decode cX6_rubs 41 = .ok (.getfield 19, 3) := by decide +kernel
theorem dX6_rubs_44 : decode cX6_rubs 44 = .ok (.iload_n 2, 1) := by decide +kernel
theorem dX6_rubs_45 : decode cX6_rubs 45 = .ok (.aload_n 0, 1) := by decide +kernel
theorem dX6_rubs_46 : decode cX6_rubs 46 = .ok (.getfield 19, 3) := by decide +kernel
theorem dX6_rubs_49 : decode cX6_rubs 49 = .ok (.iload_n 2, 1) := by decide +kernel
