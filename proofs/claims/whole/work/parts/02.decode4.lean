theorem dX6_rubs_50 : decode cX6_rubs 50 = .ok (.bipush 6, 2) := by decide +kernel
theorem dX6_rubs_52 : decode cX6_rubs 52 = .ok (.iadd, 1) := by decide +kernel
theorem dX6_rubs_53 : decode cX6_rubs 53 = .ok (.iaload, 1) := by decide +kernel
theorem dX6_rubs_54 : decode cX6_rubs 54 = .ok (.iastore, 1) := by decide +kernel
theorem dX6_rubs_55 : decode cX6_rubs 55 = .ok (.iinc 2 1, 3) := by decide +kernel
theorem dX6_rubs_58 : decode cX6_rubs 58 = .ok (.goto (-29), 3) := by decide +kernel
theorem dX6_rubs_61 : decode cX6_rubs 61 = .ok (.aload_n 0, 1) := by decide +kernel
theorem dX6_rubs_62 : decode cX6_rubs 62 = .ok (.getfield 72, 3) := by decide +kernel
theorem dX6_rubs_65 : decode cX6_rubs 65 = .ok (.ireturn, 1) := by decide +kernel
theorem dX6_spins_0 : decode cX6_spins 0 = .ok (.iload_n 1, 1) := by decide +kernel
theorem dX6_spins_1 : decode cX6_spins 1 = .ok (.iconst 1, 1) := by decide +kernel
theorem dX6_spins_2 : decode cX6_spins 2 = .ok (.sipush 359, 3) := by decide +kernel
theorem dX6_spins_5 : decode cX6_spins 5 = .ok (.invokestatic 62, 3) := by decide +kernel
theorem dX6_spins_8 : decode cX6_spins 8 = .ok (.ifCond .ne 5, 3) := by decide +kernel
theorem dX6_spins_11 : decode cX6_spins 11 = .ok (.iconst (-1), 1) := by decide +kernel
theorem dX6_spins_12 : decode cX6_spins 12 = .ok (.ireturn, 1) := by decide +kernel
theorem dX6_spins_13 : decode cX6_spins 13 = .ok (.aload_n 0, 1) := by decide +kernel
theorem dX6_spins_14 : decode cX6_spins 14 = .ok (.invokevirtual 188, 3) := by decide +kernel
theorem dX6_spins_17 : decode cX6_spins 17 = .ok (.aload_n 0, 1) := by decide +kernel
theorem dX6_spins_18 : decode cX6_spins 18 = .ok (.aload_n 0, 1) := by decide +kernel
theorem dX6_spins_19 : decode cX6_spins 19 = .ok (.getfield 120, 3) := by decide +kernel
theorem dX6_spins_22 : decode cX6_spins 22 = .ok (.iload_n 1, 1) := by decide +kernel
theorem dX6_spins_23 : decode cX6_spins 23 = .ok (.iadd, 1) := by decide +kernel
theorem dX6_spins_24 : decode cX6_spins 24 = .ok (.sipush 360, 3) := by decide +kernel
theorem dX6_spins_27 : decode cX6_spins 27 = .ok (.irem, 1) := by decide +kernel
theorem dX6_spins_28 : decode cX6_spins 28 = .ok (.putfield 120, 3) := by decide +kernel
theorem dX6_spins_31 : decode cX6_spins 31 = .ok (.aload_n 0, 1) := by decide +kernel
theorem dX6_spins_32 : decode cX6_spins 32 = .ok (.getfield 120, 3) := by decide +kernel
theorem dX6_spins_35 : decode cX6_spins 35 = .ok (.ireturn, 1) := by decide +kernel
theorem dX6_fills_0 : decode cX6_fills 0 = .ok (.aload_n 0, 1) := by decide +kernel
theorem dX6_fills_1 : decode cX6_fills 1 = .ok (.iload_n 1, 1) := by decide +kernel
theorem dX6_fills_2 : decode cX6_fills 2 = .ok (.invokevirtual 171, 3) := by decide +kernel
theorem dX6_fills_5 : decode cX6_fills 5 = .ok (.ifCond .eq 14, 3) := by decide +kernel
theorem dX6_fills_8 : decode cX6_fills 8 = .ok (.iload_n 2, 1) := by decide +kernel
theorem dX6_fills_9 : decode cX6_fills 9 = .ok (.iconst 1, 1) := by decide +kernel
theorem dX6_fills_10 : decode cX6_fills 10 = .ok (.sipush 999, 3) := by decide +kernel
theorem dX6_fills_13 : decode cX6_fills 13 = .ok (.invokestatic 62, 3) := by decide +kernel
theorem dX6_fills_16 : decode cX6_fills 16 = .ok (.ifCond .ne 5, 3) := by decide +kernel
theorem dX6_fills_19 : decode cX6_fills 19 = .ok (.iconst (-1), 1) := by decide +kernel
theorem dX6_fills_20 : decode cX6_fills 20 = .ok (.ireturn, 1) := by decide +kernel
theorem dX6_fills_21 : decode cX6_fills 21 = .ok (.aload_n 0, 1) := by decide +kernel
theorem dX6_fills_22 : decode cX6_fills 22 = .ok (.getfield 16, 3) := by decide +kernel
theorem dX6_fills_25 : decode cX6_fills 25 = .ok (.iload_n 1, 1) := by decide +kernel
theorem dX6_fills_26 : decode cX6_fills 26 = .ok (.iaload, 1) := by decide +kernel
theorem dX6_fills_27 : decode cX6_fills 27 = .ok (.sipush 999, 3) := by decide +kernel
theorem dX6_fills_30 : decode cX6_fills 30 = .ok (.if_icmp .ne 6, 3) := by decide +kernel
theorem dX6_fills_33 : decode cX6_fills 33 = .ok (.bipush (-2), 2) := by decide +kernel
theorem dX6_fills_35 : decode cX6_fills 35 = .ok (.ireturn, 1) := by decide +kernel
theorem dX6_fills_36 : decode cX6_fills 36 = .ok (.aload_n 0, 1) := by decide +kernel
theorem dX6_fills_37 : decode cX6_fills 37 = .ok (.invokevirtual 188, 3) := by decide +kernel
theorem dX6_fills_40 : decode cX6_fills 40 = .ok (.aload_n 0, 1) := by decide +kernel
theorem dX6_fills_41 : decode cX6_fills 41 = .ok (.getfield 16, 3) := by decide +kernel
theorem dX6_fills_44 : decode cX6_fills 44 = .ok (.iload_n 1, 1) := by decide +kernel
theorem dX6_fills_45 : decode cX6_fills 45 = .ok (.aload_n 0, 1) := by decide +kernel
theorem dX6_fills_46 : decode cX6_fills 46 = .ok (.getfield 16, 3) := by decide +kernel
theorem dX6_fills_49 : decode cX6_fills 49 = .ok (.iload_n 1, 1) := by decide +kernel
theorem dX6_fills_50 : decode cX6_fills 50 = .ok (.iaload, 1) := by decide +kernel
theorem dX6_fills_51 : decode cX6_fills 51 = .ok (.iload_n 2, 1) := by decide +kernel
theorem dX6_fills_52 : decode cX6_fills 52 = .ok (.iadd, 1) := by decide +kernel
theorem dX6_fills_53 : decode cX6_fills 53 = .ok (.sipush 999, 3) := by decide +kernel
theorem dX6_fills_56 : decode cX6_fills 56 = .ok (.if_icmp .le 9, 3) := by decide +kernel
theorem dX6_fills_59 : decode cX6_fills 59 = .ok (.sipush 999, 3) := by decide +kernel
theorem dX6_fills_62 : decode cX6_fills 62 = .ok (.goto 11, 3) := by decide +kernel
theorem dX6_fills_65 : decode cX6_fills 65 = .ok (.aload_n 0, 1) := by decide +kernel
theorem dX6_fills_66 : decode cX6_fills 66 = .ok (.getfield 16, 3) := by decide +kernel
theorem dX6_fills_69 : decode cX6_fills 69 = .ok (.iload_n 1, 1) := by decide +kernel
theorem dX6_fills_70 : decode cX6_fills 70 = .ok (.iaload, 1) := by decide +kernel
theorem dX6_fills_71 : decode cX6_fills 71 = .ok (.iload_n 2, 1) := by decide +kernel
theorem dX6_fills_72 : decode cX6_fills 72 = .ok (.iadd, 1) := by decide +kernel
theorem dX6_fills_73 : decode cX6_fills 73 = .ok (.iastore, 1) := by decide +kernel
theorem dX6_fills_74 : decode cX6_fills 74 = .ok (.aload_n 0, 1) := by decide +kernel
theorem dX6_fills_75 : decode cX6_fills 75 = .ok (.getfield 16, 3) := by decide +kernel
theorem dX6_fills_78 : decode cX6_fills 78 = .ok (.iload_n 1, 1) := by decide +kernel
theorem dX6_fills_79 : decode cX6_fills 79 = .ok (.iaload, 1) := by decide +kernel
theorem dX6_fills_80 : decode cX6_fills 80 = .ok (.ireturn, 1) := by decide +kernel
theorem dX6_undo_0 : decode cX6_undo 0 = .ok (.aload_n 0, 1) := by decide +kernel
theorem dX6_undo_1 : decode cX6_undo 1 = .ok (.getfield 126, 3) := by decide +kernel
theorem dX6_undo_4 : decode cX6_undo 4 = .ok (.ifCond .ne 6, 3) := by decide +kernel
theorem dX6_undo_7 : decode cX6_undo 7 = .ok (.bipush (-2), 2) := by decide +kernel
theorem dX6_undo_9 : decode cX6_undo 9 = .ok (.ireturn, 1) := by decide +kernel
theorem dX6_undo_10 : decode cX6_undo 10 = .ok (.aload_n 0, 1) := by decide +kernel
theorem dX6_undo_11 : decode cX6_undo 11 = .ok (.dup, 1) := by decide +kernel
theorem dX6_undo_12 : decode cX6_undo 12 = .ok (.getfield 126, 3) := by decide +kernel
theorem dX6_undo_15 : decode cX6_undo 15 = .ok (.iconst 1, 1) := by decide +kernel
theorem dX6_undo_16 : decode cX6_undo 16 = .ok (.isub, 1) := by decide +kernel
theorem dX6_undo_17 : decode cX6_undo 17 = .ok (.putfield 126, 3) := by decide +kernel
theorem dX6_undo_20 : decode cX6_undo 20 = .ok (.aload_n 0, 1) := by decide +kernel
theorem dX6_undo_21 : decode cX6_undo 21 = .ok (.aload_n 0, 1) := by decide +kernel
theorem dX6_undo_22 : decode cX6_undo 22 = .ok (.getfield 40, 3) := by decide +kernel
theorem dX6_undo_25 : decode cX6_undo 25 = .ok (.bipush 78, 2) := by decide +kernel
theorem dX6_undo_27 : decode cX6_undo 27 = .ok (.aload_n 0, 1) := by decide +kernel
theorem dX6_undo_28 : decode cX6_undo 28 = .ok (.getfield 126, 3) := by decide +kernel
theorem dX6_undo_31 : decode cX6_undo 31 = .ok (.imul, 1) := by decide +kernel
theorem dX6_undo_32 : decode cX6_undo 32 = .ok (.invokevirtual 191, 3) := by decide +kernel
theorem dX6_undo_35 : decode cX6_undo 35 = .ok (.aload_n 0, 1) := by decide +kernel
theorem dX6_undo_36 : decode cX6_undo 36 = .ok (.getfield 126, 3) := by decide +kernel
theorem dX6_undo_39 : decode cX6_undo 39 = .ok (.ireturn, 1) := by decide +kernel
theorem dX6_shownMany_0 : decode cX6_shownMany 0 = .ok (.iconst 0, 1) := by decide +kernel
theorem dX6_shownMany_1 : decode cX6_shownMany 1 = .ok (.istore_n 1, 1) := by decide +kernel
theorem dX6_shownMany_2 : decode cX6_shownMany 2 = .ok (.iconst 0, 1) := by decide +kernel
theorem dX6_shownMany_3 : decode cX6_shownMany 3 = .ok (.istore_n 2, 1) := by decide +kernel
theorem dX6_shownMany_4 : decode cX6_shownMany 4 = .ok (.iload_n 2, 1) := by decide +kernel
theorem dX6_shownMany_5 : decode cX6_shownMany 5 = .ok (.sipush 360, 3) := by decide +kernel
theorem dX6_shownMany_8 : decode cX6_shownMany 8 = .ok (.if_icmp .ge 42, 3) := by decide +kernel
theorem dX6_shownMany_11 : decode cX6_shownMany 11 = .ok (.iconst 1, 1) := by decide +kernel
theorem dX6_shownMany_12 : decode cX6_shownMany 12 = .ok (.istore_n 3, 1) := by decide +kernel
theorem dX6_shownMany_13 : decode cX6_shownMany 13 = .ok (.iload_n 3, 1) := by decide +kernel
theorem dX6_shownMany_14 : decode cX6_shownMany 14 = .ok (.bipush 9, 2) := by decide +kernel
theorem dX6_shownMany_16 : decode cX6_shownMany 16 = .ok (.if_icmp .gt 28, 3) := by decide +kernel
theorem dX6_shownMany_19 : decode cX6_shownMany 19 = .ok (.iload_n 1, 1) := by decide +kernel
theorem dX6_shownMany_20 : decode cX6_shownMany 20 = .ok (.aload_n 0, 1) := by decide +kernel
theorem dX6_shownMany_21 : decode cX6_shownMany 21 = .ok (.iload_n 2, 1) := by decide +kernel
theorem dX6_shownMany_22 : decode cX6_shownMany 22 = .ok (.iload_n 3, 1) := by decide +kernel
theorem dX6_shownMany_23 : decode cX6_shownMany 23 = .ok (.invokevirtual 165, 3) := by decide +kernel
theorem dX6_shownMany_26 : decode cX6_shownMany 26 = .ok (.bipush (-9), 2) := by decide +kernel
theorem dX6_shownMany_28 : decode cX6_shownMany 28 = .ok (.if_icmp .ne 7, 3) := by decide +kernel
theorem dX6_shownMany_31 : decode cX6_shownMany 31 = .ok (.iconst 0, 1) := by decide +kernel
theorem dX6_shownMany_32 : decode cX6_shownMany 32 = .ok (.goto 4, 3) := by decide +kernel
theorem dX6_shownMany_35 : decode cX6_shownMany 35 = .ok (.iconst 1, 1) := by decide +kernel
theorem dX6_shownMany_36 : decode cX6_shownMany 36 = .ok (.iadd, 1) := by decide +kernel
theorem dX6_shownMany_37 : decode cX6_shownMany 37 = .ok (.istore_n 1, 1) := by decide +kernel
theorem dX6_shownMany_38 : decode cX6_shownMany 38 = .ok (.iinc 3 1, 3) := by decide +kernel
theorem dX6_shownMany_41 : decode cX6_shownMany 41 = .ok (.goto (-28), 3) := by decide +kernel
theorem dX6_shownMany_44 : decode cX6_shownMany 44 = .ok (.iinc 2 1, 3) := by decide +kernel
theorem dX6_shownMany_47 : decode cX6_shownMany 47 = .ok (.goto (-43), 3) := by decide +kernel
theorem dX6_shownMany_50 : decode cX6_shownMany 50 = .ok (.iload_n 1, 1) := by decide +kernel
theorem dX6_shownMany_51 : decode cX6_shownMany 51 = .ok (.ireturn, 1) := by decide +kernel
theorem dX6_isLike_0 : decode cX6_isLike 0 = .ok (.iconst 1, 1) := by decide +kernel
theorem dX6_isLike_1 : decode cX6_isLike 1 = .ok (.istore_n 2, 1) := by decide +kernel
theorem dX6_isLike_2 : decode cX6_isLike 2 = .ok (.iconst 0, 1) := by decide +kernel
theorem dX6_isLike_3 : decode cX6_isLike 3 = .ok (.istore_n 3, 1) := by decide +kernel
theorem dX6_isLike_4 : decode cX6_isLike 4 = .ok (.iload_n 3, 1) := by decide +kernel
theorem dX6_isLike_5 : decode cX6_isLike 5 = .ok (.sipush 360, 3) := by decide +kernel
theorem dX6_isLike_8 : decode cX6_isLike 8 = .ok (.if_icmp .ge 72, 3) := by decide +kernel
theorem dX6_isLike_11 : decode cX6_isLike 11 = .ok (.iload_n 3, 1) := by decide +kernel
theorem dX6_isLike_12 : decode cX6_isLike 12 = .ok (.iload_n 1, 1) := by decide +kernel
theorem dX6_isLike_13 : decode cX6_isLike 13 = .ok (.iadd, 1) := by decide +kernel
theorem dX6_isLike_14 : decode cX6_isLike 14 = .ok (.sipush 360, 3) := by decide +kernel
theorem dX6_isLike_17 : decode cX6_isLike 17 = .ok (.irem, 1) := by decide +kernel
theorem dX6_isLike_18 : decode cX6_isLike 18 = .ok (.istore 4, 2) := by decide +kernel
theorem dX6_isLike_20 : decode cX6_isLike 20 = .ok (.iconst 0, 1) := by decide +kernel
theorem dX6_isLike_21 : decode cX6_isLike 21 = .ok (.istore 5, 2) := by decide +kernel
theorem dX6_isLike_23 : decode cX6_isLike 23 = .ok (.iload 5, 2) := by decide +kernel
theorem dX6_isLike_25 : decode cX6_isLike 25 = .ok (.bipush 9, 2) := by decide +kernel
theorem dX6_isLike_27 : decode cX6_isLike 27 = .ok (.if_icmp .ge 47, 3) := by decide +kernel
theorem dX6_isLike_30 : decode cX6_isLike 30 = .ok (.iload_n 2, 1) := by decide +kernel
theorem dX6_isLike_31 : decode cX6_isLike 31 = .ok (.ifCond .eq 35, 3) := by decide +kernel
theorem dX6_isLike_34 : decode cX6_isLike 34 = .ok (.aload_n 0, 1) := by decide +kernel
theorem dX6_isLike_35 : decode cX6_isLike 35 = .ok (.getfield 43, 3) := by decide +kernel
theorem dX6_isLike_38 : decode cX6_isLike 38 = .ok (.bipush 9, 2) := by decide +kernel
theorem dX6_isLike_40 : decode cX6_isLike 40 = .ok (.iload_n 3, 1) := by decide +kernel
theorem dX6_isLike_41 : decode cX6_isLike 41 = .ok (.imul, 1) := by decide +kernel
theorem dX6_isLike_42 : decode cX6_isLike 42 = .ok (.iload 5, 2) := by decide +kernel
theorem dX6_isLike_44 : decode cX6_isLike 44 = .ok (.iadd, 1) := by decide +kernel
theorem dX6_isLike_45 : decode cX6_isLike 45 = .ok (.iaload, 1) := by decide +kernel
theorem dX6_isLike_46 : decode cX6_isLike 46 = .ok (.aload_n 0, 1) := by decide +kernel
theorem dX6_isLike_47 : decode cX6_isLike 47 = .ok (.getfield 43, 3) := by decide +kernel
theorem dX6_isLike_50 : decode cX6_isLike 50 = .ok (.bipush 9, 2) := by decide +kernel
theorem dX6_isLike_52 : decode cX6_isLike 52 = .ok (.iload 4, 2) := by decide +kernel
theorem dX6_isLike_54 : decode cX6_isLike 54 = .ok (.imul, 1) := by decide +kernel
theorem dX6_isLike_55 : decode cX6_isLike 55 = .ok (.iload 5, 2) := by decide +kernel
theorem dX6_isLike_57 : decode cX6_isLike 57 = .ok (.iadd, 1) := by decide +kernel
theorem dX6_isLike_58 : decode cX6_isLike 58 = .ok (.iaload, 1) := by decide +kernel
theorem dX6_isLike_59 : decode cX6_isLike 59 = .ok (.if_icmp .ne 7, 3) := by decide +kernel
theorem dX6_isLike_62 : decode cX6_isLike 62 = .ok (.iconst 1, 1) := by decide +kernel
theorem dX6_isLike_63 : decode cX6_isLike 63 = .ok (.goto 4, 3) := by decide +kernel
theorem dX6_isLike_66 : decode cX6_isLike 66 = .ok (.iconst 0, 1) := by decide +kernel
theorem dX6_isLike_67 : decode cX6_isLike 67 = .ok (.istore_n 2, 1) := by decide +kernel
theorem dX6_isLike_68 : decode cX6_isLike 68 = .ok (.iinc 5 1, 3) := by decide +kernel
theorem dX6_isLike_71 : decode cX6_isLike 71 = .ok (.goto (-48), 3) := by decide +kernel
theorem dX6_isLike_74 : decode cX6_isLike 74 = .ok (.iinc 3 1, 3) := by decide +kernel
theorem dX6_isLike_77 : decode cX6_isLike 77 = .ok (.goto (-73), 3) := by decide +kernel
theorem dX6_isLike_80 : decode cX6_isLike 80 = .ok (.iload_n 2, 1) := by decide +kernel
theorem dX6_isLike_81 : decode cX6_isLike 81 = .ok (.ireturn, 1) := by decide +kernel
theorem dX6_like_0 : decode cX6_like 0 = .ok (.iconst 0, 1) := by decide +kernel
theorem dX6_like_1 : decode cX6_like 1 = .ok (.istore_n 1, 1) := by decide +kernel
theorem dX6_like_2 : decode cX6_like 2 = .ok (.iload_n 1, 1) := by decide +kernel
theorem dX6_like_3 : decode cX6_like 3 = .ok (.sipush 360, 3) := by decide +kernel
theorem dX6_like_6 : decode cX6_like 6 = .ok (.if_icmp .ge 42, 3) := by decide +kernel
theorem dX6_like_9 : decode cX6_like 9 = .ok (.iconst 0, 1) := by decide +kernel
theorem dX6_like_10 : decode cX6_like 10 = .ok (.istore_n 2, 1) := by decide +kernel
theorem dX6_like_11 : decode cX6_like 11 = .ok (.iload_n 2, 1) := by decide +kernel
theorem dX6_like_12 : decode cX6_like 12 = .ok (.bipush 9, 2) := by decide +kernel
theorem dX6_like_14 : decode cX6_like 14 = .ok (.if_icmp .ge 28, 3) := by decide +kernel
theorem dX6_like_17 : decode cX6_like 17 = .ok (.aload_n 0, 1) := by decide +kernel
theorem dX6_like_18 : decode cX6_like 18 = .ok (.getfield 43, 3) := by decide +kernel
theorem dX6_like_21 : decode cX6_like 21 = .ok (.bipush 9, 2) := by decide +kernel
theorem dX6_like_23 : decode cX6_like 23 = .ok (.iload_n 1, 1) := by decide +kernel
theorem dX6_like_24 : decode cX6_like 24 = .ok (.imul, 1) := by decide +kernel
theorem dX6_like_25 : decode cX6_like 25 = .ok (.iload_n 2, 1) := by decide +kernel
theorem dX6_like_26 : decode cX6_like 26 = .ok (.iadd, 1) := by decide +kernel
theorem dX6_like_27 : decode cX6_like 27 = .ok (.aload_n 0, 1) := by decide +kernel
theorem dX6_like_28 : decode cX6_like 28 = .ok (.iload_n 1, 1) := by decide +kernel
theorem dX6_like_29 : decode cX6_like 29 = .ok (.iload_n 2, 1) := by decide +kernel
theorem dX6_like_30 : decode cX6_like 30 = .ok (.iconst 1, 1) := by decide +kernel
theorem dX6_like_31 : decode cX6_like 31 = .ok (.iadd, 1) := by decide +kernel
theorem dX6_like_32 : decode cX6_like 32 = .ok (.invokevirtual 168, 3) := by decide +kernel
theorem dX6_like_35 : decode cX6_like 35 = .ok (.iastore, 1) := by decide +kernel
theorem dX6_like_36 : decode cX6_like 36 = .ok (.iinc 2 1, 3) := by decide +kernel
theorem dX6_like_39 : decode cX6_like 39 = .ok (.goto (-28), 3) := by decide +kernel
theorem dX6_like_42 : decode cX6_like 42 = .ok (.iinc 1 1, 3) := by decide +kernel
theorem dX6_like_45 : decode cX6_like 45 = .ok (.goto (-43), 3) := by decide +kernel
theorem dX6_like_48 : decode cX6_like 48 = .ok (.sipush 360, 3) := by decide +kernel
theorem dX6_like_51 : decode cX6_like 51 = .ok (.istore_n 1, 1) := by decide +kernel
theorem dX6_like_52 : decode cX6_like 52 = .ok (.sipush 360, 3) := by decide +kernel
theorem dX6_like_55 : decode cX6_like 55 = .ok (.iload_n 1, 1) := by decide +kernel
theorem dX6_like_56 : decode cX6_like 56 = .ok (.irem, 1) := by decide +kernel
theorem dX6_like_57 : decode cX6_like 57 = .ok (.ifCond .ne 15, 3) := by decide +kernel
theorem dX6_like_60 : decode cX6_like 60 = .ok (.aload_n 0, 1) := by decide +kernel
theorem dX6_like_61 : decode cX6_like 61 = .ok (.sipush 360, 3) := by decide +kernel
theorem dX6_like_64 : decode cX6_like 64 = .ok (.iload_n 1, 1) := by decide +kernel
theorem dX6_like_65 : decode cX6_like 65 = .ok (.idiv, 1) := by decide +kernel
theorem dX6_like_66 : decode cX6_like 66 = .ok (.invokevirtual 194, 3) := by decide +kernel
theorem dX6_like_69 : decode cX6_like 69 = .ok (.ifCond .ne 9, 3) := by decide +kernel
theorem dX6_like_72 : decode cX6_like 72 = .ok (.iinc 1 (-1), 3) := by decide +kernel
theorem dX6_like_75 : decode cX6_like 75 = .ok (.goto (-23), 3) := by decide +kernel
theorem dX6_like_78 : decode cX6_like 78 = .ok (.iload_n 1, 1) := by decide +kernel
theorem dX6_like_79 : decode cX6_like 79 = .ok (.ireturn, 1) := by decide +kernel
theorem dX6_now_0 : decode cX6_now 0 = .ok (.iload_n 1, 1) := by decide +kernel
theorem dX6_now_1 : decode cX6_now 1 = .ok (.iconst 0, 1) := by decide +kernel
theorem dX6_now_2 : decode cX6_now 2 = .ok (.iconst 3, 1) := by decide +kernel
theorem dX6_now_3 : decode cX6_now 3 = .ok (.invokestatic 62, 3) := by decide +kernel
theorem dX6_now_6 : decode cX6_now 6 = .ok (.ifCond .ne 5, 3) := by decide +kernel
theorem dX6_now_9 : decode cX6_now 9 = .ok (.iconst (-1), 1) := by decide +kernel
theorem dX6_now_10 : decode cX6_now 10 = .ok (.ireturn, 1) := by decide +kernel
theorem dX6_now_11 : decode cX6_now 11 = .ok (.iload_n 1, 1) := by decide +kernel
theorem dX6_now_12 : decode cX6_now 12 = .ok (.ifCond .ne 10, 3) := by decide +kernel
theorem dX6_now_15 : decode cX6_now 15 = .ok (.aload_n 0, 1) := by decide +kernel
theorem dX6_now_16 : decode cX6_now 16 = .ok (.getfield 120, 3) := by decide +kernel
theorem dX6_now_19 : decode cX6_now 19 = .ok (.goto 31, 3) := by decide +kernel
theorem dX6_now_22 : decode cX6_now 22 = .ok (.iload_n 1, 1) := by decide +kernel
theorem dX6_now_23 : decode cX6_now 23 = .ok (.iconst 1, 1) := by decide +kernel
theorem dX6_now_24 : decode cX6_now 24 = .ok (.if_icmp .ne 10, 3) := by decide +kernel
theorem dX6_now_27 : decode cX6_now 27 = .ok (.aload_n 0, 1) := by decide +kernel
theorem dX6_now_28 : decode cX6_now 28 = .ok (.getfield 72, 3) := by decide +kernel
theorem dX6_now_31 : decode cX6_now 31 = .ok (.goto 19, 3) := by decide +kernel
theorem dX6_now_34 : decode cX6_now 34 = .ok (.iload_n 1, 1) := by decide +kernel
theorem dX6_now_35 : decode cX6_now 35 = .ok (.iconst 2, 1) := by decide +kernel
theorem dX6_now_36 : decode cX6_now 36 = .ok (.if_icmp .ne 10, 3) := by decide +kernel
theorem dX6_now_39 : decode cX6_now 39 = .ok (.aload_n 0, 1) := by decide +kernel
theorem dX6_now_40 : decode cX6_now 40 = .ok (.invokevirtual 197, 3) := by decide +kernel
theorem dX6_now_43 : decode cX6_now 43 = .ok (.goto 7, 3) := by decide +kernel
theorem dX6_now_46 : decode cX6_now 46 = .ok (.aload_n 0, 1) := by decide +kernel
theorem dX6_now_47 : decode cX6_now 47 = .ok (.invokevirtual 200, 3) := by decide +kernel
theorem dX6_now_50 : decode cX6_now 50 = .ok (.ireturn, 1) := by decide +kernel
theorem dX6_shown_0 : decode cX6_shown 0 = .ok (.iload_n 1, 1) := by decide +kernel
theorem dX6_shown_1 : decode cX6_shown 1 = .ok (.iconst 0, 1) := by decide +kernel
theorem dX6_shown_2 : decode cX6_shown 2 = .ok (.sipush 359, 3) := by decide +kernel
theorem dX6_shown_5 : decode cX6_shown 5 = .ok (.invokestatic 62, 3) := by decide +kernel
theorem dX6_shown_8 : decode cX6_shown 8 = .ok (.ifCond .eq 22, 3) := by decide +kernel
theorem dX6_shown_11 : decode cX6_shown 11 = .ok (.iload_n 2, 1) := by decide +kernel
theorem dX6_shown_12 : decode cX6_shown 12 = .ok (.iconst 1, 1) := by decide +kernel
theorem dX6_shown_13 : decode cX6_shown 13 = .ok (.bipush 9, 2) := by decide +kernel
theorem dX6_shown_15 : decode cX6_shown 15 = .ok (.invokestatic 62, 3) := by decide +kernel
theorem dX6_shown_18 : decode cX6_shown 18 = .ok (.ifCond .eq 12, 3) := by decide +kernel
theorem dX6_shown_21 : decode cX6_shown 21 = .ok (.aload_n 0, 1) := by decide +kernel
theorem dX6_shown_22 : decode cX6_shown 22 = .ok (.iload_n 1, 1) := by decide +kernel
theorem dX6_shown_23 : decode cX6_shown 23 = .ok (.iload_n 2, 1) := by decide +kernel
theorem dX6_shown_24 : decode cX6_shown 24 = .ok (.invokevirtual 165, 3) := by decide +kernel
theorem dX6_shown_27 : decode cX6_shown 27 = .ok (.goto 4, 3) := by decide +kernel
theorem dX6_shown_30 : decode cX6_shown 30 = .ok (.iconst (-1), 1) := by decide +kernel
theorem dX6_shown_31 : decode cX6_shown 31 = .ok (.ireturn, 1) := by decide +kernel
theorem dX6_petals_0 : decode cX6_petals 0 = .ok (.aload_n 0, 1) := by decide +kernel
theorem dX6_petals_1 : decode cX6_petals 1 = .ok (.iload_n 1, 1) := by decide +kernel
theorem dX6_petals_2 : decode cX6_petals 2 = .ok (.invokevirtual 139, 3) := by decide +kernel
theorem dX6_petals_5 : decode cX6_petals 5 = .ok (.ifCond .eq 13, 3) := by decide +kernel
theorem dX6_petals_8 : decode cX6_petals 8 = .ok (.iload_n 2, 1) := by decide +kernel
theorem dX6_petals_9 : decode cX6_petals 9 = .ok (.iconst 1, 1) := by decide +kernel
theorem dX6_petals_10 : decode cX6_petals 10 = .ok (.bipush 120, 2) := by decide +kernel
theorem dX6_petals_12 : decode cX6_petals 12 = .ok (.invokestatic 62, 3) := by decide +kernel
theorem dX6_petals_15 : decode cX6_petals 15 = .ok (.ifCond .ne 5, 3) := by decide +kernel
theorem dX6_petals_18 : decode cX6_petals 18 = .ok (.iconst (-1), 1) := by decide +kernel
theorem dX6_petals_19 : decode cX6_petals 19 = .ok (.ireturn, 1) := by decide +kernel
theorem dX6_petals_20 : decode cX6_petals 20 = .ok (.iconst 0, 1) := by decide +kernel
theorem dX6_petals_21 : decode cX6_petals 21 = .ok (.istore_n 3, 1) := by decide +kernel
theorem dX6_petals_22 : decode cX6_petals 22 = .ok (.iload_n 3, 1) := by decide +kernel
theorem dX6_petals_23 : decode cX6_petals 23 = .ok (.aload_n 0, 1) := by decide +kernel
theorem dX6_petals_24 : decode cX6_petals 24 = .ok (.getfield 66, 3) := by decide +kernel
theorem dX6_petals_27 : decode cX6_petals 27 = .ok (.if_icmp .ge 30, 3) := by decide +kernel
theorem dX6_petals_30 : decode cX6_petals 30 = .ok (.aload_n 0, 1) := by decide +kernel
theorem dX6_petals_31 : decode cX6_petals 31 = .ok (.iload_n 1, 1) := by decide +kernel
theorem dX6_petals_32 : decode cX6_petals 32 = .ok (.iload_n 3, 1) := by decide +kernel
theorem dX6_petals_33 : decode cX6_petals 33 = .ok (.invokevirtual 146, 3) := by decide +kernel
theorem dX6_petals_36 : decode cX6_petals 36 = .ok (.ifCond .eq 15, 3) := by decide +kernel
theorem dX6_petals_39 : decode cX6_petals 39 = .ok (.aload_n 0, 1) := by decide +kernel
theorem dX6_petals_40 : decode cX6_petals 40 = .ok (.iload_n 1, 1) := by decide +kernel
theorem dX6_petals_41 : decode cX6_petals 41 = .ok (.iload_n 3, 1) := by decide +kernel
theorem dX6_petals_42 : decode cX6_petals 42 = .ok (.invokevirtual 149, 3) := by decide +kernel
theorem dX6_petals_45 : decode cX6_petals 45 = .ok (.iload_n 2, 1) := by decide +kernel
theorem dX6_petals_46 : decode cX6_petals 46 = .ok (.if_icmp .ne 5, 3) := by decide +kernel
theorem dX6_petals_49 : decode cX6_petals 49 = .ok (.iload_n 3, 1) := by decide +kernel
theorem dX6_petals_50 : decode cX6_petals 50 = .ok (.ireturn, 1) := by decide +kernel
theorem dX6_petals_51 : decode cX6_petals 51 = .ok (.iinc 3 1, 3) := by decide +kernel
theorem dX6_petals_54 : decode cX6_petals 54 = .ok (.goto (-32), 3) := by decide +kernel
theorem dX6_petals_57 : decode cX6_petals 57 = .ok (.bipush (-9), 2) := by decide +kernel
theorem dX6_petals_59 : decode cX6_petals 59 = .ok (.ireturn, 1) := by decide +kernel
theorem dX6_openMany_0 : decode cX6_openMany 0 = .ok (.iconst 0, 1) := by decide +kernel
theorem dX6_openMany_1 : decode cX6_openMany 1 = .ok (.istore_n 2, 1) := by decide +kernel
theorem dX6_openMany_2 : decode cX6_openMany 2 = .ok (.iconst 0, 1) := by decide +kernel
theorem dX6_openMany_3 : decode cX6_openMany 3 = .ok (.istore_n 3, 1) := by decide +kernel
theorem dX6_openMany_4 : decode cX6_openMany 4 = .ok (.iload_n 3, 1) := by decide +kernel
theorem dX6_openMany_5 : decode cX6_openMany 5 = .ok (.aload_n 0, 1) := by decide +kernel
theorem dX6_openMany_6 : decode cX6_openMany 6 = .ok (.getfield 7, 3) := by decide +kernel
theorem dX6_openMany_9 : decode cX6_openMany 9 = .ok (.iload_n 1, 1) := by decide +kernel
theorem dX6_openMany_10 : decode cX6_openMany 10 = .ok (.iaload, 1) := by decide +kernel
theorem dX6_openMany_11 : decode cX6_openMany 11 = .ok (.if_icmp .ge 26, 3) := by decide +kernel
theorem dX6_openMany_14 : decode cX6_openMany 14 = .ok (.iload_n 2, 1) := by decide +kernel
theorem dX6_openMany_15 : decode cX6_openMany 15 = .ok (.aload_n 0, 1) := by decide +kernel
theorem dX6_openMany_16 : decode cX6_openMany 16 = .ok (.getfield 46, 3) := by decide +kernel
theorem dX6_openMany_19 : decode cX6_openMany 19 = .ok (.iload_n 3, 1) := by decide +kernel
theorem dX6_openMany_20 : decode cX6_openMany 20 = .ok (.iaload, 1) := by decide +kernel
theorem dX6_openMany_21 : decode cX6_openMany 21 = .ok (.ifCond .ne 7, 3) := by decide +kernel
theorem dX6_openMany_24 : decode cX6_openMany 24 = .ok (.iconst 1, 1) := by decide +kernel
theorem dX6_openMany_25 : decode cX6_openMany 25 = .ok (.goto 4, 3) := by decide +kernel
theorem dX6_openMany_28 : decode cX6_openMany 28 = .ok (.iconst 0, 1) := by decide +kernel
theorem dX6_openMany_29 : decode cX6_openMany 29 = .ok (.iadd, 1) := by decide +kernel
theorem dX6_openMany_30 : decode cX6_openMany 30 = .ok (.istore_n 2, 1) := by decide +kernel
theorem dX6_openMany_31 : decode cX6_openMany 31 = .ok (.iinc 3 1, 3) := by decide +kernel
theorem dX6_openMany_34 : decode cX6_openMany 34 = .ok (.goto (-30), 3) := by decide +kernel
theorem dX6_openMany_37 : decode cX6_openMany 37 = .ok (.iload_n 2, 1) := by decide +kernel
theorem dX6_openMany_38 : decode cX6_openMany 38 = .ok (.ireturn, 1) := by decide +kernel
theorem dX6_openRests_0 : decode cX6_openRests 0 = .ok (.iconst 0, 1) := by decide +kernel
theorem dX6_openRests_1 : decode cX6_openRests 1 = .ok (.istore_n 3, 1) := by decide +kernel
theorem dX6_openRests_2 : decode cX6_openRests 2 = .ok (.iconst 0, 1) := by decide +kernel
theorem dX6_openRests_3 : decode cX6_openRests 3 = .ok (.istore 4, 2) := by decide +kernel
theorem dX6_openRests_5 : decode cX6_openRests 5 = .ok (.iload 4, 2) := by decide +kernel
theorem dX6_openRests_7 : decode cX6_openRests 7 = .ok (.iload_n 2, 1) := by decide +kernel
theorem dX6_openRests_8 : decode cX6_openRests 8 = .ok (.if_icmp .ge 71, 3) := by decide +kernel
theorem dX6_openRests_11 : decode cX6_openRests 11 = .ok (.iconst 0, 1) := by decide +kernel
theorem dX6_openRests_12 : decode cX6_openRests 12 = .ok (.istore 5, 2) := by decide +kernel
theorem dX6_openRests_14 : decode cX6_openRests 14 = .ok (.iload 4, 2) := by decide +kernel
theorem dX6_openRests_16 : decode cX6_openRests 16 = .ok (.istore 6, 2) := by decide +kernel
theorem dX6_openRests_18 : decode cX6_openRests 18 = .ok (.iload 6, 2) := by decide +kernel
theorem dX6_openRests_20 : decode cX6_openRests 20 = .ok (.aload_n 0, 1) := by decide +kernel
theorem dX6_openRests_21 : decode cX6_openRests 21 = .ok (.getfield 7, 3) := by decide +kernel
theorem dX6_openRests_24 : decode cX6_openRests 24 = .ok (.iload_n 1, 1) := by decide +kernel
theorem dX6_openRests_25 : decode cX6_openRests 25 = .ok (.iaload, 1) := by decide +kernel
theorem dX6_openRests_26 : decode cX6_openRests 26 = .ok (.if_icmp .ge 34, 3) := by decide +kernel
theorem dX6_openRests_29 : decode cX6_openRests 29 = .ok (.iload 5, 2) := by decide +kernel
theorem dX6_openRests_31 : decode cX6_openRests 31 = .ok (.ifCond .ne 13, 3) := by decide +kernel
theorem dX6_openRests_34 : decode cX6_openRests 34 = .ok (.aload_n 0, 1) := by decide +kernel
theorem dX6_openRests_35 : decode cX6_openRests 35 = .ok (.getfield 46, 3) := by decide +kernel
theorem dX6_openRests_38 : decode cX6_openRests 38 = .ok (.iload 6, 2) := by decide +kernel
theorem dX6_openRests_40 : decode cX6_openRests 40 = .ok (.iaload, 1) := by decide +kernel
theorem dX6_openRests_41 : decode cX6_openRests 41 = .ok (.ifCond .ne 7, 3) := by decide +kernel
theorem dX6_openRests_44 : decode cX6_openRests 44 = .ok (.iconst 1, 1) := by decide +kernel
theorem dX6_openRests_45 : decode cX6_openRests 45 = .ok (.goto 4, 3) := by decide +kernel
theorem dX6_openRests_48 : decode cX6_openRests 48 = .ok (.iconst 0, 1) := by decide +kernel
theorem dX6_openRests_49 : decode cX6_openRests 49 = .ok (.istore 5, 2) := by decide +kernel
theorem dX6_openRests_51 : decode cX6_openRests 51 = .ok (.iload 6, 2) := by decide +kernel
theorem dX6_openRests_53 : decode cX6_openRests 53 = .ok (.iload_n 2, 1) := by decide +kernel
theorem dX6_openRests_54 : decode cX6_openRests 54 = .ok (.iadd, 1) := by decide +kernel
theorem dX6_openRests_55 : decode cX6_openRests 55 = .ok (.istore 6, 2) := by decide +kernel
theorem dX6_openRests_57 : decode cX6_openRests 57 = .ok (.goto (-39), 3) := by decide +kernel
theorem dX6_openRests_60 : decode cX6_openRests 60 = .ok (.iload_n 3, 1) := by decide +kernel
theorem dX6_openRests_61 : decode cX6_openRests 61 = .ok (.iload 5, 2) := by decide +kernel
theorem dX6_openRests_63 : decode cX6_openRests 63 = .ok (.ifCond .eq 7, 3) := by decide +kernel
theorem dX6_openRests_66 : decode cX6_openRests 66 = .ok (.iconst 1, 1) := by decide +kernel
theorem dX6_openRests_67 : decode cX6_openRests 67 = .ok (.goto 4, 3) := by decide +kernel
theorem dX6_openRests_70 : decode cX6_openRests 70 = .ok (.iconst 0, 1) := by decide +kernel
theorem dX6_openRests_71 : decode cX6_openRests 71 = .ok (.iadd, 1) := by decide +kernel
theorem dX6_openRests_72 : decode cX6_openRests 72 = .ok (.istore_n 3, 1) := by decide +kernel
theorem dX6_openRests_73 : decode cX6_openRests 73 = .ok (.iinc 4 1, 3) := by decide +kernel
theorem dX6_openRests_76 : decode cX6_openRests 76 = .ok (.goto (-71), 3) := by decide +kernel
theorem dX6_openRests_79 : decode cX6_openRests 79 = .ok (.iload_n 3, 1) := by decide +kernel
theorem dX6_openRests_80 : decode cX6_openRests 80 = .ok (.ireturn, 1) := by decide +kernel
theorem dX6_closes_0 : decode cX6_closes 0 = .ok (.aload_n 0, 1) := by decide +kernel
theorem dX6_closes_1 : decode cX6_closes 1 = .ok (.iload_n 1, 1) := by decide +kernel
theorem dX6_closes_2 : decode cX6_closes 2 = .ok (.invokevirtual 139, 3) := by decide +kernel
theorem dX6_closes_5 : decode cX6_closes 5 = .ok (.ifCond .eq 22, 3) := by decide +kernel
theorem dX6_closes_8 : decode cX6_closes 8 = .ok (.iload_n 2, 1) := by decide +kernel
theorem dX6_closes_9 : decode cX6_closes 9 = .ok (.iconst 1, 1) := by decide +kernel
theorem dX6_closes_10 : decode cX6_closes 10 = .ok (.bipush 9, 2) := by decide +kernel
theorem dX6_closes_12 : decode cX6_closes 12 = .ok (.invokestatic 62, 3) := by decide +kernel
theorem dX6_closes_15 : decode cX6_closes 15 = .ok (.ifCond .eq 12, 3) := by decide +kernel
theorem dX6_closes_18 : decode cX6_closes 18 = .ok (.iload_n 3, 1) := by decide +kernel
theorem dX6_closes_19 : decode cX6_closes 19 = .ok (.iconst 0, 1) := by decide +kernel
theorem dX6_closes_20 : decode cX6_closes 20 = .ok (.iconst 1, 1) := by decide +kernel
theorem dX6_closes_21 : decode cX6_closes 21 = .ok (.invokestatic 62, 3) := by decide +kernel
theorem dX6_closes_24 : decode cX6_closes 24 = .ok (.ifCond .ne 5, 3) := by decide +kernel
theorem dX6_closes_27 : decode cX6_closes 27 = .ok (.iconst (-1), 1) := by decide +kernel
theorem dX6_closes_28 : decode cX6_closes 28 = .ok (.ireturn, 1) := by decide +kernel
theorem dX6_closes_29 : decode cX6_closes 29 = .ok (.iconst 0, 1) := by decide +kernel
theorem dX6_closes_30 : decode cX6_closes 30 = .ok (.istore 4, 2) := by decide +kernel
theorem dX6_closes_32 : decode cX6_closes 32 = .ok (.iload 4, 2) := by decide +kernel
theorem dX6_closes_34 : decode cX6_closes 34 = .ok (.aload_n 0, 1) := by decide +kernel
theorem dX6_closes_35 : decode cX6_closes 35 = .ok (.getfield 7, 3) := by decide +kernel
theorem dX6_closes_38 : decode cX6_closes 38 = .ok (.iload_n 1, 1) := by decide +kernel
theorem dX6_closes_39 : decode cX6_closes 39 = .ok (.iaload, 1) := by decide +kernel
theorem dX6_closes_40 : decode cX6_closes 40 = .ok (.if_icmp .ge 42, 3) := by decide +kernel
theorem dX6_closes_43 : decode cX6_closes 43 = .ok (.aload_n 0, 1) := by decide +kernel
theorem dX6_closes_44 : decode cX6_closes 44 = .ok (.getfield 46, 3) := by decide +kernel
theorem dX6_closes_47 : decode cX6_closes 47 = .ok (.iload 4, 2) := by decide +kernel
theorem dX6_closes_49 : decode cX6_closes 49 = .ok (.aload_n 0, 1) := by decide +kernel
theorem dX6_closes_50 : decode cX6_closes 50 = .ok (.aload_n 0, 1) := by decide +kernel
theorem dX6_closes_51 : decode cX6_closes 51 = .ok (.iload_n 1, 1) := by decide +kernel
theorem dX6_closes_52 : decode cX6_closes 52 = .ok (.aload_n 0, 1) := by decide +kernel
theorem dX6_closes_53 : decode cX6_closes 53 = .ok (.getfield 120, 3) := by decide +kernel
theorem dX6_closes_56 : decode cX6_closes 56 = .ok (.iload 4, 2) := by decide +kernel
theorem dX6_closes_58 : decode cX6_closes 58 = .ok (.invokevirtual 203, 3) := by decide +kernel
theorem dX6_closes_61 : decode cX6_closes 61 = .ok (.iload_n 2, 1) := by decide +kernel
theorem dX6_closes_62 : decode cX6_closes 62 = .ok (.invokevirtual 165, 3) := by decide +kernel
theorem dX6_closes_65 : decode cX6_closes 65 = .ok (.bipush (-9), 2) := by decide +kernel
theorem dX6_closes_67 : decode cX6_closes 67 = .ok (.if_icmp .ne 7, 3) := by decide +kernel
theorem dX6_closes_70 : decode cX6_closes 70 = .ok (.iconst 0, 1) := by decide +kernel
theorem dX6_closes_71 : decode cX6_closes 71 = .ok (.goto 4, 3) := by decide +kernel
theorem dX6_closes_74 : decode cX6_closes 74 = .ok (.iconst 1, 1) := by decide +kernel
theorem dX6_closes_75 : decode cX6_closes 75 = .ok (.iastore, 1) := by decide +kernel
theorem dX6_closes_76 : decode cX6_closes 76 = .ok (.iinc 4 1, 3) := by decide +kernel
theorem dX6_closes_79 : decode cX6_closes 79 = .ok (.goto (-47), 3) := by decide +kernel
theorem dX6_closes_82 : decode cX6_closes 82 = .ok (.aload_n 0, 1) := by decide +kernel
theorem dX6_closes_83 : decode cX6_closes 83 = .ok (.iload_n 1, 1) := by decide +kernel
theorem dX6_closes_84 : decode cX6_closes 84 = .ok (.invokevirtual 206, 3) := by decide +kernel
theorem dX6_closes_87 : decode cX6_closes 87 = .ok (.ifCond .ne 14, 3) := by decide +kernel
theorem dX6_closes_90 : decode cX6_closes 90 = .ok (.iload_n 3, 1) := by decide +kernel
theorem dX6_closes_91 : decode cX6_closes 91 = .ok (.ifCond .ne 7, 3) := by decide +kernel
theorem dX6_closes_94 : decode cX6_closes 94 = .ok (.iconst 0, 1) := by decide +kernel
theorem dX6_closes_95 : decode cX6_closes 95 = .ok (.goto 5, 3) := by decide +kernel
theorem dX6_closes_98 : decode cX6_closes 98 = .ok (.bipush (-9), 2) := by decide +kernel
theorem dX6_closes_100 : decode cX6_closes 100 = .ok (.ireturn, 1) := by decide +kernel
theorem dX6_closes_101 : decode cX6_closes 101 = .ok (.bipush (-9), 2) := by decide +kernel
theorem dX6_closes_103 : decode cX6_closes 103 = .ok (.istore 4, 2) := by decide +kernel
theorem dX6_closes_105 : decode cX6_closes 105 = .ok (.ldc 209, 2) := by decide +kernel
theorem dX6_closes_107 : decode cX6_closes 107 = .ok (.istore 5, 2) := by decide +kernel
theorem dX6_closes_109 : decode cX6_closes 109 = .ok (.iconst 0, 1) := by decide +kernel
theorem dX6_closes_110 : decode cX6_closes 110 = .ok (.istore 6, 2) := by decide +kernel
theorem dX6_closes_112 : decode cX6_closes 112 = .ok (.iload 6, 2) := by decide +kernel
theorem dX6_closes_114 : decode cX6_closes 114 = .ok (.aload_n 0, 1) := by decide +kernel
theorem dX6_closes_115 : decode cX6_closes 115 = .ok (.getfield 66, 3) := by decide +kernel
theorem dX6_closes_118 : decode cX6_closes 118 = .ok (.if_icmp .ge 70, 3) := by decide +kernel
theorem dX6_closes_121 : decode cX6_closes 121 = .ok (.aload_n 0, 1) := by decide +kernel
theorem dX6_closes_122 : decode cX6_closes 122 = .ok (.iload_n 1, 1) := by decide +kernel
theorem dX6_closes_123 : decode cX6_closes 123 = .ok (.iload 6, 2) := by decide +kernel
theorem dX6_closes_125 : decode cX6_closes 125 = .ok (.invokevirtual 146, 3) := by decide +kernel
theorem dX6_closes_128 : decode cX6_closes 128 = .ok (.ifCond .eq 18, 3) := by decide +kernel
theorem dX6_closes_131 : decode cX6_closes 131 = .ok (.aload_n 0, 1) := by decide +kernel
theorem dX6_closes_132 : decode cX6_closes 132 = .ok (.iload_n 1, 1) := by decide +kernel
theorem dX6_closes_133 : decode cX6_closes 133 = .ok (.aload_n 0, 1) := by decide +kernel
theorem dX6_closes_134 : decode cX6_closes 134 = .ok (.iload_n 1, 1) := by decide +kernel
theorem dX6_closes_135 : decode cX6_closes 135 = .ok (.iload 6, 2) := by decide +kernel
theorem dX6_closes_137 : decode cX6_closes 137 = .ok (.invokevirtual 133, 3) := by decide +kernel
theorem dX6_closes_140 : decode cX6_closes 140 = .ok (.invokevirtual 210, 3) := by decide +kernel
theorem dX6_closes_143 : decode cX6_closes 143 = .ok (.goto 5, 3) := by decide +kernel
theorem dX6_closes_146 : decode cX6_closes 146 = .ok (.ldc 209, 2) := by decide +kernel
theorem dX6_closes_148 : decode cX6_closes 148 = .ok (.istore 7, 2) := by decide +kernel
theorem dX6_closes_150 : decode cX6_closes 150 = .ok (.iload 7, 2) := by decide +kernel
theorem dX6_closes_152 : decode cX6_closes 152 = .ok (.iload 5, 2) := by decide +kernel
theorem dX6_closes_154 : decode cX6_closes 154 = .ok (.if_icmp .ge 8, 3) := by decide +kernel
theorem dX6_closes_157 : decode cX6_closes 157 = .ok (.iload 6, 2) := by decide +kernel
theorem dX6_closes_159 : decode cX6_closes 159 = .ok (.goto 5, 3) := by decide +kernel
theorem dX6_closes_162 : decode cX6_closes 162 = .ok (.iload 4, 2) := by decide +kernel
theorem dX6_closes_164 : decode cX6_closes 164 = .ok (.istore 4, 2) := by decide +kernel
theorem dX6_closes_166 : decode cX6_closes 166 = .ok (.iload 7, 2) := by decide +kernel
theorem dX6_closes_168 : decode cX6_closes 168 = .ok (.iload 5, 2) := by decide +kernel
theorem dX6_closes_170 : decode cX6_closes 170 = .ok (.if_icmp .ge 8, 3) := by decide +kernel
theorem dX6_closes_173 : decode cX6_closes 173 = .ok (.iload 7, 2) := by decide +kernel
theorem dX6_closes_175 : decode cX6_closes 175 = .ok (.goto 5, 3) := by decide +kernel
theorem dX6_closes_178 : decode cX6_closes 178 = .ok (.iload 5, 2) := by decide +kernel
theorem dX6_closes_180 : decode cX6_closes 180 = .ok (.istore 5, 2) := by decide +kernel
theorem dX6_closes_182 : decode cX6_closes 182 = .ok (.iinc 6 1, 3) := by decide +kernel
theorem dX6_closes_185 : decode cX6_closes 185 = .ok (.goto (-73), 3) := by decide +kernel
theorem dX6_closes_188 : decode cX6_closes 188 = .ok (.iload 4, 2) := by decide +kernel
theorem dX6_closes_190 : decode cX6_closes 190 = .ok (.bipush (-9), 2) := by decide +kernel
theorem dX6_closes_192 : decode cX6_closes 192 = .ok (.if_icmp .eq 8, 3) := by decide +kernel
theorem dX6_closes_195 : decode cX6_closes 195 = .ok (.iload_n 3, 1) := by decide +kernel
theorem dX6_closes_196 : decode cX6_closes 196 = .ok (.iconst 1, 1) := by decide +kernel
theorem dX6_closes_197 : decode cX6_closes 197 = .ok (.if_icmp .ne 8, 3) := by decide +kernel
theorem dX6_closes_200 : decode cX6_closes 200 = .ok (.iload 4, 2) := by decide +kernel
theorem dX6_closes_202 : decode cX6_closes 202 = .ok (.goto 5, 3) := by decide +kernel
theorem dX6_closes_205 : decode cX6_closes 205 = .ok (.iload 5, 2) := by decide +kernel
theorem dX6_closes_207 : decode cX6_closes 207 = .ok (.ireturn, 1) := by decide +kernel
theorem dX6_comesTwo_0 : decode cX6_comesTwo 0 = .ok (.iload_n 3, 1) := by decide +kernel
theorem dX6_comesTwo_1 : decode cX6_comesTwo 1 = .ok (.istore 4, 2) := by decide +kernel
theorem dX6_comesTwo_3 : decode cX6_comesTwo 3 = .ok (.iload 4, 2) := by decide +kernel
theorem dX6_comesTwo_5 : decode cX6_comesTwo 5 = .ok (.iload_n 2, 1) := by decide +kernel
theorem dX6_comesTwo_6 : decode cX6_comesTwo 6 = .ok (.if_icmp .lt 50, 3) := by decide +kernel
theorem dX6_comesTwo_9 : decode cX6_comesTwo 9 = .ok (.aload_n 0, 1) := by decide +kernel
theorem dX6_comesTwo_10 : decode cX6_comesTwo 10 = .ok (.getfield 49, 3) := by decide +kernel
theorem dX6_comesTwo_13 : decode cX6_comesTwo 13 = .ok (.iload 4, 2) := by decide +kernel
theorem dX6_comesTwo_15 : decode cX6_comesTwo 15 = .ok (.iload_n 2, 1) := by decide +kernel
theorem dX6_comesTwo_16 : decode cX6_comesTwo 16 = .ok (.isub, 1) := by decide +kernel
theorem dX6_comesTwo_17 : decode cX6_comesTwo 17 = .ok (.iaload, 1) := by decide +kernel
theorem dX6_comesTwo_18 : decode cX6_comesTwo 18 = .ok (.istore 5, 2) := by decide +kernel
theorem dX6_comesTwo_20 : decode cX6_comesTwo 20 = .ok (.iload 5, 2) := by decide +kernel
theorem dX6_comesTwo_22 : decode cX6_comesTwo 22 = .ok (.ifCond .lt 28, 3) := by decide +kernel
theorem dX6_comesTwo_25 : decode cX6_comesTwo 25 = .ok (.iload 5, 2) := by decide +kernel
theorem dX6_comesTwo_27 : decode cX6_comesTwo 27 = .ok (.iload_n 1, 1) := by decide +kernel
theorem dX6_comesTwo_28 : decode cX6_comesTwo 28 = .ok (.iadd, 1) := by decide +kernel
theorem dX6_comesTwo_29 : decode cX6_comesTwo 29 = .ok (.aload_n 0, 1) := by decide +kernel
theorem dX6_comesTwo_30 : decode cX6_comesTwo 30 = .ok (.getfield 49, 3) := by decide +kernel
theorem dX6_comesTwo_33 : decode cX6_comesTwo 33 = .ok (.iload 4, 2) := by decide +kernel
theorem dX6_comesTwo_35 : decode cX6_comesTwo 35 = .ok (.iaload, 1) := by decide +kernel
theorem dX6_comesTwo_36 : decode cX6_comesTwo 36 = .ok (.if_icmp .le 14, 3) := by decide +kernel
theorem dX6_comesTwo_39 : decode cX6_comesTwo 39 = .ok (.aload_n 0, 1) := by decide +kernel
theorem dX6_comesTwo_40 : decode cX6_comesTwo 40 = .ok (.getfield 49, 3) := by decide +kernel
theorem dX6_comesTwo_43 : decode cX6_comesTwo 43 = .ok (.iload 4, 2) := by decide +kernel
theorem dX6_comesTwo_45 : decode cX6_comesTwo 45 = .ok (.iload 5, 2) := by decide +kernel
theorem dX6_comesTwo_47 : decode cX6_comesTwo 47 = .ok (.iload_n 1, 1) := by decide +kernel
theorem dX6_comesTwo_48 : decode cX6_comesTwo 48 = .ok (.iadd, 1) := by decide +kernel
theorem dX6_comesTwo_49 : decode cX6_comesTwo 49 = .ok (.iastore, 1) := by decide +kernel
theorem dX6_comesTwo_50 : decode cX6_comesTwo 50 = .ok (.iinc 4 (-1), 3) := by decide +kernel
theorem dX6_comesTwo_53 : decode cX6_comesTwo 53 = .ok (.goto (-50), 3) := by decide +kernel
theorem dX6_comesTwo_56 : decode cX6_comesTwo 56 = .ok (.return_, 1) := by decide +kernel
theorem dX6_best_0 : decode cX6_best 0 = .ok (.aload_n 0, 1) := by decide +kernel
theorem dX6_best_1 : decode cX6_best 1 = .ok (.iload_n 1, 1) := by decide +kernel
theorem dX6_best_2 : decode cX6_best 2 = .ok (.invokevirtual 171, 3) := by decide +kernel
theorem dX6_best_5 : decode cX6_best 5 = .ok (.ifCond .eq 12, 3) := by decide +kernel
theorem dX6_best_8 : decode cX6_best 8 = .ok (.iload_n 2, 1) := by decide +kernel
theorem dX6_best_9 : decode cX6_best 9 = .ok (.iconst 0, 1) := by decide +kernel
theorem dX6_best_10 : decode cX6_best 10 = .ok (.iconst 1, 1) := by decide +kernel
theorem dX6_best_11 : decode cX6_best 11 = .ok (.invokestatic 62, 3) := by decide +kernel
theorem dX6_best_14 : decode cX6_best 14 = .ok (.ifCond .ne 5, 3) := by decide +kernel
theorem dX6_best_17 : decode cX6_best 17 = .ok (.iconst (-1), 1) := by decide +kernel
theorem dX6_best_18 : decode cX6_best 18 = .ok (.ireturn, 1) := by decide +kernel
theorem dX6_best_19 : decode cX6_best 19 = .ok (.aload_n 0, 1) := by decide +kernel
theorem dX6_best_20 : decode cX6_best 20 = .ok (.getfield 49, 3) := by decide +kernel
theorem dX6_best_23 : decode cX6_best 23 = .ok (.iconst 0, 1) := by decide +kernel
theorem dX6_best_24 : decode cX6_best 24 = .ok (.iconst 0, 1) := by decide +kernel
theorem dX6_best_25 : decode cX6_best 25 = .ok (.iastore, 1) := by decide +kernel
theorem dX6_best_26 : decode cX6_best 26 = .ok (.iconst 1, 1) := by decide +kernel
theorem dX6_best_27 : decode cX6_best 27 = .ok (.istore_n 3, 1) := by decide +kernel
theorem dX6_best_28 : decode cX6_best 28 = .ok (.iload_n 3, 1) := by decide +kernel
theorem dX6_best_29 : decode cX6_best 29 = .ok (.sipush 999, 3) := by decide +kernel
theorem dX6_best_32 : decode cX6_best 32 = .ok (.if_icmp .gt 16, 3) := by decide +kernel
theorem dX6_best_35 : decode cX6_best 35 = .ok (.aload_n 0, 1) := by decide +kernel
theorem dX6_best_36 : decode cX6_best 36 = .ok (.getfield 49, 3) := by decide +kernel
theorem dX6_best_39 : decode cX6_best 39 = .ok (.iload_n 3, 1) := by decide +kernel
theorem dX6_best_40 : decode cX6_best 40 = .ok (.iconst (-1), 1) := by decide +kernel
theorem dX6_best_41 : decode cX6_best 41 = .ok (.iastore, 1) := by decide +kernel
theorem dX6_best_42 : decode cX6_best 42 = .ok (.iinc 3 1, 3) := by decide +kernel
theorem dX6_best_45 : decode cX6_best 45 = .ok (.goto (-17), 3) := by decide +kernel
theorem dX6_best_48 : decode cX6_best 48 = .ok (.iconst 0, 1) := by decide +kernel
theorem dX6_best_49 : decode cX6_best 49 = .ok (.istore_n 3, 1) := by decide +kernel
theorem dX6_best_50 : decode cX6_best 50 = .ok (.iload_n 3, 1) := by decide +kernel
theorem dX6_best_51 : decode cX6_best 51 = .ok (.aload_n 0, 1) := by decide +kernel
theorem dX6_best_52 : decode cX6_best 52 = .ok (.getfield 58, 3) := by decide +kernel
theorem dX6_best_55 : decode cX6_best 55 = .ok (.if_icmp .ge 61, 3) := by decide +kernel
theorem dX6_best_58 : decode cX6_best 58 = .ok (.iconst 0, 1) := by decide +kernel
theorem dX6_best_59 : decode cX6_best 59 = .ok (.istore 4, 2) := by decide +kernel
theorem dX6_best_61 : decode cX6_best 61 = .ok (.iload 4, 2) := by decide +kernel
theorem dX6_best_63 : decode cX6_best 63 = .ok (.aload_n 0, 1) := by decide +kernel
theorem dX6_best_64 : decode cX6_best 64 = .ok (.getfield 66, 3) := by decide +kernel
theorem dX6_best_67 : decode cX6_best 67 = .ok (.if_icmp .ge 43, 3) := by decide +kernel
theorem dX6_best_70 : decode cX6_best 70 = .ok (.aload_n 0, 1) := by decide +kernel
theorem dX6_best_71 : decode cX6_best 71 = .ok (.iload_n 3, 1) := by decide +kernel
theorem dX6_best_72 : decode cX6_best 72 = .ok (.iload 4, 2) := by decide +kernel
theorem dX6_best_74 : decode cX6_best 74 = .ok (.invokevirtual 146, 3) := by decide +kernel
theorem dX6_best_77 : decode cX6_best 77 = .ok (.ifCond .eq 27, 3) := by decide +kernel
theorem dX6_best_80 : decode cX6_best 80 = .ok (.aload_n 0, 1) := by decide +kernel
theorem dX6_best_81 : decode cX6_best 81 = .ok (.aload_n 0, 1) := by decide +kernel
theorem dX6_best_82 : decode cX6_best 82 = .ok (.iload_n 3, 1) := by decide +kernel
theorem dX6_best_83 : decode cX6_best 83 = .ok (.iload 4, 2) := by decide +kernel
theorem dX6_best_85 : decode cX6_best 85 = .ok (.invokevirtual 149, 3) := by decide +kernel
theorem dX6_best_88 : decode cX6_best 88 = .ok (.aload_n 0, 1) := by decide +kernel
theorem dX6_best_89 : decode cX6_best 89 = .ok (.iload_n 3, 1) := by decide +kernel
theorem dX6_best_90 : decode cX6_best 90 = .ok (.iload 4, 2) := by decide +kernel
theorem dX6_best_92 : decode cX6_best 92 = .ok (.invokevirtual 152, 3) := by decide +kernel
theorem dX6_best_95 : decode cX6_best 95 = .ok (.aload_n 0, 1) := by decide +kernel
theorem dX6_best_96 : decode cX6_best 96 = .ok (.getfield 16, 3) := by decide +kernel
theorem dX6_best_99 : decode cX6_best 99 = .ok (.iload_n 1, 1) := by decide +kernel
theorem dX6_best_100 : decode cX6_best 100 = .ok (.iaload, 1) := by decide +kernel
theorem dX6_best_101 : decode cX6_best 101 = .ok (.invokevirtual 213, 3) := by decide +kernel
theorem dX6_best_104 : decode cX6_best 104 = .ok (.iinc 4 1, 3) := by decide +kernel
theorem dX6_best_107 : decode cX6_best 107 = .ok (.goto (-46), 3) := by decide +kernel
theorem dX6_best_110 : decode cX6_best 110 = .ok (.iinc 3 1, 3) := by decide +kernel
theorem dX6_best_113 : decode cX6_best 113 = .ok (.goto (-63), 3) := by decide +kernel
theorem dX6_best_116 : decode cX6_best 116 = .ok (.iconst 0, 1) := by decide +kernel
theorem dX6_best_117 : decode cX6_best 117 = .ok (.istore_n 3, 1) := by decide +kernel
theorem dX6_best_118 : decode cX6_best 118 = .ok (.iconst 1, 1) := by decide +kernel
theorem dX6_best_119 : decode cX6_best 119 = .ok (.istore 4, 2) := by decide +kernel
theorem dX6_best_121 : decode cX6_best 121 = .ok (.iload 4, 2) := by decide +kernel
theorem dX6_best_123 : decode cX6_best 123 = .ok (.aload_n 0, 1) := by decide +kernel
theorem dX6_best_124 : decode cX6_best 124 = .ok (.getfield 16, 3) := by decide +kernel
theorem dX6_best_127 : decode cX6_best 127 = .ok (.iload_n 1, 1) := by decide +kernel
theorem dX6_best_128 : decode cX6_best 128 = .ok (.iaload, 1) := by decide +kernel
theorem dX6_best_129 : decode cX6_best 129 = .ok (.if_icmp .gt 32, 3) := by decide +kernel
theorem dX6_best_132 : decode cX6_best 132 = .ok (.aload_n 0, 1) := by decide +kernel
theorem dX6_best_133 : decode cX6_best 133 = .ok (.getfield 49, 3) := by decide +kernel
theorem dX6_best_136 : decode cX6_best 136 = .ok (.iload 4, 2) := by decide +kernel
theorem dX6_best_138 : decode cX6_best 138 = .ok (.iaload, 1) := by decide +kernel
theorem dX6_best_139 : decode cX6_best 139 = .ok (.aload_n 0, 1) := by decide +kernel
theorem dX6_best_140 : decode cX6_best 140 = .ok (.getfield 49, 3) := by decide +kernel
theorem dX6_best_143 : decode cX6_best 143 = .ok (.iload_n 3, 1) := by decide +kernel
theorem dX6_best_144 : decode cX6_best 144 = .ok (.iaload, 1) := by decide +kernel
theorem dX6_best_145 : decode cX6_best 145 = .ok (.if_icmp .le 8, 3) := by decide +kernel
theorem dX6_best_148 : decode cX6_best 148 = .ok (.iload 4, 2) := by decide +kernel
theorem dX6_best_150 : decode cX6_best 150 = .ok (.goto 4, 3) := by decide +kernel
theorem dX6_best_153 : decode cX6_best 153 = .ok (.iload_n 3, 1) := by decide +kernel
theorem dX6_best_154 : decode cX6_best 154 = .ok (.istore_n 3, 1) := by decide +kernel
theorem dX6_best_155 : decode cX6_best 155 = .ok (.iinc 4 1, 3) := by decide +kernel
theorem dX6_best_158 : decode cX6_best 158 = .ok (.goto (-37), 3) := by decide +kernel
theorem dX6_best_161 : decode cX6_best 161 = .ok (.iload_n 2, 1) := by decide +kernel
theorem dX6_best_162 : decode cX6_best 162 = .ok (.ifCond .ne 12, 3) := by decide +kernel
theorem dX6_best_165 : decode cX6_best 165 = .ok (.aload_n 0, 1) := by decide +kernel
theorem dX6_best_166 : decode cX6_best 166 = .ok (.getfield 49, 3) := by decide +kernel
theorem dX6_best_169 : decode cX6_best 169 = .ok (.iload_n 3, 1) := by decide +kernel
theorem dX6_best_170 : decode cX6_best 170 = .ok (.iaload, 1) := by decide +kernel
theorem dX6_best_171 : decode cX6_best 171 = .ok (.goto 4, 3) := by decide +kernel
theorem dX6_best_174 : decode cX6_best 174 = .ok (.iload_n 3, 1) := by decide +kernel
theorem dX6_best_175 : decode cX6_best 175 = .ok (.ireturn, 1) := by decide +kernel
theorem dX6_meet_0 : decode cX6_meet 0 = .ok (.aload_n 0, 1) := by decide +kernel
theorem dX6_meet_1 : decode cX6_meet 1 = .ok (.iload_n 1, 1) := by decide +kernel
theorem dX6_meet_2 : decode cX6_meet 2 = .ok (.invokevirtual 178, 3) := by decide +kernel
theorem dX6_meet_5 : decode cX6_meet 5 = .ok (.ifCond .eq 16, 3) := by decide +kernel
theorem dX6_meet_8 : decode cX6_meet 8 = .ok (.aload_n 0, 1) := by decide +kernel
theorem dX6_meet_9 : decode cX6_meet 9 = .ok (.iload_n 2, 1) := by decide +kernel
theorem dX6_meet_10 : decode cX6_meet 10 = .ok (.invokevirtual 178, 3) := by decide +kernel
theorem dX6_meet_13 : decode cX6_meet 13 = .ok (.ifCond .eq 8, 3) := by decide +kernel
theorem dX6_meet_16 : decode cX6_meet 16 = .ok (.iload_n 1, 1) := by decide +kernel
theorem dX6_meet_17 : decode cX6_meet 17 = .ok (.iload_n 2, 1) := by decide +kernel
theorem dX6_meet_18 : decode cX6_meet 18 = .ok (.if_icmp .ne 5, 3) := by decide +kernel
theorem dX6_meet_21 : decode cX6_meet 21 = .ok (.iconst (-1), 1) := by decide +kernel
theorem dX6_meet_22 : decode cX6_meet 22 = .ok (.ireturn, 1) := by decide +kernel
theorem dX6_meet_23 : decode cX6_meet 23 = .ok (.aload_n 0, 1) := by decide +kernel
theorem dX6_meet_24 : decode cX6_meet 24 = .ok (.getfield 19, 3) := by decide +kernel
theorem dX6_meet_27 : decode cX6_meet 27 = .ok (.bipush 6, 2) := by decide +kernel
theorem dX6_meet_29 : decode cX6_meet 29 = .ok (.iload_n 1, 1) := by decide +kernel
theorem dX6_meet_30 : decode cX6_meet 30 = .ok (.imul, 1) := by decide +kernel
theorem dX6_meet_31 : decode cX6_meet 31 = .ok (.iconst 2, 1) := by decide +kernel
theorem dX6_meet_32 : decode cX6_meet 32 = .ok (.iadd, 1) := by decide +kernel
theorem dX6_meet_33 : decode cX6_meet 33 = .ok (.iaload, 1) := by decide +kernel
theorem dX6_meet_34 : decode cX6_meet 34 = .ok (.istore_n 3, 1) := by decide +kernel
theorem dX6_meet_35 : decode cX6_meet 35 = .ok (.iconst 0, 1) := by decide +kernel
theorem dX6_meet_36 : decode cX6_meet 36 = .ok (.istore 4, 2) := by decide +kernel
theorem dX6_meet_38 : decode cX6_meet 38 = .ok (.iconst 0, 1) := by decide +kernel
theorem dX6_meet_39 : decode cX6_meet 39 = .ok (.istore 5, 2) := by decide +kernel
theorem dX6_meet_41 : decode cX6_meet 41 = .ok (.iload 5, 2) := by decide +kernel
theorem dX6_meet_43 : decode cX6_meet 43 = .ok (.sipush 360, 3) := by decide +kernel
theorem dX6_meet_46 : decode cX6_meet 46 = .ok (.if_icmp .ge 41, 3) := by decide +kernel
theorem dX6_meet_49 : decode cX6_meet 49 = .ok (.iload 4, 2) := by decide +kernel
theorem dX6_meet_51 : decode cX6_meet 51 = .ok (.aload_n 0, 1) := by decide +kernel
theorem dX6_meet_52 : decode cX6_meet 52 = .ok (.iload_n 1, 1) := by decide +kernel
theorem dX6_meet_53 : decode cX6_meet 53 = .ok (.iload 5, 2) := by decide +kernel
theorem dX6_meet_55 : decode cX6_meet 55 = .ok (.iload_n 3, 1) := by decide +kernel
theorem dX6_meet_56 : decode cX6_meet 56 = .ok (.invokevirtual 162, 3) := by decide +kernel
theorem dX6_meet_59 : decode cX6_meet 59 = .ok (.ifCond .eq 18, 3) := by decide +kernel
theorem dX6_meet_62 : decode cX6_meet 62 = .ok (.aload_n 0, 1) := by decide +kernel
theorem dX6_meet_63 : decode cX6_meet 63 = .ok (.iload_n 2, 1) := by decide +kernel
theorem dX6_meet_64 : decode cX6_meet 64 = .ok (.iload 5, 2) := by decide +kernel
theorem dX6_meet_66 : decode cX6_meet 66 = .ok (.iload_n 3, 1) := by decide +kernel
theorem dX6_meet_67 : decode cX6_meet 67 = .ok (.invokevirtual 162, 3) := by decide +kernel
theorem dX6_meet_70 : decode cX6_meet 70 = .ok (.ifCond .eq 7, 3) := by decide +kernel
theorem dX6_meet_73 : decode cX6_meet 73 = .ok (.iconst 1, 1) := by decide +kernel
theorem dX6_meet_74 : decode cX6_meet 74 = .ok (.goto 4, 3) := by decide +kernel
theorem dX6_meet_77 : decode cX6_meet 77 = .ok (.iconst 0, 1) := by decide +kernel
theorem dX6_meet_78 : decode cX6_meet 78 = .ok (.iadd, 1) := by decide +kernel
theorem dX6_meet_79 : decode cX6_meet 79 = .ok (.istore 4, 2) := by decide +kernel
theorem dX6_meet_81 : decode cX6_meet 81 = .ok (.iinc 5 1, 3) := by decide +kernel
theorem dX6_meet_84 : decode cX6_meet 84 = .ok (.goto (-43), 3) := by decide +kernel
theorem dX6_meet_87 : decode cX6_meet 87 = .ok (.iload 4, 2) := by decide +kernel
theorem dX6_meet_89 : decode cX6_meet 89 = .ok (.ireturn, 1) := by decide +kernel
theorem dX6_odds_0 : decode cX6_odds 0 = .ok (.aload_n 0, 1) := by decide +kernel
theorem dX6_odds_1 : decode cX6_odds 1 = .ok (.iload_n 1, 1) := by decide +kernel
theorem dX6_odds_2 : decode cX6_odds 2 = .ok (.invokevirtual 139, 3) := by decide +kernel
theorem dX6_odds_5 : decode cX6_odds 5 = .ok (.ifCond .eq 32, 3) := by decide +kernel
theorem dX6_odds_8 : decode cX6_odds 8 = .ok (.aload_n 0, 1) := by decide +kernel
theorem dX6_odds_9 : decode cX6_odds 9 = .ok (.iload_n 2, 1) := by decide +kernel
theorem dX6_odds_10 : decode cX6_odds 10 = .ok (.invokevirtual 143, 3) := by decide +kernel
theorem dX6_odds_13 : decode cX6_odds 13 = .ok (.ifCond .eq 24, 3) := by decide +kernel
theorem dX6_odds_16 : decode cX6_odds 16 = .ok (.iload_n 3, 1) := by decide +kernel
theorem dX6_odds_17 : decode cX6_odds 17 = .ok (.iconst 0, 1) := by decide +kernel
theorem dX6_odds_18 : decode cX6_odds 18 = .ok (.sipush 359, 3) := by decide +kernel
theorem dX6_odds_21 : decode cX6_odds 21 = .ok (.invokestatic 62, 3) := by decide +kernel
theorem dX6_odds_24 : decode cX6_odds 24 = .ok (.ifCond .eq 13, 3) := by decide +kernel
theorem dX6_odds_27 : decode cX6_odds 27 = .ok (.iload 4, 2) := by decide +kernel
theorem dX6_odds_29 : decode cX6_odds 29 = .ok (.iconst 0, 1) := by decide +kernel
theorem dX6_odds_30 : decode cX6_odds 30 = .ok (.iconst 1, 1) := by decide +kernel
theorem dX6_odds_31 : decode cX6_odds 31 = .ok (.invokestatic 62, 3) := by decide +kernel
theorem dX6_odds_34 : decode cX6_odds 34 = .ok (.ifCond .ne 5, 3) := by decide +kernel
theorem dX6_odds_37 : decode cX6_odds 37 = .ok (.iconst (-1), 1) := by decide +kernel
theorem dX6_odds_38 : decode cX6_odds 38 = .ok (.ireturn, 1) := by decide +kernel
theorem dX6_odds_39 : decode cX6_odds 39 = .ok (.aload_n 0, 1) := by decide +kernel
theorem dX6_odds_40 : decode cX6_odds 40 = .ok (.iload_n 1, 1) := by decide +kernel
theorem dX6_odds_41 : decode cX6_odds 41 = .ok (.iload_n 2, 1) := by decide +kernel
theorem dX6_odds_42 : decode cX6_odds 42 = .ok (.invokevirtual 146, 3) := by decide +kernel
theorem dX6_odds_45 : decode cX6_odds 45 = .ok (.ifCond .ne 6, 3) := by decide +kernel
theorem dX6_odds_48 : decode cX6_odds 48 = .ok (.bipush (-2), 2) := by decide +kernel
theorem dX6_odds_50 : decode cX6_odds 50 = .ok (.ireturn, 1) := by decide +kernel
theorem dX6_odds_51 : decode cX6_odds 51 = .ok (.aload_n 0, 1) := by decide +kernel
theorem dX6_odds_52 : decode cX6_odds 52 = .ok (.iload_n 1, 1) := by decide +kernel
theorem dX6_odds_53 : decode cX6_odds 53 = .ok (.aload_n 0, 1) := by decide +kernel
theorem dX6_odds_54 : decode cX6_odds 54 = .ok (.getfield 120, 3) := by decide +kernel
theorem dX6_odds_57 : decode cX6_odds 57 = .ok (.iload_n 3, 1) := by decide +kernel
theorem dX6_odds_58 : decode cX6_odds 58 = .ok (.invokevirtual 155, 3) := by decide +kernel
theorem dX6_odds_61 : decode cX6_odds 61 = .ok (.bipush (-9), 2) := by decide +kernel
theorem dX6_odds_63 : decode cX6_odds 63 = .ok (.if_icmp .eq 7, 3) := by decide +kernel
theorem dX6_odds_66 : decode cX6_odds 66 = .ok (.iconst 1, 1) := by decide +kernel
theorem dX6_odds_67 : decode cX6_odds 67 = .ok (.goto 4, 3) := by decide +kernel
theorem dX6_odds_70 : decode cX6_odds 70 = .ok (.iconst 0, 1) := by decide +kernel
theorem dX6_odds_71 : decode cX6_odds 71 = .ok (.istore 5, 2) := by decide +kernel
theorem dX6_odds_73 : decode cX6_odds 73 = .ok (.iload 4, 2) := by decide +kernel
theorem dX6_odds_75 : decode cX6_odds 75 = .ok (.ifCond .ne 16, 3) := by decide +kernel
theorem dX6_odds_78 : decode cX6_odds 78 = .ok (.iload 5, 2) := by decide +kernel
theorem dX6_odds_80 : decode cX6_odds 80 = .ok (.ifCond .eq 7, 3) := by decide +kernel
theorem dX6_odds_83 : decode cX6_odds 83 = .ok (.iconst 1, 1) := by decide +kernel
theorem dX6_odds_84 : decode cX6_odds 84 = .ok (.goto 22, 3) := by decide +kernel
theorem dX6_odds_87 : decode cX6_odds 87 = .ok (.iconst 0, 1) := by decide +kernel
theorem dX6_odds_88 : decode cX6_odds 88 = .ok (.goto 18, 3) := by decide +kernel
theorem dX6_odds_91 : decode cX6_odds 91 = .ok (.iload 5, 2) := by decide +kernel
theorem dX6_odds_93 : decode cX6_odds 93 = .ok (.ifCond .eq 12, 3) := by decide +kernel
theorem dX6_odds_96 : decode cX6_odds 96 = .ok (.aload_n 0, 1) := by decide +kernel
theorem dX6_odds_97 : decode cX6_odds 97 = .ok (.iload_n 1, 1) := by decide +kernel
theorem dX6_odds_98 : decode cX6_odds 98 = .ok (.iload_n 2, 1) := by decide +kernel
theorem dX6_odds_99 : decode cX6_odds 99 = .ok (.invokevirtual 133, 3) := by decide +kernel
theorem dX6_odds_102 : decode cX6_odds 102 = .ok (.goto 4, 3) := by decide +kernel
theorem dX6_odds_105 : decode cX6_odds 105 = .ok (.iconst 1, 1) := by decide +kernel
theorem dX6_odds_106 : decode cX6_odds 106 = .ok (.ireturn, 1) := by decide +kernel
theorem dX6_sees_0 : decode cX6_sees 0 = .ok (.iload_n 1, 1) := by decide +kernel
theorem dX6_sees_1 : decode cX6_sees 1 = .ok (.iconst 0, 1) := by decide +kernel
theorem dX6_sees_2 : decode cX6_sees 2 = .ok (.bipush 119, 2) := by decide +kernel
theorem dX6_sees_4 : decode cX6_sees 4 = .ok (.invokestatic 62, 3) := by decide +kernel
theorem dX6_sees_7 : decode cX6_sees 7 = .ok (.ifCond .eq 12, 3) := by decide +kernel
theorem dX6_sees_10 : decode cX6_sees 10 = .ok (.iload_n 2, 1) := by decide +kernel
theorem dX6_sees_11 : decode cX6_sees 11 = .ok (.iconst 0, 1) := by decide +kernel
theorem dX6_sees_12 : decode cX6_sees 12 = .ok (.iconst 1, 1) := by decide +kernel
theorem dX6_sees_13 : decode cX6_sees 13 = .ok (.invokestatic 62, 3) := by decide +kernel
theorem dX6_sees_16 : decode cX6_sees 16 = .ok (.ifCond .ne 5, 3) := by decide +kernel
theorem dX6_sees_19 : decode cX6_sees 19 = .ok (.iconst (-1), 1) := by decide +kernel
theorem dX6_sees_20 : decode cX6_sees 20 = .ok (.ireturn, 1) := by decide +kernel
theorem dX6_sees_21 : decode cX6_sees 21 = .ok (.aload_n 0, 1) := by decide +kernel
theorem dX6_sees_22 : decode cX6_sees 22 = .ok (.getfield 123, 3) := by decide +kernel
theorem dX6_sees_25 : decode cX6_sees 25 = .ok (.bipush 6, 2) := by decide +kernel
theorem dX6_sees_27 : decode cX6_sees 27 = .ok (.if_icmp .ne 6, 3) := by decide +kernel
theorem dX6_sees_30 : decode cX6_sees 30 = .ok (.bipush (-3), 2) := by decide +kernel
theorem dX6_sees_32 : decode cX6_sees 32 = .ok (.ireturn, 1) := by decide +kernel
theorem dX6_sees_33 : decode cX6_sees 33 = .ok (.aload_n 0, 1) := by decide +kernel
theorem dX6_sees_34 : decode cX6_sees 34 = .ok (.getfield 22, 3) := by decide +kernel
theorem dX6_sees_37 : decode cX6_sees 37 = .ok (.aload_n 0, 1) := by decide +kernel
theorem dX6_sees_38 : decode cX6_sees 38 = .ok (.getfield 123, 3) := by decide +kernel
theorem dX6_sees_41 : decode cX6_sees 41 = .ok (.iload_n 1, 1) := by decide +kernel
theorem dX6_sees_42 : decode cX6_sees 42 = .ok (.iastore, 1) := by decide +kernel
theorem dX6_sees_43 : decode cX6_sees 43 = .ok (.aload_n 0, 1) := by decide +kernel
theorem dX6_sees_44 : decode cX6_sees 44 = .ok (.getfield 25, 3) := by decide +kernel
theorem dX6_sees_47 : decode cX6_sees 47 = .ok (.aload_n 0, 1) := by decide +kernel
theorem dX6_sees_48 : decode cX6_sees 48 = .ok (.getfield 123, 3) := by decide +kernel
theorem dX6_sees_51 : decode cX6_sees 51 = .ok (.iload_n 2, 1) := by decide +kernel
theorem dX6_sees_52 : decode cX6_sees 52 = .ok (.iastore, 1) := by decide +kernel
theorem dX6_sees_53 : decode cX6_sees 53 = .ok (.aload_n 0, 1) := by decide +kernel
theorem dX6_sees_54 : decode cX6_sees 54 = .ok (.dup, 1) := by decide +kernel
theorem dX6_sees_55 : decode cX6_sees 55 = .ok (.getfield 123, 3) := by decide +kernel
theorem dX6_sees_58 : decode cX6_sees 58 = .ok (.iconst 1, 1) := by decide +kernel
theorem dX6_sees_59 : decode cX6_sees 59 = .ok (.iadd, 1) := by decide +kernel
theorem dX6_sees_60 : decode cX6_sees 60 = .ok (.putfield 123, 3) := by decide +kernel
theorem dX6_sees_63 : decode cX6_sees 63 = .ok (.aload_n 0, 1) := by decide +kernel
theorem dX6_sees_64 : decode cX6_sees 64 = .ok (.getfield 123, 3) := by decide +kernel
theorem dX6_sees_67 : decode cX6_sees 67 = .ok (.ireturn, 1) := by decide +kernel
theorem dX6_forget_0 : decode cX6_forget 0 = .ok (.aload_n 0, 1) := by decide +kernel
theorem dX6_forget_1 : decode cX6_forget 1 = .ok (.getfield 123, 3) := by decide +kernel
theorem dX6_forget_4 : decode cX6_forget 4 = .ok (.istore_n 1, 1) := by decide +kernel
theorem dX6_forget_5 : decode cX6_forget 5 = .ok (.aload_n 0, 1) := by decide +kernel
theorem dX6_forget_6 : decode cX6_forget 6 = .ok (.iconst 0, 1) := by decide +kernel
theorem dX6_forget_7 : decode cX6_forget 7 = .ok (.putfield 123, 3) := by decide +kernel
theorem dX6_forget_10 : decode cX6_forget 10 = .ok (.iload_n 1, 1) := by decide +kernel
theorem dX6_forget_11 : decode cX6_forget 11 = .ok (.ireturn, 1) := by decide +kernel
theorem dX6_isSo_0 : decode cX6_isSo 0 = .ok (.iconst 1, 1) := by decide +kernel
theorem dX6_isSo_1 : decode cX6_isSo 1 = .ok (.istore 4, 2) := by decide +kernel
theorem dX6_isSo_3 : decode cX6_isSo 3 = .ok (.iconst 0, 1) := by decide +kernel
theorem dX6_isSo_4 : decode cX6_isSo 4 = .ok (.istore 5, 2) := by decide +kernel
theorem dX6_isSo_6 : decode cX6_isSo 6 = .ok (.iload 5, 2) := by decide +kernel
theorem dX6_isSo_8 : decode cX6_isSo 8 = .ok (.aload_n 0, 1) := by decide +kernel
theorem dX6_isSo_9 : decode cX6_isSo 9 = .ok (.getfield 123, 3) := by decide +kernel
theorem dX6_isSo_12 : decode cX6_isSo 12 = .ok (.if_icmp .ge 85, 3) := by decide +kernel
theorem dX6_isSo_15 : decode cX6_isSo 15 = .ok (.aload_n 0, 1) := by decide +kernel
theorem dX6_isSo_16 : decode cX6_isSo 16 = .ok (.getfield 22, 3) := by decide +kernel
theorem dX6_isSo_19 : decode cX6_isSo 19 = .ok (.iload 5, 2) := by decide +kernel
theorem dX6_isSo_21 : decode cX6_isSo 21 = .ok (.iaload, 1) := by decide +kernel
theorem dX6_isSo_22 : decode cX6_isSo 22 = .ok (.aload_n 0, 1) := by decide +kernel
theorem dX6_isSo_23 : decode cX6_isSo 23 = .ok (.getfield 7, 3) := by decide +kernel
theorem dX6_isSo_26 : decode cX6_isSo 26 = .ok (.iload_n 1, 1) := by decide +kernel
theorem dX6_isSo_27 : decode cX6_isSo 27 = .ok (.iaload, 1) := by decide +kernel
theorem dX6_isSo_28 : decode cX6_isSo 28 = .ok (.if_icmp .ge 27, 3) := by decide +kernel
theorem dX6_isSo_31 : decode cX6_isSo 31 = .ok (.aload_n 0, 1) := by decide +kernel
theorem dX6_isSo_32 : decode cX6_isSo 32 = .ok (.iload_n 1, 1) := by decide +kernel
theorem dX6_isSo_33 : decode cX6_isSo 33 = .ok (.iload_n 2, 1) := by decide +kernel
theorem dX6_isSo_34 : decode cX6_isSo 34 = .ok (.invokevirtual 133, 3) := by decide +kernel
theorem dX6_isSo_37 : decode cX6_isSo 37 = .ok (.aload_n 0, 1) := by decide +kernel
theorem dX6_isSo_38 : decode cX6_isSo 38 = .ok (.getfield 22, 3) := by decide +kernel
theorem dX6_isSo_41 : decode cX6_isSo 41 = .ok (.iload 5, 2) := by decide +kernel
theorem dX6_isSo_43 : decode cX6_isSo 43 = .ok (.iaload, 1) := by decide +kernel
theorem dX6_isSo_44 : decode cX6_isSo 44 = .ok (.iload_n 3, 1) := by decide +kernel
theorem dX6_isSo_45 : decode cX6_isSo 45 = .ok (.invokestatic 159, 3) := by decide +kernel
theorem dX6_isSo_48 : decode cX6_isSo 48 = .ok (.ifCond .eq 7, 3) := by decide +kernel
theorem dX6_isSo_51 : decode cX6_isSo 51 = .ok (.iconst 1, 1) := by decide +kernel
theorem dX6_isSo_52 : decode cX6_isSo 52 = .ok (.goto 4, 3) := by decide +kernel
theorem dX6_isSo_55 : decode cX6_isSo 55 = .ok (.iconst 0, 1) := by decide +kernel
theorem dX6_isSo_56 : decode cX6_isSo 56 = .ok (.istore 6, 2) := by decide +kernel
theorem dX6_isSo_58 : decode cX6_isSo 58 = .ok (.iload 4, 2) := by decide +kernel
theorem dX6_isSo_60 : decode cX6_isSo 60 = .ok (.ifCond .eq 28, 3) := by decide +kernel
theorem dX6_isSo_63 : decode cX6_isSo 63 = .ok (.iload 6, 2) := by decide +kernel
theorem dX6_isSo_65 : decode cX6_isSo 65 = .ok (.aload_n 0, 1) := by decide +kernel
theorem dX6_isSo_66 : decode cX6_isSo 66 = .ok (.getfield 25, 3) := by decide +kernel
theorem dX6_isSo_69 : decode cX6_isSo 69 = .ok (.iload 5, 2) := by decide +kernel
theorem dX6_isSo_71 : decode cX6_isSo 71 = .ok (.iaload, 1) := by decide +kernel
theorem dX6_isSo_72 : decode cX6_isSo 72 = .ok (.iconst 1, 1) := by decide +kernel
theorem dX6_isSo_73 : decode cX6_isSo 73 = .ok (.if_icmp .ne 7, 3) := by decide +kernel
theorem dX6_isSo_76 : decode cX6_isSo 76 = .ok (.iconst 1, 1) := by decide +kernel
theorem dX6_isSo_77 : decode cX6_isSo 77 = .ok (.goto 4, 3) := by decide +kernel
theorem dX6_isSo_80 : decode cX6_isSo 80 = .ok (.iconst 0, 1) := by decide +kernel
theorem dX6_isSo_81 : decode cX6_isSo 81 = .ok (.if_icmp .ne 7, 3) := by decide +kernel
theorem dX6_isSo_84 : decode cX6_isSo 84 = .ok (.iconst 1, 1) := by decide +kernel
theorem dX6_isSo_85 : decode cX6_isSo 85 = .ok (.goto 4, 3) := by decide +kernel
theorem dX6_isSo_88 : decode cX6_isSo 88 = .ok (.iconst 0, 1) := by decide +kernel
theorem dX6_isSo_89 : decode cX6_isSo 89 = .ok (.istore 4, 2) := by decide +kernel
theorem dX6_isSo_91 : decode cX6_isSo 91 = .ok (.iinc 5 1, 3) := by decide +kernel
theorem dX6_isSo_94 : decode cX6_isSo 94 = .ok (.goto (-88), 3) := by decide +kernel
theorem dX6_isSo_97 : decode cX6_isSo 97 = .ok (.iload 4, 2) := by decide +kernel
theorem dX6_isSo_99 : decode cX6_isSo 99 = .ok (.ireturn, 1) := by decide +kernel
theorem dX6_guess_0 : decode cX6_guess 0 = .ok (.aload_n 0, 1) := by decide +kernel
theorem dX6_guess_1 : decode cX6_guess 1 = .ok (.iload_n 1, 1) := by decide +kernel
theorem dX6_guess_2 : decode cX6_guess 2 = .ok (.invokevirtual 139, 3) := by decide +kernel
theorem dX6_guess_5 : decode cX6_guess 5 = .ok (.ifCond .eq 12, 3) := by decide +kernel
theorem dX6_guess_8 : decode cX6_guess 8 = .ok (.iload_n 2, 1) := by decide +kernel
theorem dX6_guess_9 : decode cX6_guess 9 = .ok (.iconst 0, 1) := by decide +kernel
theorem dX6_guess_10 : decode cX6_guess 10 = .ok (.iconst 1, 1) := by decide +kernel
theorem dX6_guess_11 : decode cX6_guess 11 = .ok (.invokestatic 62, 3) := by decide +kernel
theorem dX6_guess_14 : decode cX6_guess 14 = .ok (.ifCond .ne 5, 3) := by decide +kernel
theorem dX6_guess_17 : decode cX6_guess 17 = .ok (.iconst (-1), 1) := by decide +kernel
theorem dX6_guess_18 : decode cX6_guess 18 = .ok (.ireturn, 1) := by decide +kernel
theorem dX6_guess_19 : decode cX6_guess 19 = .ok (.iconst 0, 1) := by decide +kernel
theorem dX6_guess_20 : decode cX6_guess 20 = .ok (.istore_n 3, 1) := by decide +kernel
theorem dX6_guess_21 : decode cX6_guess 21 = .ok (.bipush (-9), 2) := by decide +kernel
theorem dX6_guess_23 : decode cX6_guess 23 = .ok (.istore 4, 2) := by decide +kernel
theorem dX6_guess_25 : decode cX6_guess 25 = .ok (.aload_n 0, 1) := by decide +kernel
theorem dX6_guess_26 : decode cX6_guess 26 = .ok (.getfield 66, 3) := by decide +kernel
theorem dX6_guess_29 : decode cX6_guess 29 = .ok (.iconst 1, 1) := by decide +kernel
theorem dX6_guess_30 : decode cX6_guess 30 = .ok (.isub, 1) := by decide +kernel
theorem dX6_guess_31 : decode cX6_guess 31 = .ok (.istore 5, 2) := by decide +kernel
theorem dX6_guess_33 : decode cX6_guess 33 = .ok (.iload 5, 2) := by decide +kernel
theorem dX6_guess_35 : decode cX6_guess 35 = .ok (.ifCond .lt 66, 3) := by decide +kernel
theorem dX6_guess_38 : decode cX6_guess 38 = .ok (.aload_n 0, 1) := by decide +kernel
theorem dX6_guess_39 : decode cX6_guess 39 = .ok (.getfield 7, 3) := by decide +kernel
theorem dX6_guess_42 : decode cX6_guess 42 = .ok (.iload_n 1, 1) := by decide +kernel
theorem dX6_guess_43 : decode cX6_guess 43 = .ok (.iaload, 1) := by decide +kernel
theorem dX6_guess_44 : decode cX6_guess 44 = .ok (.iconst 1, 1) := by decide +kernel
theorem dX6_guess_45 : decode cX6_guess 45 = .ok (.isub, 1) := by decide +kernel
theorem dX6_guess_46 : decode cX6_guess 46 = .ok (.istore 6, 2) := by decide +kernel
theorem dX6_guess_48 : decode cX6_guess 48 = .ok (.iload 6, 2) := by decide +kernel
theorem dX6_guess_50 : decode cX6_guess 50 = .ok (.ifCond .lt 45, 3) := by decide +kernel
theorem dX6_guess_53 : decode cX6_guess 53 = .ok (.aload_n 0, 1) := by decide +kernel
theorem dX6_guess_54 : decode cX6_guess 54 = .ok (.iload_n 1, 1) := by decide +kernel
theorem dX6_guess_55 : decode cX6_guess 55 = .ok (.iload 5, 2) := by decide +kernel
theorem dX6_guess_57 : decode cX6_guess 57 = .ok (.invokevirtual 146, 3) := by decide +kernel
theorem dX6_guess_60 : decode cX6_guess 60 = .ok (.ifCond .eq 29, 3) := by decide +kernel
theorem dX6_guess_63 : decode cX6_guess 63 = .ok (.aload_n 0, 1) := by decide +kernel
theorem dX6_guess_64 : decode cX6_guess 64 = .ok (.iload_n 1, 1) := by decide +kernel
theorem dX6_guess_65 : decode cX6_guess 65 = .ok (.iload 5, 2) := by decide +kernel
theorem dX6_guess_67 : decode cX6_guess 67 = .ok (.iload 6, 2) := by decide +kernel
theorem dX6_guess_69 : decode cX6_guess 69 = .ok (.invokevirtual 217, 3) := by decide +kernel
theorem dX6_guess_72 : decode cX6_guess 72 = .ok (.ifCond .eq 17, 3) := by decide +kernel
theorem dX6_guess_75 : decode cX6_guess 75 = .ok (.iinc 3 1, 3) := by decide +kernel
theorem dX6_guess_78 : decode cX6_guess 78 = .ok (.sipush 1000, 3) := by decide +kernel
theorem dX6_guess_81 : decode cX6_guess 81 = .ok (.iload 5, 2) := by decide +kernel
theorem dX6_guess_83 : decode cX6_guess 83 = .ok (.imul, 1) := by decide +kernel
theorem dX6_guess_84 : decode cX6_guess 84 = .ok (.iload 6, 2) := by decide +kernel
theorem dX6_guess_86 : decode cX6_guess 86 = .ok (.iadd, 1) := by decide +kernel
theorem dX6_guess_87 : decode cX6_guess 87 = .ok (.istore 4, 2) := by decide +kernel
theorem dX6_guess_89 : decode cX6_guess 89 = .ok (.iinc 6 (-1), 3) := by decide +kernel
theorem dX6_guess_92 : decode cX6_guess 92 = .ok (.goto (-44), 3) := by decide +kernel
theorem dX6_guess_95 : decode cX6_guess 95 = .ok (.iinc 5 (-1), 3) := by decide +kernel
theorem dX6_guess_98 : decode cX6_guess 98 = .ok (.goto (-65), 3) := by decide +kernel
theorem dX6_guess_101 : decode cX6_guess 101 = .ok (.iload_n 2, 1) := by decide +kernel
theorem dX6_guess_102 : decode cX6_guess 102 = .ok (.ifCond .ne 7, 3) := by decide +kernel
theorem dX6_guess_105 : decode cX6_guess 105 = .ok (.iload_n 3, 1) := by decide +kernel
theorem dX6_guess_106 : decode cX6_guess 106 = .ok (.goto 5, 3) := by decide +kernel
theorem dX6_guess_109 : decode cX6_guess 109 = .ok (.iload 4, 2) := by decide +kernel
theorem dX6_guess_111 : decode cX6_guess 111 = .ok (.ireturn, 1) := by decide +kernel
theorem dX6_look_0 : decode cX6_look 0 = .ok (.aload_n 0, 1) := by decide +kernel
theorem dX6_look_1 : decode cX6_look 1 = .ok (.iload_n 1, 1) := by decide +kernel
theorem dX6_look_2 : decode cX6_look 2 = .ok (.invokevirtual 139, 3) := by decide +kernel
theorem dX6_look_5 : decode cX6_look 5 = .ok (.ifCond .ne 5, 3) := by decide +kernel
theorem dX6_look_8 : decode cX6_look 8 = .ok (.iconst (-1), 1) := by decide +kernel
theorem dX6_look_9 : decode cX6_look 9 = .ok (.ireturn, 1) := by decide +kernel
theorem dX6_look_10 : decode cX6_look 10 = .ok (.iconst 0, 1) := by decide +kernel
theorem dX6_look_11 : decode cX6_look 11 = .ok (.istore_n 2, 1) := by decide +kernel
theorem dX6_look_12 : decode cX6_look 12 = .ok (.iconst 0, 1) := by decide +kernel
theorem dX6_look_13 : decode cX6_look 13 = .ok (.istore_n 3, 1) := by decide +kernel
theorem dX6_look_14 : decode cX6_look 14 = .ok (.iload_n 3, 1) := by decide +kernel
theorem dX6_look_15 : decode cX6_look 15 = .ok (.aload_n 0, 1) := by decide +kernel
theorem dX6_look_16 : decode cX6_look 16 = .ok (.getfield 7, 3) := by decide +kernel
theorem dX6_look_19 : decode cX6_look 19 = .ok (.iload_n 1, 1) := by decide +kernel
theorem dX6_look_20 : decode cX6_look 20 = .ok (.iaload, 1) := by decide +kernel
theorem dX6_look_21 : decode cX6_look 21 = .ok (.if_icmp .ge 16, 3) := by decide +kernel
theorem dX6_look_24 : decode cX6_look 24 = .ok (.aload_n 0, 1) := by decide +kernel
theorem dX6_look_25 : decode cX6_look 25 = .ok (.getfield 52, 3) := by decide +kernel
theorem dX6_look_28 : decode cX6_look 28 = .ok (.iload_n 3, 1) := by decide +kernel
theorem dX6_look_29 : decode cX6_look 29 = .ok (.iconst 0, 1) := by decide +kernel
theorem dX6_look_30 : decode cX6_look 30 = .ok (.iastore, 1) := by decide +kernel
theorem dX6_look_31 : decode cX6_look 31 = .ok (.iinc 3 1, 3) := by decide +kernel
theorem dX6_look_34 : decode cX6_look 34 = .ok (.goto (-20), 3) := by decide +kernel
theorem dX6_look_37 : decode cX6_look 37 = .ok (.iconst 0, 1) := by decide +kernel
theorem dX6_look_38 : decode cX6_look 38 = .ok (.istore_n 3, 1) := by decide +kernel
theorem dX6_look_39 : decode cX6_look 39 = .ok (.iload_n 3, 1) := by decide +kernel
theorem dX6_look_40 : decode cX6_look 40 = .ok (.aload_n 0, 1) := by decide +kernel
theorem dX6_look_41 : decode cX6_look 41 = .ok (.getfield 66, 3) := by decide +kernel
theorem dX6_look_44 : decode cX6_look 44 = .ok (.if_icmp .ge 99, 3) := by decide +kernel
theorem dX6_look_47 : decode cX6_look 47 = .ok (.iconst 0, 1) := by decide +kernel
theorem dX6_look_48 : decode cX6_look 48 = .ok (.istore 4, 2) := by decide +kernel
theorem dX6_look_50 : decode cX6_look 50 = .ok (.iload 4, 2) := by decide +kernel
theorem dX6_look_52 : decode cX6_look 52 = .ok (.aload_n 0, 1) := by decide +kernel
theorem dX6_look_53 : decode cX6_look 53 = .ok (.getfield 7, 3) := by decide +kernel
theorem dX6_look_56 : decode cX6_look 56 = .ok (.iload_n 1, 1) := by decide +kernel
theorem dX6_look_57 : decode cX6_look 57 = .ok (.iaload, 1) := by decide +kernel
theorem dX6_look_58 : decode cX6_look 58 = .ok (.if_icmp .ge 79, 3) := by decide +kernel
theorem dX6_look_61 : decode cX6_look 61 = .ok (.aload_n 0, 1) := by decide +kernel
theorem dX6_look_62 : decode cX6_look 62 = .ok (.iload_n 1, 1) := by decide +kernel
theorem dX6_look_63 : decode cX6_look 63 = .ok (.iload_n 3, 1) := by decide +kernel
theorem dX6_look_64 : decode cX6_look 64 = .ok (.invokevirtual 146, 3) := by decide +kernel
theorem dX6_look_67 : decode cX6_look 67 = .ok (.ifCond .eq 64, 3) := by decide +kernel
theorem dX6_look_70 : decode cX6_look 70 = .ok (.aload_n 0, 1) := by decide +kernel
theorem dX6_look_71 : decode cX6_look 71 = .ok (.iload_n 1, 1) := by decide +kernel
theorem dX6_look_72 : decode cX6_look 72 = .ok (.iload_n 3, 1) := by decide +kernel
theorem dX6_look_73 : decode cX6_look 73 = .ok (.iload 4, 2) := by decide +kernel
theorem dX6_look_75 : decode cX6_look 75 = .ok (.invokevirtual 217, 3) := by decide +kernel
theorem dX6_look_78 : decode cX6_look 78 = .ok (.ifCond .eq 53, 3) := by decide +kernel
theorem dX6_look_81 : decode cX6_look 81 = .ok (.iinc 2 1, 3) := by decide +kernel
theorem dX6_look_84 : decode cX6_look 84 = .ok (.iload 4, 2) := by decide +kernel
theorem dX6_look_86 : decode cX6_look 86 = .ok (.aload_n 0, 1) := by decide +kernel
theorem dX6_look_87 : decode cX6_look 87 = .ok (.iload_n 1, 1) := by decide +kernel
theorem dX6_look_88 : decode cX6_look 88 = .ok (.iload_n 3, 1) := by decide +kernel
theorem dX6_look_89 : decode cX6_look 89 = .ok (.invokevirtual 133, 3) := by decide +kernel
theorem dX6_look_92 : decode cX6_look 92 = .ok (.irem, 1) := by decide +kernel
theorem dX6_look_93 : decode cX6_look 93 = .ok (.istore 5, 2) := by decide +kernel
theorem dX6_look_95 : decode cX6_look 95 = .ok (.iload 5, 2) := by decide +kernel
theorem dX6_look_97 : decode cX6_look 97 = .ok (.aload_n 0, 1) := by decide +kernel
theorem dX6_look_98 : decode cX6_look 98 = .ok (.getfield 7, 3) := by decide +kernel
theorem dX6_look_101 : decode cX6_look 101 = .ok (.iload_n 1, 1) := by decide +kernel
theorem dX6_look_102 : decode cX6_look 102 = .ok (.iaload, 1) := by decide +kernel
theorem dX6_look_103 : decode cX6_look 103 = .ok (.if_icmp .ge 28, 3) := by decide +kernel
theorem dX6_look_106 : decode cX6_look 106 = .ok (.aload_n 0, 1) := by decide +kernel
theorem dX6_look_107 : decode cX6_look 107 = .ok (.getfield 52, 3) := by decide +kernel
theorem dX6_look_110 : decode cX6_look 110 = .ok (.iload 5, 2) := by decide +kernel
theorem dX6_look_112 : decode cX6_look 112 = .ok (.dup2, 1) := by decide +kernel
theorem dX6_look_113 : decode cX6_look 113 = .ok (.iaload, 1) := by decide +kernel
theorem dX6_look_114 : decode cX6_look 114 = .ok (.iconst 1, 1) := by decide +kernel
theorem dX6_look_115 : decode cX6_look 115 = .ok (.iadd, 1) := by decide +kernel
theorem dX6_look_116 : decode cX6_look 116 = .ok (.iastore, 1) := by decide +kernel
theorem dX6_look_117 : decode cX6_look 117 = .ok (.iload 5, 2) := by decide +kernel
theorem dX6_look_119 : decode cX6_look 119 = .ok (.aload_n 0, 1) := by decide +kernel
theorem dX6_look_120 : decode cX6_look 120 = .ok (.iload_n 1, 1) := by decide +kernel
theorem dX6_look_121 : decode cX6_look 121 = .ok (.iload_n 3, 1) := by decide +kernel
theorem dX6_look_122 : decode cX6_look 122 = .ok (.invokevirtual 133, 3) := by decide +kernel
theorem dX6_look_125 : decode cX6_look 125 = .ok (.iadd, 1) := by decide +kernel
theorem dX6_look_126 : decode cX6_look 126 = .ok (.istore 5, 2) := by decide +kernel
theorem dX6_look_128 : decode cX6_look 128 = .ok (.goto (-33), 3) := by decide +kernel
theorem dX6_look_131 : decode cX6_look 131 = .ok (.iinc 4 1, 3) := by decide +kernel
theorem dX6_look_134 : decode cX6_look 134 = .ok (.goto (-84), 3) := by decide +kernel
theorem dX6_look_137 : decode cX6_look 137 = .ok (.iinc 3 1, 3) := by decide +kernel
theorem dX6_look_140 : decode cX6_look 140 = .ok (.goto (-101), 3) := by decide +kernel
theorem dX6_look_143 : decode cX6_look 143 = .ok (.bipush (-9), 2) := by decide +kernel
theorem dX6_look_145 : decode cX6_look 145 = .ok (.istore_n 3, 1) := by decide +kernel
theorem dX6_look_146 : decode cX6_look 146 = .ok (.iload_n 2, 1) := by decide +kernel
theorem dX6_look_147 : decode cX6_look 147 = .ok (.istore 4, 2) := by decide +kernel
theorem dX6_look_149 : decode cX6_look 149 = .ok (.iconst 0, 1) := by decide +kernel
theorem dX6_look_150 : decode cX6_look 150 = .ok (.istore 5, 2) := by decide +kernel
theorem dX6_look_152 : decode cX6_look 152 = .ok (.iload 5, 2) := by decide +kernel
theorem dX6_look_154 : decode cX6_look 154 = .ok (.aload_n 0, 1) := by decide +kernel
theorem dX6_look_155 : decode cX6_look 155 = .ok (.getfield 7, 3) := by decide +kernel
theorem dX6_look_158 : decode cX6_look 158 = .ok (.iload_n 1, 1) := by decide +kernel
theorem dX6_look_159 : decode cX6_look 159 = .ok (.iaload, 1) := by decide +kernel
theorem dX6_look_160 : decode cX6_look 160 = .ok (.if_icmp .ge 79, 3) := by decide +kernel
theorem dX6_look_163 : decode cX6_look 163 = .ok (.aload_n 0, 1) := by decide +kernel
theorem dX6_look_164 : decode cX6_look 164 = .ok (.getfield 52, 3) := by decide +kernel
theorem dX6_look_167 : decode cX6_look 167 = .ok (.iload 5, 2) := by decide +kernel
theorem dX6_look_169 : decode cX6_look 169 = .ok (.iaload, 1) := by decide +kernel
theorem dX6_look_170 : decode cX6_look 170 = .ok (.iload_n 2, 1) := by decide +kernel
theorem dX6_look_171 : decode cX6_look 171 = .ok (.aload_n 0, 1) := by decide +kernel
theorem dX6_look_172 : decode cX6_look 172 = .ok (.getfield 52, 3) := by decide +kernel
theorem dX6_look_175 : decode cX6_look 175 = .ok (.iload 5, 2) := by decide +kernel
theorem dX6_look_177 : decode cX6_look 177 = .ok (.iaload, 1) := by decide +kernel
theorem dX6_look_178 : decode cX6_look 178 = .ok (.isub, 1) := by decide +kernel
theorem dX6_look_179 : decode cX6_look 179 = .ok (.if_icmp .le 13, 3) := by decide +kernel
theorem dX6_look_182 : decode cX6_look 182 = .ok (.aload_n 0, 1) := by decide +kernel
theorem dX6_look_183 : decode cX6_look 183 = .ok (.getfield 52, 3) := by decide +kernel
theorem dX6_look_186 : decode cX6_look 186 = .ok (.iload 5, 2) := by decide +kernel
theorem dX6_look_188 : decode cX6_look 188 = .ok (.iaload, 1) := by decide +kernel
theorem dX6_look_189 : decode cX6_look 189 = .ok (.goto 12, 3) := by decide +kernel
theorem dX6_look_192 : decode cX6_look 192 = .ok (.iload_n 2, 1) := by decide +kernel
theorem dX6_look_193 : decode cX6_look 193 = .ok (.aload_n 0, 1) := by decide +kernel
theorem dX6_look_194 : decode cX6_look 194 = .ok (.getfield 52, 3) := by decide +kernel
theorem dX6_look_197 : decode cX6_look 197 = .ok (.iload 5, 2) := by decide +kernel
theorem dX6_look_199 : decode cX6_look 199 = .ok (.iaload, 1) := by decide +kernel
theorem dX6_look_200 : decode cX6_look 200 = .ok (.isub, 1) := by decide +kernel
theorem dX6_look_201 : decode cX6_look 201 = .ok (.istore 6, 2) := by decide +kernel
theorem dX6_look_203 : decode cX6_look 203 = .ok (.iload 6, 2) := by decide +kernel
theorem dX6_look_205 : decode cX6_look 205 = .ok (.iload 4, 2) := by decide +kernel
theorem dX6_look_207 : decode cX6_look 207 = .ok (.if_icmp .ge 8, 3) := by decide +kernel
theorem dX6_look_210 : decode cX6_look 210 = .ok (.iload 5, 2) := by decide +kernel
theorem dX6_look_212 : decode cX6_look 212 = .ok (.goto 4, 3) := by decide +kernel
theorem dX6_look_215 : decode cX6_look 215 = .ok (.iload_n 3, 1) := by decide +kernel
theorem dX6_look_216 : decode cX6_look 216 = .ok (.istore_n 3, 1) := by decide +kernel
theorem dX6_look_217 : decode cX6_look 217 = .ok (.iload 6, 2) := by decide +kernel
theorem dX6_look_219 : decode cX6_look 219 = .ok (.iload 4, 2) := by decide +kernel
theorem dX6_look_221 : decode cX6_look 221 = .ok (.if_icmp .ge 8, 3) := by decide +kernel
theorem dX6_look_224 : decode cX6_look 224 = .ok (.iload 6, 2) := by decide +kernel
theorem dX6_look_226 : decode cX6_look 226 = .ok (.goto 5, 3) := by decide +kernel
theorem dX6_look_229 : decode cX6_look 229 = .ok (.iload 4, 2) := by decide +kernel
theorem dX6_look_231 : decode cX6_look 231 = .ok (.istore 4, 2) := by decide +kernel
theorem dX6_look_233 : decode cX6_look 233 = .ok (.iinc 5 1, 3) := by decide +kernel
theorem dX6_look_236 : decode cX6_look 236 = .ok (.goto (-84), 3) := by decide +kernel
theorem dX6_look_239 : decode cX6_look 239 = .ok (.iload_n 3, 1) := by decide +kernel
