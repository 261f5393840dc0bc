theorem dX0_init_0 : decode cX0_init 0 = .ok (.aload_n 0, 1) := by decide +kernel
theorem dX0_init_1 : decode cX0_init 1 = .ok (.invokespecial 3, 3) := by decide +kernel
theorem dX0_init_4 : decode cX0_init 4 = .ok (.aload_n 0, 1) := by decide +kernel
theorem dX0_init_5 : decode cX0_init 5 = .ok (.iconst 4, 1) := by decide +kernel
theorem dX0_init_6 : decode cX0_init 6 = .ok (.newarray .int, 2) := by decide +kernel
theorem dX0_init_8 : decode cX0_init 8 = .ok (.putfield 9, 3) := by decide +kernel
theorem dX0_init_11 : decode cX0_init 11 = .ok (.aload_n 0, 1) := by decide +kernel
theorem dX0_init_12 : decode cX0_init 12 = .ok (.bipush 6, 2) := by decide +kernel
theorem dX0_init_14 : decode cX0_init 14 = .ok (.newarray .int, 2) := by decide +kernel
theorem dX0_init_16 : decode cX0_init 16 = .ok (.putfield 15, 3) := by decide +kernel
theorem dX0_init_19 : decode cX0_init 19 = .ok (.aload_n 0, 1) := by decide +kernel
theorem dX0_init_20 : decode cX0_init 20 = .ok (.iconst 4, 1) := by decide +kernel
theorem dX0_init_21 : decode cX0_init 21 = .ok (.newarray .int, 2) := by decide +kernel
theorem dX0_init_23 : decode cX0_init 23 = .ok (.putfield 18, 3) := by decide +kernel
theorem dX0_init_26 : decode cX0_init 26 = .ok (.aload_n 0, 1) := by decide +kernel
theorem dX0_init_27 : decode cX0_init 27 = .ok (.iconst 0, 1) := by decide +kernel
theorem dX0_init_28 : decode cX0_init 28 = .ok (.putfield 21, 3) := by decide +kernel
theorem dX0_init_31 : decode cX0_init 31 = .ok (.aload_n 0, 1) := by decide +kernel
theorem dX0_init_32 : decode cX0_init 32 = .ok (.iconst 0, 1) := by decide +kernel
theorem dX0_init_33 : decode cX0_init 33 = .ok (.putfield 25, 3) := by decide +kernel
theorem dX0_init_36 : decode cX0_init 36 = .ok (.aload_n 0, 1) := by decide +kernel
theorem dX0_init_37 : decode cX0_init 37 = .ok (.iconst 0, 1) := by decide +kernel
theorem dX0_init_38 : decode cX0_init 38 = .ok (.putfield 28, 3) := by decide +kernel
theorem dX0_init_41 : decode cX0_init 41 = .ok (.return_, 1) := by decide +kernel
theorem dX0_hasRoomFor_0 : decode cX0_hasRoomFor 0 = .ok (.iload_n 1, 1) := by decide +kernel
theorem dX0_hasRoomFor_1 : decode cX0_hasRoomFor 1 = .ok (.lookupswitch 78 #[(112, 64), (114, 35), (119, 49)], 35) := by decide +kernel
theorem dX0_hasRoomFor_36 : decode cX0_hasRoomFor 36 = .ok (.aload_n 0, 1) := by decide +kernel
theorem dX0_hasRoomFor_37 : decode cX0_hasRoomFor 37 = .ok (.getfield 21, 3) := by decide +kernel
theorem dX0_hasRoomFor_40 : decode cX0_hasRoomFor 40 = .ok (.iconst 4, 1) := by decide +kernel
theorem dX0_hasRoomFor_41 : decode cX0_hasRoomFor 41 = .ok (.if_icmp .ge 7, 3) := by decide +kernel
theorem dX0_hasRoomFor_44 : decode cX0_hasRoomFor 44 = .ok (.iconst 1, 1) := by decide +kernel
theorem dX0_hasRoomFor_45 : decode cX0_hasRoomFor 45 = .ok (.goto 4, 3) := by decide +kernel
theorem dX0_hasRoomFor_48 : decode cX0_hasRoomFor 48 = .ok (.iconst 0, 1) := by decide +kernel
theorem dX0_hasRoomFor_49 : decode cX0_hasRoomFor 49 = .ok (.ireturn, 1) := by decide +kernel
theorem dX0_hasRoomFor_50 : decode cX0_hasRoomFor 50 = .ok (.aload_n 0, 1) := by decide +kernel
theorem dX0_hasRoomFor_51 : decode cX0_hasRoomFor 51 = .ok (.getfield 25, 3) := by decide +kernel
theorem dX0_hasRoomFor_54 : decode cX0_hasRoomFor 54 = .ok (.bipush 6, 2) := by decide +kernel
theorem dX0_hasRoomFor_56 : decode cX0_hasRoomFor 56 = .ok (.if_icmp .ge 7, 3) := by decide +kernel
theorem dX0_hasRoomFor_59 : decode cX0_hasRoomFor 59 = .ok (.iconst 1, 1) := by decide +kernel
theorem dX0_hasRoomFor_60 : decode cX0_hasRoomFor 60 = .ok (.goto 4, 3) := by decide +kernel
theorem dX0_hasRoomFor_63 : decode cX0_hasRoomFor 63 = .ok (.iconst 0, 1) := by decide +kernel
theorem dX0_hasRoomFor_64 : decode cX0_hasRoomFor 64 = .ok (.ireturn, 1) := by decide +kernel
theorem dX0_hasRoomFor_65 : decode cX0_hasRoomFor 65 = .ok (.aload_n 0, 1) := by decide +kernel
theorem dX0_hasRoomFor_66 : decode cX0_hasRoomFor 66 = .ok (.getfield 28, 3) := by decide +kernel
theorem dX0_hasRoomFor_69 : decode cX0_hasRoomFor 69 = .ok (.iconst 4, 1) := by decide +kernel
theorem dX0_hasRoomFor_70 : decode cX0_hasRoomFor 70 = .ok (.if_icmp .ge 7, 3) := by decide +kernel
theorem dX0_hasRoomFor_73 : decode cX0_hasRoomFor 73 = .ok (.iconst 1, 1) := by decide +kernel
theorem dX0_hasRoomFor_74 : decode cX0_hasRoomFor 74 = .ok (.goto 4, 3) := by decide +kernel
theorem dX0_hasRoomFor_77 : decode cX0_hasRoomFor 77 = .ok (.iconst 0, 1) := by decide +kernel
theorem dX0_hasRoomFor_78 : decode cX0_hasRoomFor 78 = .ok (.ireturn, 1) := by decide +kernel
theorem dX0_hasRoomFor_79 : decode cX0_hasRoomFor 79 = .ok (.iconst 0, 1) := by decide +kernel
theorem dX0_hasRoomFor_80 : decode cX0_hasRoomFor 80 = .ok (.ireturn, 1) := by decide +kernel
theorem dX0_adds_0 : decode cX0_adds 0 = .ok (.iload_n 1, 1) := by decide +kernel
theorem dX0_adds_1 : decode cX0_adds 1 = .ok (.lookupswitch 53 #[(112, 47), (114, 35), (119, 41)], 35) := by decide +kernel
theorem dX0_adds_36 : decode cX0_adds 36 = .ok (.aload_n 0, 1) := by decide +kernel
theorem dX0_adds_37 : decode cX0_adds 37 = .ok (.iload_n 2, 1) := by decide +kernel
theorem dX0_adds_38 : decode cX0_adds 38 = .ok (.invokevirtual 31, 3) := by decide +kernel
theorem dX0_adds_41 : decode cX0_adds 41 = .ok (.ireturn, 1) := by decide +kernel
theorem dX0_adds_42 : decode cX0_adds 42 = .ok (.aload_n 0, 1) := by decide +kernel
theorem dX0_adds_43 : decode cX0_adds 43 = .ok (.iload_n 2, 1) := by decide +kernel
theorem dX0_adds_44 : decode cX0_adds 44 = .ok (.invokevirtual 35, 3) := by decide +kernel
theorem dX0_adds_47 : decode cX0_adds 47 = .ok (.ireturn, 1) := by decide +kernel
theorem dX0_adds_48 : decode cX0_adds 48 = .ok (.aload_n 0, 1) := by decide +kernel
theorem dX0_adds_49 : decode cX0_adds 49 = .ok (.iload_n 2, 1) := by decide +kernel
theorem dX0_adds_50 : decode cX0_adds 50 = .ok (.invokevirtual 38, 3) := by decide +kernel
theorem dX0_adds_53 : decode cX0_adds 53 = .ok (.ireturn, 1) := by decide +kernel
theorem dX0_adds_54 : decode cX0_adds 54 = .ok (.iconst 0, 1) := by decide +kernel
theorem dX0_adds_55 : decode cX0_adds 55 = .ok (.ireturn, 1) := by decide +kernel
theorem dX0_addsRing_0 : decode cX0_addsRing 0 = .ok (.aload_n 0, 1) := by decide +kernel
theorem dX0_addsRing_1 : decode cX0_addsRing 1 = .ok (.getfield 21, 3) := by decide +kernel
theorem dX0_addsRing_4 : decode cX0_addsRing 4 = .ok (.iconst 4, 1) := by decide +kernel
theorem dX0_addsRing_5 : decode cX0_addsRing 5 = .ok (.if_icmp .ge 24, 3) := by decide +kernel
theorem dX0_addsRing_8 : decode cX0_addsRing 8 = .ok (.iload_n 1, 1) := by decide +kernel
theorem dX0_addsRing_9 : decode cX0_addsRing 9 = .ok (.bipush 12, 2) := by decide +kernel
theorem dX0_addsRing_11 : decode cX0_addsRing 11 = .ok (.bipush 120, 2) := by decide +kernel
theorem dX0_addsRing_13 : decode cX0_addsRing 13 = .ok (.invokestatic 41, 3) := by decide +kernel
theorem dX0_addsRing_16 : decode cX0_addsRing 16 = .ok (.ifCond .eq 13, 3) := by decide +kernel
theorem dX0_addsRing_19 : decode cX0_addsRing 19 = .ok (.sipush 360, 3) := by decide +kernel
theorem dX0_addsRing_22 : decode cX0_addsRing 22 = .ok (.iload_n 1, 1) := by decide +kernel
theorem dX0_addsRing_23 : decode cX0_addsRing 23 = .ok (.invokestatic 45, 3) := by decide +kernel
theorem dX0_addsRing_26 : decode cX0_addsRing 26 = .ok (.ifCond .eq 5, 3) := by decide +kernel
theorem dX0_addsRing_29 : decode cX0_addsRing 29 = .ok (.iconst 0, 1) := by decide +kernel
theorem dX0_addsRing_30 : decode cX0_addsRing 30 = .ok (.ireturn, 1) := by decide +kernel
theorem dX0_addsRing_31 : decode cX0_addsRing 31 = .ok (.aload_n 0, 1) := by decide +kernel
theorem dX0_addsRing_32 : decode cX0_addsRing 32 = .ok (.getfield 9, 3) := by decide +kernel
theorem dX0_addsRing_35 : decode cX0_addsRing 35 = .ok (.aload_n 0, 1) := by decide +kernel
theorem dX0_addsRing_36 : decode cX0_addsRing 36 = .ok (.getfield 21, 3) := by decide +kernel
theorem dX0_addsRing_39 : decode cX0_addsRing 39 = .ok (.iload_n 1, 1) := by decide +kernel
theorem dX0_addsRing_40 : decode cX0_addsRing 40 = .ok (.iastore, 1) := by decide +kernel
theorem dX0_addsRing_41 : decode cX0_addsRing 41 = .ok (.aload_n 0, 1) := by decide +kernel
theorem dX0_addsRing_42 : decode cX0_addsRing 42 = .ok (.dup, 1) := by decide +kernel
theorem dX0_addsRing_43 : decode cX0_addsRing 43 = .ok (.getfield 21, 3) := by decide +kernel
theorem dX0_addsRing_46 : decode cX0_addsRing 46 = .ok (.iconst 1, 1) := by decide +kernel
theorem dX0_addsRing_47 : decode cX0_addsRing 47 = .ok (.iadd, 1) := by decide +kernel
theorem dX0_addsRing_48 : decode cX0_addsRing 48 = .ok (.putfield 21, 3) := by decide +kernel
theorem dX0_addsRing_51 : decode cX0_addsRing 51 = .ok (.iconst 1, 1) := by decide +kernel
theorem dX0_addsRing_52 : decode cX0_addsRing 52 = .ok (.ireturn, 1) := by decide +kernel
theorem dX0_addsWheel_0 : decode cX0_addsWheel 0 = .ok (.aload_n 0, 1) := by decide +kernel
theorem dX0_addsWheel_1 : decode cX0_addsWheel 1 = .ok (.getfield 25, 3) := by decide +kernel
theorem dX0_addsWheel_4 : decode cX0_addsWheel 4 = .ok (.bipush 6, 2) := by decide +kernel
theorem dX0_addsWheel_6 : decode cX0_addsWheel 6 = .ok (.if_icmp .ge 13, 3) := by decide +kernel
theorem dX0_addsWheel_9 : decode cX0_addsWheel 9 = .ok (.iload_n 1, 1) := by decide +kernel
theorem dX0_addsWheel_10 : decode cX0_addsWheel 10 = .ok (.iconst 3, 1) := by decide +kernel
theorem dX0_addsWheel_11 : decode cX0_addsWheel 11 = .ok (.bipush 99, 2) := by decide +kernel
theorem dX0_addsWheel_13 : decode cX0_addsWheel 13 = .ok (.invokestatic 41, 3) := by decide +kernel
theorem dX0_addsWheel_16 : decode cX0_addsWheel 16 = .ok (.ifCond .ne 5, 3) := by decide +kernel
theorem dX0_addsWheel_19 : decode cX0_addsWheel 19 = .ok (.iconst 0, 1) := by decide +kernel
theorem dX0_addsWheel_20 : decode cX0_addsWheel 20 = .ok (.ireturn, 1) := by decide +kernel
theorem dX0_addsWheel_21 : decode cX0_addsWheel 21 = .ok (.aload_n 0, 1) := by decide +kernel
theorem dX0_addsWheel_22 : decode cX0_addsWheel 22 = .ok (.getfield 15, 3) := by decide +kernel
theorem dX0_addsWheel_25 : decode cX0_addsWheel 25 = .ok (.aload_n 0, 1) := by decide +kernel
theorem dX0_addsWheel_26 : decode cX0_addsWheel 26 = .ok (.getfield 25, 3) := by decide +kernel
theorem dX0_addsWheel_29 : decode cX0_addsWheel 29 = .ok (.iload_n 1, 1) := by decide +kernel
theorem dX0_addsWheel_30 : decode cX0_addsWheel 30 = .ok (.iastore, 1) := by decide +kernel
theorem dX0_addsWheel_31 : decode cX0_addsWheel 31 = .ok (.aload_n 0, 1) := by decide +kernel
theorem dX0_addsWheel_32 : decode cX0_addsWheel 32 = .ok (.dup, 1) := by decide +kernel
theorem dX0_addsWheel_33 : decode cX0_addsWheel 33 = .ok (.getfield 25, 3) := by decide +kernel
theorem dX0_addsWheel_36 : decode cX0_addsWheel 36 = .ok (.iconst 1, 1) := by decide +kernel
theorem dX0_addsWheel_37 : decode cX0_addsWheel 37 = .ok (.iadd, 1) := by decide +kernel
theorem dX0_addsWheel_38 : decode cX0_addsWheel 38 = .ok (.putfield 25, 3) := by decide +kernel
theorem dX0_addsWheel_41 : decode cX0_addsWheel 41 = .ok (.iconst 1, 1) := by decide +kernel
theorem dX0_addsWheel_42 : decode cX0_addsWheel 42 = .ok (.ireturn, 1) := by decide +kernel
theorem dX0_addsPen_0 : decode cX0_addsPen 0 = .ok (.aload_n 0, 1) := by decide +kernel
theorem dX0_addsPen_1 : decode cX0_addsPen 1 = .ok (.getfield 28, 3) := by decide +kernel
theorem dX0_addsPen_4 : decode cX0_addsPen 4 = .ok (.iconst 4, 1) := by decide +kernel
theorem dX0_addsPen_5 : decode cX0_addsPen 5 = .ok (.if_icmp .ge 14, 3) := by decide +kernel
theorem dX0_addsPen_8 : decode cX0_addsPen 8 = .ok (.iload_n 1, 1) := by decide +kernel
theorem dX0_addsPen_9 : decode cX0_addsPen 9 = .ok (.iconst 0, 1) := by decide +kernel
theorem dX0_addsPen_10 : decode cX0_addsPen 10 = .ok (.sipush 999, 3) := by decide +kernel
theorem dX0_addsPen_13 : decode cX0_addsPen 13 = .ok (.invokestatic 41, 3) := by decide +kernel
theorem dX0_addsPen_16 : decode cX0_addsPen 16 = .ok (.ifCond .ne 5, 3) := by decide +kernel
theorem dX0_addsPen_19 : decode cX0_addsPen 19 = .ok (.iconst 0, 1) := by decide +kernel
theorem dX0_addsPen_20 : decode cX0_addsPen 20 = .ok (.ireturn, 1) := by decide +kernel
theorem dX0_addsPen_21 : decode cX0_addsPen 21 = .ok (.aload_n 0, 1) := by decide +kernel
theorem dX0_addsPen_22 : decode cX0_addsPen 22 = .ok (.getfield 18, 3) := by decide +kernel
theorem dX0_addsPen_25 : decode cX0_addsPen 25 = .ok (.aload_n 0, 1) := by decide +kernel
theorem dX0_addsPen_26 : decode cX0_addsPen 26 = .ok (.getfield 28, 3) := by decide +kernel
theorem dX0_addsPen_29 : decode cX0_addsPen 29 = .ok (.iload_n 1, 1) := by decide +kernel
theorem dX0_addsPen_30 : decode cX0_addsPen 30 = .ok (.iastore, 1) := by decide +kernel
theorem dX0_addsPen_31 : decode cX0_addsPen 31 = .ok (.aload_n 0, 1) := by decide +kernel
theorem dX0_addsPen_32 : decode cX0_addsPen 32 = .ok (.dup, 1) := by decide +kernel
theorem dX0_addsPen_33 : decode cX0_addsPen 33 = .ok (.getfield 28, 3) := by decide +kernel
theorem dX0_addsPen_36 : decode cX0_addsPen 36 = .ok (.iconst 1, 1) := by decide +kernel
theorem dX0_addsPen_37 : decode cX0_addsPen 37 = .ok (.iadd, 1) := by decide +kernel
theorem dX0_addsPen_38 : decode cX0_addsPen 38 = .ok (.putfield 28, 3) := by decide +kernel
theorem dX0_addsPen_41 : decode cX0_addsPen 41 = .ok (.iconst 1, 1) := by decide +kernel
theorem dX0_addsPen_42 : decode cX0_addsPen 42 = .ok (.ireturn, 1) := by decide +kernel
theorem dX0_items_0 : decode cX0_items 0 = .ok (.aload_n 0, 1) := by decide +kernel
theorem dX0_items_1 : decode cX0_items 1 = .ok (.getfield 21, 3) := by decide +kernel
theorem dX0_items_4 : decode cX0_items 4 = .ok (.aload_n 0, 1) := by decide +kernel
theorem dX0_items_5 : decode cX0_items 5 = .ok (.getfield 25, 3) := by decide +kernel
theorem dX0_items_8 : decode cX0_items 8 = .ok (.iadd, 1) := by decide +kernel
theorem dX0_items_9 : decode cX0_items 9 = .ok (.aload_n 0, 1) := by decide +kernel
theorem dX0_items_10 : decode cX0_items 10 = .ok (.getfield 28, 3) := by decide +kernel
theorem dX0_items_13 : decode cX0_items 13 = .ok (.iadd, 1) := by decide +kernel
theorem dX0_items_14 : decode cX0_items 14 = .ok (.ireturn, 1) := by decide +kernel
theorem dX0_hasRing_0 : decode cX0_hasRing 0 = .ok (.iload_n 1, 1) := by decide +kernel
theorem dX0_hasRing_1 : decode cX0_hasRing 1 = .ok (.ifCond .lt 15, 3) := by decide +kernel
theorem dX0_hasRing_4 : decode cX0_hasRing 4 = .ok (.iload_n 1, 1) := by decide +kernel
theorem dX0_hasRing_5 : decode cX0_hasRing 5 = .ok (.aload_n 0, 1) := by decide +kernel
theorem dX0_hasRing_6 : decode cX0_hasRing 6 = .ok (.getfield 21, 3) := by decide +kernel
theorem dX0_hasRing_9 : decode cX0_hasRing 9 = .ok (.if_icmp .ge 7, 3) := by decide +kernel
theorem dX0_hasRing_12 : decode cX0_hasRing 12 = .ok (.iconst 1, 1) := by decide +kernel
theorem dX0_hasRing_13 : decode cX0_hasRing 13 = .ok (.goto 4, 3) := by decide +kernel
theorem dX0_hasRing_16 : decode cX0_hasRing 16 = .ok (.iconst 0, 1) := by decide +kernel
theorem dX0_hasRing_17 : decode cX0_hasRing 17 = .ok (.ireturn, 1) := by decide +kernel
theorem dX0_hasWheel_0 : decode cX0_hasWheel 0 = .ok (.iload_n 1, 1) := by decide +kernel
theorem dX0_hasWheel_1 : decode cX0_hasWheel 1 = .ok (.ifCond .lt 15, 3) := by decide +kernel
theorem dX0_hasWheel_4 : decode cX0_hasWheel 4 = .ok (.iload_n 1, 1) := by decide +kernel
theorem dX0_hasWheel_5 : decode cX0_hasWheel 5 = .ok (.aload_n 0, 1) := by decide +kernel
theorem dX0_hasWheel_6 : decode cX0_hasWheel 6 = .ok (.getfield 25, 3) := by decide +kernel
theorem dX0_hasWheel_9 : decode cX0_hasWheel 9 = .ok (.if_icmp .ge 7, 3) := by decide +kernel
theorem dX0_hasWheel_12 : decode cX0_hasWheel 12 = .ok (.iconst 1, 1) := by decide +kernel
theorem dX0_hasWheel_13 : decode cX0_hasWheel 13 = .ok (.goto 4, 3) := by decide +kernel
theorem dX0_hasWheel_16 : decode cX0_hasWheel 16 = .ok (.iconst 0, 1) := by decide +kernel
theorem dX0_hasWheel_17 : decode cX0_hasWheel 17 = .ok (.ireturn, 1) := by decide +kernel
theorem dX0_hasPen_0 : decode cX0_hasPen 0 = .ok (.iload_n 1, 1) := by decide +kernel
theorem dX0_hasPen_1 : decode cX0_hasPen 1 = .ok (.ifCond .lt 15, 3) := by decide +kernel
theorem dX0_hasPen_4 : decode cX0_hasPen 4 = .ok (.iload_n 1, 1) := by decide +kernel
theorem dX0_hasPen_5 : decode cX0_hasPen 5 = .ok (.aload_n 0, 1) := by decide +kernel
theorem dX0_hasPen_6 : decode cX0_hasPen 6 = .ok (.getfield 28, 3) := by decide +kernel
theorem dX0_hasPen_9 : decode cX0_hasPen 9 = .ok (.if_icmp .ge 7, 3) := by decide +kernel
theorem dX0_hasPen_12 : decode cX0_hasPen 12 = .ok (.iconst 1, 1) := by decide +kernel
theorem dX0_hasPen_13 : decode cX0_hasPen 13 = .ok (.goto 4, 3) := by decide +kernel
theorem dX0_hasPen_16 : decode cX0_hasPen 16 = .ok (.iconst 0, 1) := by decide +kernel
theorem dX0_hasPen_17 : decode cX0_hasPen 17 = .ok (.ireturn, 1) := by decide +kernel
theorem dX0_teethOf_0 : decode cX0_teethOf 0 = .ok (.aload_n 0, 1) := by decide +kernel
theorem dX0_teethOf_1 : decode cX0_teethOf 1 = .ok (.iload_n 1, 1) := by decide +kernel
theorem dX0_teethOf_2 : decode cX0_teethOf 2 = .ok (.invokevirtual 49, 3) := by decide +kernel
theorem dX0_teethOf_5 : decode cX0_teethOf 5 = .ok (.ifCond .eq 12, 3) := by decide +kernel
theorem dX0_teethOf_8 : decode cX0_teethOf 8 = .ok (.aload_n 0, 1) := by decide +kernel
theorem dX0_teethOf_9 : decode cX0_teethOf 9 = .ok (.getfield 9, 3) := by decide +kernel
theorem dX0_teethOf_12 : decode cX0_teethOf 12 = .ok (.iload_n 1, 1) := by decide +kernel
theorem dX0_teethOf_13 : decode cX0_teethOf 13 = .ok (.iaload, 1) := by decide +kernel
theorem dX0_teethOf_14 : decode cX0_teethOf 14 = .ok (.goto 4, 3) := by decide +kernel
theorem dX0_teethOf_17 : decode cX0_teethOf 17 = .ok (.iconst 0, 1) := by decide +kernel
theorem dX0_teethOf_18 : decode cX0_teethOf 18 = .ok (.ireturn, 1) := by decide +kernel
theorem dX0_cogsOf_0 : decode cX0_cogsOf 0 = .ok (.aload_n 0, 1) := by decide +kernel
theorem dX0_cogsOf_1 : decode cX0_cogsOf 1 = .ok (.iload_n 1, 1) := by decide +kernel
theorem dX0_cogsOf_2 : decode cX0_cogsOf 2 = .ok (.invokevirtual 52, 3) := by decide +kernel
theorem dX0_cogsOf_5 : decode cX0_cogsOf 5 = .ok (.ifCond .eq 12, 3) := by decide +kernel
theorem dX0_cogsOf_8 : decode cX0_cogsOf 8 = .ok (.aload_n 0, 1) := by decide +kernel
theorem dX0_cogsOf_9 : decode cX0_cogsOf 9 = .ok (.getfield 15, 3) := by decide +kernel
theorem dX0_cogsOf_12 : decode cX0_cogsOf 12 = .ok (.iload_n 1, 1) := by decide +kernel
theorem dX0_cogsOf_13 : decode cX0_cogsOf 13 = .ok (.iaload, 1) := by decide +kernel
theorem dX0_cogsOf_14 : decode cX0_cogsOf 14 = .ok (.goto 4, 3) := by decide +kernel
theorem dX0_cogsOf_17 : decode cX0_cogsOf 17 = .ok (.iconst 0, 1) := by decide +kernel
theorem dX0_cogsOf_18 : decode cX0_cogsOf 18 = .ok (.ireturn, 1) := by decide +kernel
theorem dX0_inkTold_0 : decode cX0_inkTold 0 = .ok (.aload_n 0, 1) := by decide +kernel
theorem dX0_inkTold_1 : decode cX0_inkTold 1 = .ok (.getfield 18, 3) := by decide +kernel
theorem dX0_inkTold_4 : decode cX0_inkTold 4 = .ok (.aload_n 0, 1) := by decide +kernel
theorem dX0_inkTold_5 : decode cX0_inkTold 5 = .ok (.getfield 28, 3) := by decide +kernel
theorem dX0_inkTold_8 : decode cX0_inkTold 8 = .ok (.invokestatic 55, 3) := by decide +kernel
theorem dX0_inkTold_11 : decode cX0_inkTold 11 = .ok (.areturn, 1) := by decide +kernel
theorem dX0_fits_0 : decode cX0_fits 0 = .ok (.aload_n 0, 1) := by decide +kernel
theorem dX0_fits_1 : decode cX0_fits 1 = .ok (.iload_n 1, 1) := by decide +kernel
theorem dX0_fits_2 : decode cX0_fits 2 = .ok (.invokevirtual 49, 3) := by decide +kernel
theorem dX0_fits_5 : decode cX0_fits 5 = .ok (.ifCond .eq 28, 3) := by decide +kernel
theorem dX0_fits_8 : decode cX0_fits 8 = .ok (.aload_n 0, 1) := by decide +kernel
theorem dX0_fits_9 : decode cX0_fits 9 = .ok (.iload_n 2, 1) := by decide +kernel
theorem dX0_fits_10 : decode cX0_fits 10 = .ok (.invokevirtual 52, 3) := by decide +kernel
theorem dX0_fits_13 : decode cX0_fits 13 = .ok (.ifCond .eq 20, 3) := by decide +kernel
theorem dX0_fits_16 : decode cX0_fits 16 = .ok (.aload_n 0, 1) := by decide +kernel
theorem dX0_fits_17 : decode cX0_fits 17 = .ok (.iload_n 2, 1) := by decide +kernel
theorem dX0_fits_18 : decode cX0_fits 18 = .ok (.invokevirtual 61, 3) := by decide +kernel
theorem dX0_fits_21 : decode cX0_fits 21 = .ok (.aload_n 0, 1) := by decide +kernel
theorem dX0_fits_22 : decode cX0_fits 22 = .ok (.iload_n 1, 1) := by decide +kernel
theorem dX0_fits_23 : decode cX0_fits 23 = .ok (.invokevirtual 65, 3) := by decide +kernel
theorem dX0_fits_26 : decode cX0_fits 26 = .ok (.if_icmp .ge 7, 3) := by decide +kernel
theorem dX0_fits_29 : decode cX0_fits 29 = .ok (.iconst 1, 1) := by decide +kernel
theorem dX0_fits_30 : decode cX0_fits 30 = .ok (.goto 4, 3) := by decide +kernel
theorem dX0_fits_33 : decode cX0_fits 33 = .ok (.iconst 0, 1) := by decide +kernel
theorem dX0_fits_34 : decode cX0_fits 34 = .ok (.ireturn, 1) := by decide +kernel
theorem dX0_divisorOf_0 : decode cX0_divisorOf 0 = .ok (.aload_n 0, 1) := by decide +kernel
theorem dX0_divisorOf_1 : decode cX0_divisorOf 1 = .ok (.iload_n 1, 1) := by decide +kernel
theorem dX0_divisorOf_2 : decode cX0_divisorOf 2 = .ok (.invokevirtual 65, 3) := by decide +kernel
theorem dX0_divisorOf_5 : decode cX0_divisorOf 5 = .ok (.aload_n 0, 1) := by decide +kernel
theorem dX0_divisorOf_6 : decode cX0_divisorOf 6 = .ok (.iload_n 2, 1) := by decide +kernel
theorem dX0_divisorOf_7 : decode cX0_divisorOf 7 = .ok (.invokevirtual 61, 3) := by decide +kernel
theorem dX0_divisorOf_10 : decode cX0_divisorOf 10 = .ok (.invokestatic 68, 3) := by decide +kernel
theorem dX0_divisorOf_13 : decode cX0_divisorOf 13 = .ok (.ireturn, 1) := by decide +kernel
theorem dX0_petalsOf_0 : decode cX0_petalsOf 0 = .ok (.aload_n 0, 1) := by decide +kernel
theorem dX0_petalsOf_1 : decode cX0_petalsOf 1 = .ok (.iload_n 1, 1) := by decide +kernel
theorem dX0_petalsOf_2 : decode cX0_petalsOf 2 = .ok (.invokevirtual 65, 3) := by decide +kernel
theorem dX0_petalsOf_5 : decode cX0_petalsOf 5 = .ok (.aload_n 0, 1) := by decide +kernel
theorem dX0_petalsOf_6 : decode cX0_petalsOf 6 = .ok (.iload_n 1, 1) := by decide +kernel
theorem dX0_petalsOf_7 : decode cX0_petalsOf 7 = .ok (.iload_n 2, 1) := by decide +kernel
theorem dX0_petalsOf_8 : decode cX0_petalsOf 8 = .ok (.invokevirtual 71, 3) := by decide +kernel
theorem dX0_petalsOf_11 : decode cX0_petalsOf 11 = .ok (.invokestatic 74, 3) := by decide +kernel
theorem dX0_petalsOf_14 : decode cX0_petalsOf 14 = .ok (.ireturn, 1) := by decide +kernel
theorem dX0_roundsOf_0 : decode cX0_roundsOf 0 = .ok (.aload_n 0, 1) := by decide +kernel
theorem dX0_roundsOf_1 : decode cX0_roundsOf 1 = .ok (.iload_n 2, 1) := by decide +kernel
theorem dX0_roundsOf_2 : decode cX0_roundsOf 2 = .ok (.invokevirtual 61, 3) := by decide +kernel
theorem dX0_roundsOf_5 : decode cX0_roundsOf 5 = .ok (.aload_n 0, 1) := by decide +kernel
theorem dX0_roundsOf_6 : decode cX0_roundsOf 6 = .ok (.iload_n 1, 1) := by decide +kernel
theorem dX0_roundsOf_7 : decode cX0_roundsOf 7 = .ok (.iload_n 2, 1) := by decide +kernel
theorem dX0_roundsOf_8 : decode cX0_roundsOf 8 = .ok (.invokevirtual 71, 3) := by decide +kernel
theorem dX0_roundsOf_11 : decode cX0_roundsOf 11 = .ok (.invokestatic 74, 3) := by decide +kernel
theorem dX0_roundsOf_14 : decode cX0_roundsOf 14 = .ok (.ireturn, 1) := by decide +kernel
theorem dX0_longOf_0 : decode cX0_longOf 0 = .ok (.aload_n 0, 1) := by decide +kernel
theorem dX0_longOf_1 : decode cX0_longOf 1 = .ok (.iload_n 1, 1) := by decide +kernel
theorem dX0_longOf_2 : decode cX0_longOf 2 = .ok (.invokevirtual 65, 3) := by decide +kernel
theorem dX0_longOf_5 : decode cX0_longOf 5 = .ok (.aload_n 0, 1) := by decide +kernel
theorem dX0_longOf_6 : decode cX0_longOf 6 = .ok (.iload_n 1, 1) := by decide +kernel
theorem dX0_longOf_7 : decode cX0_longOf 7 = .ok (.iload_n 2, 1) := by decide +kernel
theorem dX0_longOf_8 : decode cX0_longOf 8 = .ok (.invokevirtual 77, 3) := by decide +kernel
theorem dX0_longOf_11 : decode cX0_longOf 11 = .ok (.imul, 1) := by decide +kernel
theorem dX0_longOf_12 : decode cX0_longOf 12 = .ok (.ireturn, 1) := by decide +kernel
theorem dX0_stepOf_0 : decode cX0_stepOf 0 = .ok (.sipush 360, 3) := by decide +kernel
theorem dX0_stepOf_3 : decode cX0_stepOf 3 = .ok (.aload_n 0, 1) := by decide +kernel
theorem dX0_stepOf_4 : decode cX0_stepOf 4 = .ok (.iload_n 1, 1) := by decide +kernel
theorem dX0_stepOf_5 : decode cX0_stepOf 5 = .ok (.invokevirtual 65, 3) := by decide +kernel
theorem dX0_stepOf_8 : decode cX0_stepOf 8 = .ok (.invokestatic 74, 3) := by decide +kernel
theorem dX0_stepOf_11 : decode cX0_stepOf 11 = .ok (.ireturn, 1) := by decide +kernel
theorem dX1_init_0 : decode cX1_init 0 = .ok (.aload_n 0, 1) := by decide +kernel
theorem dX1_init_1 : decode cX1_init 1 = .ok (.invokespecial 3, 3) := by decide +kernel
theorem dX1_init_4 : decode cX1_init 4 = .ok (.aload_n 0, 1) := by decide +kernel
theorem dX1_init_5 : decode cX1_init 5 = .ok (.iload_n 2, 1) := by decide +kernel
theorem dX1_init_6 : decode cX1_init 6 = .ok (.putfield 9, 3) := by decide +kernel
theorem dX1_init_9 : decode cX1_init 9 = .ok (.aload_n 0, 1) := by decide +kernel
theorem dX1_init_10 : decode cX1_init 10 = .ok (.iload_n 3, 1) := by decide +kernel
theorem dX1_init_11 : decode cX1_init 11 = .ok (.putfield 15, 3) := by decide +kernel
theorem dX1_init_14 : decode cX1_init 14 = .ok (.aload_n 0, 1) := by decide +kernel
theorem dX1_init_15 : decode cX1_init 15 = .ok (.iload 4, 2) := by decide +kernel
theorem dX1_init_17 : decode cX1_init 17 = .ok (.putfield 18, 3) := by decide +kernel
theorem dX1_init_20 : decode cX1_init 20 = .ok (.aload_n 0, 1) := by decide +kernel
theorem dX1_init_21 : decode cX1_init 21 = .ok (.iload 5, 2) := by decide +kernel
theorem dX1_init_23 : decode cX1_init 23 = .ok (.putfield 21, 3) := by decide +kernel
theorem dX1_init_26 : decode cX1_init 26 = .ok (.aload_n 0, 1) := by decide +kernel
theorem dX1_init_27 : decode cX1_init 27 = .ok (.iload 6, 2) := by decide +kernel
theorem dX1_init_29 : decode cX1_init 29 = .ok (.putfield 24, 3) := by decide +kernel
theorem dX1_init_32 : decode cX1_init 32 = .ok (.aload_n 0, 1) := by decide +kernel
theorem dX1_init_33 : decode cX1_init 33 = .ok (.iload 7, 2) := by decide +kernel
theorem dX1_init_35 : decode cX1_init 35 = .ok (.putfield 27, 3) := by decide +kernel
theorem dX1_init_38 : decode cX1_init 38 = .ok (.aload_n 0, 1) := by decide +kernel
theorem dX1_init_39 : decode cX1_init 39 = .ok (.aload_n 1, 1) := by decide +kernel
theorem dX1_init_40 : decode cX1_init 40 = .ok (.iload_n 2, 1) := by decide +kernel
theorem dX1_init_41 : decode cX1_init 41 = .ok (.iload_n 3, 1) := by decide +kernel
theorem dX1_init_42 : decode cX1_init 42 = .ok (.invokevirtual 30, 3) := by decide +kernel
theorem dX1_init_45 : decode cX1_init 45 = .ok (.putfield 36, 3) := by decide +kernel
theorem dX1_init_48 : decode cX1_init 48 = .ok (.aload_n 0, 1) := by decide +kernel
theorem dX1_init_49 : decode cX1_init 49 = .ok (.aload_n 1, 1) := by decide +kernel
theorem dX1_init_50 : decode cX1_init 50 = .ok (.iload_n 2, 1) := by decide +kernel
theorem dX1_init_51 : decode cX1_init 51 = .ok (.iload_n 3, 1) := by decide +kernel
theorem dX1_init_52 : decode cX1_init 52 = .ok (.invokevirtual 39, 3) := by decide +kernel
theorem dX1_init_55 : decode cX1_init 55 = .ok (.putfield 42, 3) := by decide +kernel
theorem dX1_init_58 : decode cX1_init 58 = .ok (.aload_n 0, 1) := by decide +kernel
theorem dX1_init_59 : decode cX1_init 59 = .ok (.sipush 360, 3) := by decide +kernel
theorem dX1_init_62 : decode cX1_init 62 = .ok (.aload_n 0, 1) := by decide +kernel
theorem dX1_init_63 : decode cX1_init 63 = .ok (.getfield 36, 3) := by decide +kernel
theorem dX1_init_66 : decode cX1_init 66 = .ok (.invokestatic 45, 3) := by decide +kernel
theorem dX1_init_69 : decode cX1_init 69 = .ok (.putfield 48, 3) := by decide +kernel
theorem dX1_init_72 : decode cX1_init 72 = .ok (.aload_n 0, 1) := by decide +kernel
theorem dX1_init_73 : decode cX1_init 73 = .ok (.aload_n 1, 1) := by decide +kernel
theorem dX1_init_74 : decode cX1_init 74 = .ok (.iload_n 2, 1) := by decide +kernel
theorem dX1_init_75 : decode cX1_init 75 = .ok (.invokevirtual 51, 3) := by decide +kernel
theorem dX1_init_78 : decode cX1_init 78 = .ok (.iload 5, 2) := by decide +kernel
theorem dX1_init_80 : decode cX1_init 80 = .ok (.imul, 1) := by decide +kernel
theorem dX1_init_81 : decode cX1_init 81 = .ok (.iload 7, 2) := by decide +kernel
theorem dX1_init_83 : decode cX1_init 83 = .ok (.iadd, 1) := by decide +kernel
theorem dX1_init_84 : decode cX1_init 84 = .ok (.putfield 55, 3) := by decide +kernel
theorem dX1_init_87 : decode cX1_init 87 = .ok (.return_, 1) := by decide +kernel
theorem dX1_pointOf_0 : decode cX1_pointOf 0 = .ok (.aload_n 0, 1) := by decide +kernel
theorem dX1_pointOf_1 : decode cX1_pointOf 1 = .ok (.getfield 55, 3) := by decide +kernel
theorem dX1_pointOf_4 : decode cX1_pointOf 4 = .ok (.aload_n 0, 1) := by decide +kernel
theorem dX1_pointOf_5 : decode cX1_pointOf 5 = .ok (.getfield 48, 3) := by decide +kernel
theorem dX1_pointOf_8 : decode cX1_pointOf 8 = .ok (.iload_n 1, 1) := by decide +kernel
theorem dX1_pointOf_9 : decode cX1_pointOf 9 = .ok (.imul, 1) := by decide +kernel
theorem dX1_pointOf_10 : decode cX1_pointOf 10 = .ok (.iadd, 1) := by decide +kernel
theorem dX1_pointOf_11 : decode cX1_pointOf 11 = .ok (.sipush 360, 3) := by decide +kernel
theorem dX1_pointOf_14 : decode cX1_pointOf 14 = .ok (.invokestatic 58, 3) := by decide +kernel
theorem dX1_pointOf_17 : decode cX1_pointOf 17 = .ok (.ireturn, 1) := by decide +kernel
theorem dX1_hasTip_0 : decode cX1_hasTip 0 = .ok (.iload_n 2, 1) := by decide +kernel
theorem dX1_hasTip_1 : decode cX1_hasTip 1 = .ok (.aload_n 0, 1) := by decide +kernel
theorem dX1_hasTip_2 : decode cX1_hasTip 2 = .ok (.getfield 18, 3) := by decide +kernel
theorem dX1_hasTip_5 : decode cX1_hasTip 5 = .ok (.if_icmp .ne 23, 3) := by decide +kernel
theorem dX1_hasTip_8 : decode cX1_hasTip 8 = .ok (.iload_n 1, 1) := by decide +kernel
theorem dX1_hasTip_9 : decode cX1_hasTip 9 = .ok (.aload_n 0, 1) := by decide +kernel
theorem dX1_hasTip_10 : decode cX1_hasTip 10 = .ok (.getfield 55, 3) := by decide +kernel
theorem dX1_hasTip_13 : decode cX1_hasTip 13 = .ok (.isub, 1) := by decide +kernel
theorem dX1_hasTip_14 : decode cX1_hasTip 14 = .ok (.aload_n 0, 1) := by decide +kernel
theorem dX1_hasTip_15 : decode cX1_hasTip 15 = .ok (.getfield 48, 3) := by decide +kernel
theorem dX1_hasTip_18 : decode cX1_hasTip 18 = .ok (.invokestatic 58, 3) := by decide +kernel
theorem dX1_hasTip_21 : decode cX1_hasTip 21 = .ok (.ifCond .ne 7, 3) := by decide +kernel
theorem dX1_hasTip_24 : decode cX1_hasTip 24 = .ok (.iconst 1, 1) := by decide +kernel
theorem dX1_hasTip_25 : decode cX1_hasTip 25 = .ok (.goto 4, 3) := by decide +kernel
theorem dX1_hasTip_28 : decode cX1_hasTip 28 = .ok (.iconst 0, 1) := by decide +kernel
theorem dX1_hasTip_29 : decode cX1_hasTip 29 = .ok (.ireturn, 1) := by decide +kernel
theorem dX7_init_0 : decode cX7_init 0 = .ok (.aload_n 0, 1) := by decide +kernel
theorem dX7_init_1 : decode cX7_init 1 = .ok (.invokespecial 1, 3) := by decide +kernel
theorem dX7_init_4 : decode cX7_init 4 = .ok (.aload_n 0, 1) := by decide +kernel
theorem dX7_init_5 : decode cX7_init 5 = .ok (.new 7, 3) := by decide +kernel
theorem dX7_init_8 : decode cX7_init 8 = .ok (.dup, 1) := by decide +kernel
theorem dX7_init_9 : decode cX7_init 9 = .ok (.invokespecial 9, 3) := by decide +kernel
theorem dX7_init_12 : decode cX7_init 12 = .ok (.putfield 10, 3) := by decide +kernel
theorem dX7_init_15 : decode cX7_init 15 = .ok (.aload_n 0, 1) := by decide +kernel
theorem dX7_init_16 : decode cX7_init 16 = .ok (.aload_n 1, 1) := by decide +kernel
theorem dX7_init_17 : decode cX7_init 17 = .ok (.putfield 16, 3) := by decide +kernel
theorem dX7_init_20 : decode cX7_init 20 = .ok (.aload_n 0, 1) := by decide +kernel
theorem dX7_init_21 : decode cX7_init 21 = .ok (.getfield 10, 3) := by decide +kernel
theorem dX7_init_24 : decode cX7_init 24 = .ok (.aload_n 2, 1) := by decide +kernel
theorem dX7_init_25 : decode cX7_init 25 = .ok (.invokevirtual 20, 3) := by decide +kernel
theorem dX7_init_28 : decode cX7_init 28 = .ok (.return_, 1) := by decide +kernel
theorem dX2_init_0 : decode cX2_init 0 = .ok (.aload_n 0, 1) := by decide +kernel
theorem dX2_init_1 : decode cX2_init 1 = .ok (.invokespecial 3, 3) := by decide +kernel
theorem dX2_init_4 : decode cX2_init 4 = .ok (.aload_n 0, 1) := by decide +kernel
theorem dX2_init_5 : decode cX2_init 5 = .ok (.iload_n 1, 1) := by decide +kernel
theorem dX2_init_6 : decode cX2_init 6 = .ok (.putfield 9, 3) := by decide +kernel
theorem dX2_init_9 : decode cX2_init 9 = .ok (.aload_n 0, 1) := by decide +kernel
theorem dX2_init_10 : decode cX2_init 10 = .ok (.aload_n 2, 1) := by decide +kernel
theorem dX2_init_11 : decode cX2_init 11 = .ok (.putfield 15, 3) := by decide +kernel
theorem dX2_init_14 : decode cX2_init 14 = .ok (.aload_n 0, 1) := by decide +kernel
theorem dX2_init_15 : decode cX2_init 15 = .ok (.aload_n 3, 1) := by decide +kernel
theorem dX2_init_16 : decode cX2_init 16 = .ok (.putfield 19, 3) := by decide +kernel
theorem dX2_init_19 : decode cX2_init 19 = .ok (.return_, 1) := by decide +kernel
theorem dX2_inkOf_0 : decode cX2_inkOf 0 = .ok (.iload_n 1, 1) := by decide +kernel
theorem dX2_inkOf_1 : decode cX2_inkOf 1 = .ok (.ifCond .lt 21, 3) := by decide +kernel
theorem dX2_inkOf_4 : decode cX2_inkOf 4 = .ok (.iload_n 1, 1) := by decide +kernel
theorem dX2_inkOf_5 : decode cX2_inkOf 5 = .ok (.aload_n 0, 1) := by decide +kernel
theorem dX2_inkOf_6 : decode cX2_inkOf 6 = .ok (.getfield 15, 3) := by decide +kernel
theorem dX2_inkOf_9 : decode cX2_inkOf 9 = .ok (.arraylength, 1) := by decide +kernel
theorem dX2_inkOf_10 : decode cX2_inkOf 10 = .ok (.if_icmp .ge 12, 3) := by decide +kernel
theorem dX2_inkOf_13 : decode cX2_inkOf 13 = .ok (.aload_n 0, 1) := by decide +kernel
theorem dX2_inkOf_14 : decode cX2_inkOf 14 = .ok (.getfield 15, 3) := by decide +kernel
theorem dX2_inkOf_17 : decode cX2_inkOf 17 = .ok (.iload_n 1, 1) := by decide +kernel
theorem dX2_inkOf_18 : decode cX2_inkOf 18 = .ok (.iaload, 1) := by decide +kernel
theorem dX2_inkOf_19 : decode cX2_inkOf 19 = .ok (.goto 4, 3) := by decide +kernel
theorem dX2_inkOf_22 : decode cX2_inkOf 22 = .ok (.iconst 0, 1) := by decide +kernel
theorem dX2_inkOf_23 : decode cX2_inkOf 23 = .ok (.ireturn, 1) := by decide +kernel
theorem dX2_curveAt_0 : decode cX2_curveAt 0 = .ok (.iload_n 1, 1) := by decide +kernel
theorem dX2_curveAt_1 : decode cX2_curveAt 1 = .ok (.ifCond .lt 21, 3) := by decide +kernel
theorem dX2_curveAt_4 : decode cX2_curveAt 4 = .ok (.iload_n 1, 1) := by decide +kernel
theorem dX2_curveAt_5 : decode cX2_curveAt 5 = .ok (.aload_n 0, 1) := by decide +kernel
theorem dX2_curveAt_6 : decode cX2_curveAt 6 = .ok (.getfield 19, 3) := by decide +kernel
theorem dX2_curveAt_9 : decode cX2_curveAt 9 = .ok (.arraylength, 1) := by decide +kernel
theorem dX2_curveAt_10 : decode cX2_curveAt 10 = .ok (.if_icmp .ge 12, 3) := by decide +kernel
theorem dX2_curveAt_13 : decode cX2_curveAt 13 = .ok (.aload_n 0, 1) := by decide +kernel
theorem dX2_curveAt_14 : decode cX2_curveAt 14 = .ok (.getfield 19, 3) := by decide +kernel
theorem dX2_curveAt_17 : decode cX2_curveAt 17 = .ok (.iload_n 1, 1) := by decide +kernel
theorem dX2_curveAt_18 : decode cX2_curveAt 18 = .ok (.aaload, 1) := by decide +kernel
theorem dX2_curveAt_19 : decode cX2_curveAt 19 = .ok (.goto 4, 3) := by decide +kernel
theorem dX2_curveAt_22 : decode cX2_curveAt 22 = .ok (.aconst_null, 1) := by decide +kernel
theorem dX2_curveAt_23 : decode cX2_curveAt 23 = .ok (.areturn, 1) := by decide +kernel
theorem dX2_hasCurveIn_0 : decode cX2_hasCurveIn 0 = .ok (.iconst 0, 1) := by decide +kernel
theorem dX2_hasCurveIn_1 : decode cX2_hasCurveIn 1 = .ok (.istore_n 2, 1) := by decide +kernel
theorem dX2_hasCurveIn_2 : decode cX2_hasCurveIn 2 = .ok (.iload_n 2, 1) := by decide +kernel
theorem dX2_hasCurveIn_3 : decode cX2_hasCurveIn 3 = .ok (.aload_n 0, 1) := by decide +kernel
theorem dX2_hasCurveIn_4 : decode cX2_hasCurveIn 4 = .ok (.getfield 19, 3) := by decide +kernel
theorem dX2_hasCurveIn_7 : decode cX2_hasCurveIn 7 = .ok (.arraylength, 1) := by decide +kernel
theorem dX2_hasCurveIn_8 : decode cX2_hasCurveIn 8 = .ok (.if_icmp .ge 29, 3) := by decide +kernel
theorem dX2_hasCurveIn_11 : decode cX2_hasCurveIn 11 = .ok (.aload_n 0, 1) := by decide +kernel
theorem dX2_hasCurveIn_12 : decode cX2_hasCurveIn 12 = .ok (.iload_n 2, 1) := by decide +kernel
theorem dX2_hasCurveIn_13 : decode cX2_hasCurveIn 13 = .ok (.invokevirtual 23, 3) := by decide +kernel
theorem dX2_hasCurveIn_16 : decode cX2_hasCurveIn 16 = .ok (.astore_n 3, 1) := by decide +kernel
theorem dX2_hasCurveIn_17 : decode cX2_hasCurveIn 17 = .ok (.aload_n 3, 1) := by decide +kernel
theorem dX2_hasCurveIn_18 : decode cX2_hasCurveIn 18 = .ok (.ifnull 13, 3) := by decide +kernel
theorem dX2_hasCurveIn_21 : decode cX2_hasCurveIn 21 = .ok (.aload_n 3, 1) := by decide +kernel
theorem dX2_hasCurveIn_22 : decode cX2_hasCurveIn 22 = .ok (.getfield 27, 3) := by decide +kernel
theorem dX2_hasCurveIn_25 : decode cX2_hasCurveIn 25 = .ok (.iload_n 1, 1) := by decide +kernel
theorem dX2_hasCurveIn_26 : decode cX2_hasCurveIn 26 = .ok (.if_icmp .ne 5, 3) := by decide +kernel
theorem dX2_hasCurveIn_29 : decode cX2_hasCurveIn 29 = .ok (.iconst 1, 1) := by decide +kernel
theorem dX2_hasCurveIn_30 : decode cX2_hasCurveIn 30 = .ok (.ireturn, 1) := by decide +kernel
theorem dX2_hasCurveIn_31 : decode cX2_hasCurveIn 31 = .ok (.iinc 2 1, 3) := by decide +kernel
theorem dX2_hasCurveIn_34 : decode cX2_hasCurveIn 34 = .ok (.goto (-32), 3) := by decide +kernel
theorem dX2_hasCurveIn_37 : decode cX2_hasCurveIn 37 = .ok (.iconst 0, 1) := by decide +kernel
theorem dX2_hasCurveIn_38 : decode cX2_hasCurveIn 38 = .ok (.ireturn, 1) := by decide +kernel
theorem dX2_drawn_0 : decode cX2_drawn 0 = .ok (.aload_n 0, 1) := by decide +kernel
theorem dX2_drawn_1 : decode cX2_drawn 1 = .ok (.getfield 19, 3) := by decide +kernel
theorem dX2_drawn_4 : decode cX2_drawn 4 = .ok (.arraylength, 1) := by decide +kernel
theorem dX2_drawn_5 : decode cX2_drawn 5 = .ok (.iconst 1, 1) := by decide +kernel
theorem dX2_drawn_6 : decode cX2_drawn 6 = .ok (.iadd, 1) := by decide +kernel
theorem dX2_drawn_7 : decode cX2_drawn 7 = .ok (.anewarray 28, 3) := by decide +kernel
theorem dX2_drawn_10 : decode cX2_drawn 10 = .ok (.astore_n 3, 1) := by decide +kernel
theorem dX2_drawn_11 : decode cX2_drawn 11 = .ok (.iconst 0, 1) := by decide +kernel
theorem dX2_drawn_12 : decode cX2_drawn 12 = .ok (.istore 4, 2) := by decide +kernel
theorem dX2_drawn_14 : decode cX2_drawn 14 = .ok (.iload 4, 2) := by decide +kernel
theorem dX2_drawn_16 : decode cX2_drawn 16 = .ok (.aload_n 0, 1) := by decide +kernel
theorem dX2_drawn_17 : decode cX2_drawn 17 = .ok (.getfield 19, 3) := by decide +kernel
theorem dX2_drawn_20 : decode cX2_drawn 20 = .ok (.arraylength, 1) := by decide +kernel
theorem dX2_drawn_21 : decode cX2_drawn 21 = .ok (.if_icmp .ge 20, 3) := by decide +kernel
theorem dX2_drawn_24 : decode cX2_drawn 24 = .ok (.aload_n 3, 1) := by decide +kernel
theorem dX2_drawn_25 : decode cX2_drawn 25 = .ok (.iload 4, 2) := by decide +kernel
theorem dX2_drawn_27 : decode cX2_drawn 27 = .ok (.aload_n 0, 1) := by decide +kernel
theorem dX2_drawn_28 : decode cX2_drawn 28 = .ok (.getfield 19, 3) := by decide +kernel
theorem dX2_drawn_31 : decode cX2_drawn 31 = .ok (.iload 4, 2) := by decide +kernel
theorem dX2_drawn_33 : decode cX2_drawn 33 = .ok (.aaload, 1) := by decide +kernel
theorem dX2_drawn_34 : decode cX2_drawn 34 = .ok (.aastore, 1) := by decide +kernel
theorem dX2_drawn_35 : decode cX2_drawn 35 = .ok (.iinc 4 1, 3) := by decide +kernel
theorem dX2_drawn_38 : decode cX2_drawn 38 = .ok (.goto (-24), 3) := by decide +kernel
theorem dX2_drawn_41 : decode cX2_drawn 41 = .ok (.aload_n 3, 1) := by decide +kernel
theorem dX2_drawn_42 : decode cX2_drawn 42 = .ok (.aload_n 0, 1) := by decide +kernel
theorem dX2_drawn_43 : decode cX2_drawn 43 = .ok (.getfield 19, 3) := by decide +kernel
theorem dX2_drawn_46 : decode cX2_drawn 46 = .ok (.arraylength, 1) := by decide +kernel
theorem dX2_drawn_47 : decode cX2_drawn 47 = .ok (.aload_n 1, 1) := by decide +kernel
theorem dX2_drawn_48 : decode cX2_drawn 48 = .ok (.aastore, 1) := by decide +kernel
theorem dX2_drawn_49 : decode cX2_drawn 49 = .ok (.new 10, 3) := by decide +kernel
theorem dX2_drawn_52 : decode cX2_drawn 52 = .ok (.dup, 1) := by decide +kernel
theorem dX2_drawn_53 : decode cX2_drawn 53 = .ok (.aload_n 0, 1) := by decide +kernel
theorem dX2_drawn_54 : decode cX2_drawn 54 = .ok (.getfield 9, 3) := by decide +kernel
theorem dX2_drawn_57 : decode cX2_drawn 57 = .ok (.aload_n 0, 1) := by decide +kernel
theorem dX2_drawn_58 : decode cX2_drawn 58 = .ok (.aload_n 1, 1) := by decide +kernel
theorem dX2_drawn_59 : decode cX2_drawn 59 = .ok (.getfield 32, 3) := by decide +kernel
theorem dX2_drawn_62 : decode cX2_drawn 62 = .ok (.aload_n 0, 1) := by decide +kernel
theorem dX2_drawn_63 : decode cX2_drawn 63 = .ok (.aload_n 1, 1) := by decide +kernel
theorem dX2_drawn_64 : decode cX2_drawn 64 = .ok (.getfield 32, 3) := by decide +kernel
theorem dX2_drawn_67 : decode cX2_drawn 67 = .ok (.invokevirtual 35, 3) := by decide +kernel
theorem dX2_drawn_70 : decode cX2_drawn 70 = .ok (.iload_n 2, 1) := by decide +kernel
theorem dX2_drawn_71 : decode cX2_drawn 71 = .ok (.isub, 1) := by decide +kernel
theorem dX2_drawn_72 : decode cX2_drawn 72 = .ok (.invokevirtual 39, 3) := by decide +kernel
theorem dX2_drawn_75 : decode cX2_drawn 75 = .ok (.aload_n 3, 1) := by decide +kernel
theorem dX2_drawn_76 : decode cX2_drawn 76 = .ok (.invokespecial 43, 3) := by decide +kernel
theorem dX2_drawn_79 : decode cX2_drawn 79 = .ok (.areturn, 1) := by decide +kernel
theorem dX2_rubbed_0 : decode cX2_rubbed 0 = .ok (.aload_n 0, 1) := by decide +kernel
theorem dX2_rubbed_1 : decode cX2_rubbed 1 = .ok (.getfield 19, 3) := by decide +kernel
theorem dX2_rubbed_4 : decode cX2_rubbed 4 = .ok (.arraylength, 1) := by decide +kernel
theorem dX2_rubbed_5 : decode cX2_rubbed 5 = .ok (.iconst 1, 1) := by decide +kernel
theorem dX2_rubbed_6 : decode cX2_rubbed 6 = .ok (.isub, 1) := by decide +kernel
theorem dX2_rubbed_7 : decode cX2_rubbed 7 = .ok (.iconst 0, 1) := by decide +kernel
theorem dX2_rubbed_8 : decode cX2_rubbed 8 = .ok (.invokestatic 46, 3) := by decide +kernel
theorem dX2_rubbed_11 : decode cX2_rubbed 11 = .ok (.anewarray 28, 3) := by decide +kernel
theorem dX2_rubbed_14 : decode cX2_rubbed 14 = .ok (.astore_n 2, 1) := by decide +kernel
theorem dX2_rubbed_15 : decode cX2_rubbed 15 = .ok (.iconst 0, 1) := by decide +kernel
theorem dX2_rubbed_16 : decode cX2_rubbed 16 = .ok (.istore_n 3, 1) := by decide +kernel
theorem dX2_rubbed_17 : decode cX2_rubbed 17 = .ok (.iload_n 3, 1) := by decide +kernel
theorem dX2_rubbed_18 : decode cX2_rubbed 18 = .ok (.aload_n 2, 1) := by decide +kernel
theorem dX2_rubbed_19 : decode cX2_rubbed 19 = .ok (.arraylength, 1) := by decide +kernel
theorem dX2_rubbed_20 : decode cX2_rubbed 20 = .ok (.if_icmp .ge 29, 3) := by decide +kernel
theorem dX2_rubbed_23 : decode cX2_rubbed 23 = .ok (.aload_n 2, 1) := by decide +kernel
theorem dX2_rubbed_24 : decode cX2_rubbed 24 = .ok (.iload_n 3, 1) := by decide +kernel
theorem dX2_rubbed_25 : decode cX2_rubbed 25 = .ok (.aload_n 0, 1) := by decide +kernel
theorem dX2_rubbed_26 : decode cX2_rubbed 26 = .ok (.getfield 19, 3) := by decide +kernel
theorem dX2_rubbed_29 : decode cX2_rubbed 29 = .ok (.iload_n 3, 1) := by decide +kernel
theorem dX2_rubbed_30 : decode cX2_rubbed 30 = .ok (.iload_n 1, 1) := by decide +kernel
theorem dX2_rubbed_31 : decode cX2_rubbed 31 = .ok (.if_icmp .ge 7, 3) := by decide +kernel
theorem dX2_rubbed_34 : decode cX2_rubbed 34 = .ok (.iload_n 3, 1) := by decide +kernel
theorem dX2_rubbed_35 : decode cX2_rubbed 35 = .ok (.goto 6, 3) := by decide +kernel
theorem dX2_rubbed_38 : decode cX2_rubbed 38 = .ok (.iload_n 3, 1) := by decide +kernel
theorem dX2_rubbed_39 : decode cX2_rubbed 39 = .ok (.iconst 1, 1) := by decide +kernel
theorem dX2_rubbed_40 : decode cX2_rubbed 40 = .ok (.iadd, 1) := by decide +kernel
theorem dX2_rubbed_41 : decode cX2_rubbed 41 = .ok (.aaload, 1) := by decide +kernel
theorem dX2_rubbed_42 : decode cX2_rubbed 42 = .ok (.aastore, 1) := by decide +kernel
theorem dX2_rubbed_43 : decode cX2_rubbed 43 = .ok (.iinc 3 1, 3) := by decide +kernel
theorem dX2_rubbed_46 : decode cX2_rubbed 46 = .ok (.goto (-29), 3) := by decide +kernel
theorem dX2_rubbed_49 : decode cX2_rubbed 49 = .ok (.new 10, 3) := by decide +kernel
theorem dX2_rubbed_52 : decode cX2_rubbed 52 = .ok (.dup, 1) := by decide +kernel
theorem dX2_rubbed_53 : decode cX2_rubbed 53 = .ok (.aload_n 0, 1) := by decide +kernel
theorem dX2_rubbed_54 : decode cX2_rubbed 54 = .ok (.getfield 9, 3) := by decide +kernel
theorem dX2_rubbed_57 : decode cX2_rubbed 57 = .ok (.aload_n 0, 1) := by decide +kernel
theorem dX2_rubbed_58 : decode cX2_rubbed 58 = .ok (.getfield 15, 3) := by decide +kernel
theorem dX2_rubbed_61 : decode cX2_rubbed 61 = .ok (.aload_n 2, 1) := by decide +kernel
theorem dX2_rubbed_62 : decode cX2_rubbed 62 = .ok (.invokespecial 43, 3) := by decide +kernel
theorem dX2_rubbed_65 : decode cX2_rubbed 65 = .ok (.areturn, 1) := by decide +kernel
theorem dX2_turned_0 : decode cX2_turned 0 = .ok (.new 10, 3) := by decide +kernel
theorem dX2_turned_3 : decode cX2_turned 3 = .ok (.dup, 1) := by decide +kernel
theorem dX2_turned_4 : decode cX2_turned 4 = .ok (.aload_n 0, 1) := by decide +kernel
theorem dX2_turned_5 : decode cX2_turned 5 = .ok (.getfield 9, 3) := by decide +kernel
theorem dX2_turned_8 : decode cX2_turned 8 = .ok (.iload_n 1, 1) := by decide +kernel
theorem dX2_turned_9 : decode cX2_turned 9 = .ok (.iadd, 1) := by decide +kernel
theorem dX2_turned_10 : decode cX2_turned 10 = .ok (.sipush 360, 3) := by decide +kernel
theorem dX2_turned_13 : decode cX2_turned 13 = .ok (.invokestatic 52, 3) := by decide +kernel
theorem dX2_turned_16 : decode cX2_turned 16 = .ok (.aload_n 0, 1) := by decide +kernel
theorem dX2_turned_17 : decode cX2_turned 17 = .ok (.getfield 15, 3) := by decide +kernel
theorem dX2_turned_20 : decode cX2_turned 20 = .ok (.aload_n 0, 1) := by decide +kernel
theorem dX2_turned_21 : decode cX2_turned 21 = .ok (.getfield 19, 3) := by decide +kernel
theorem dX2_turned_24 : decode cX2_turned 24 = .ok (.invokespecial 43, 3) := by decide +kernel
theorem dX2_turned_27 : decode cX2_turned 27 = .ok (.areturn, 1) := by decide +kernel
theorem dX2_filled_0 : decode cX2_filled 0 = .ok (.aload_n 0, 1) := by decide +kernel
theorem dX2_filled_1 : decode cX2_filled 1 = .ok (.iload_n 1, 1) := by decide +kernel
theorem dX2_filled_2 : decode cX2_filled 2 = .ok (.aload_n 0, 1) := by decide +kernel
theorem dX2_filled_3 : decode cX2_filled 3 = .ok (.iload_n 1, 1) := by decide +kernel
theorem dX2_filled_4 : decode cX2_filled 4 = .ok (.invokevirtual 35, 3) := by decide +kernel
theorem dX2_filled_7 : decode cX2_filled 7 = .ok (.iload_n 2, 1) := by decide +kernel
theorem dX2_filled_8 : decode cX2_filled 8 = .ok (.iadd, 1) := by decide +kernel
theorem dX2_filled_9 : decode cX2_filled 9 = .ok (.sipush 999, 3) := by decide +kernel
theorem dX2_filled_12 : decode cX2_filled 12 = .ok (.invokestatic 55, 3) := by decide +kernel
theorem dX2_filled_15 : decode cX2_filled 15 = .ok (.invokevirtual 39, 3) := by decide +kernel
theorem dX2_filled_18 : decode cX2_filled 18 = .ok (.astore_n 3, 1) := by decide +kernel
theorem dX2_filled_19 : decode cX2_filled 19 = .ok (.new 10, 3) := by decide +kernel
theorem dX2_filled_22 : decode cX2_filled 22 = .ok (.dup, 1) := by decide +kernel
theorem dX2_filled_23 : decode cX2_filled 23 = .ok (.aload_n 0, 1) := by decide +kernel
theorem dX2_filled_24 : decode cX2_filled 24 = .ok (.getfield 9, 3) := by decide +kernel
theorem dX2_filled_27 : decode cX2_filled 27 = .ok (.aload_n 3, 1) := by decide +kernel
theorem dX2_filled_28 : decode cX2_filled 28 = .ok (.aload_n 0, 1) := by decide +kernel
theorem dX2_filled_29 : decode cX2_filled 29 = .ok (.getfield 19, 3) := by decide +kernel
theorem dX2_filled_32 : decode cX2_filled 32 = .ok (.invokespecial 43, 3) := by decide +kernel
theorem dX2_filled_35 : decode cX2_filled 35 = .ok (.areturn, 1) := by decide +kernel
theorem dX2_inkWith_0 : decode cX2_inkWith 0 = .ok (.aload_n 0, 1) := by decide +kernel
theorem dX2_inkWith_1 : decode cX2_inkWith 1 = .ok (.getfield 15, 3) := by decide +kernel
theorem dX2_inkWith_4 : decode cX2_inkWith 4 = .ok (.invokevirtual 58, 3) := by decide +kernel
theorem dX2_inkWith_7 : decode cX2_inkWith 7 = .ok (.checkcast 59, 3) := by decide +kernel
theorem dX2_inkWith_10 : decode cX2_inkWith 10 = .ok (.astore_n 3, 1) := by decide +kernel
theorem dX2_inkWith_11 : decode cX2_inkWith 11 = .ok (.iload_n 1, 1) := by decide +kernel
theorem dX2_inkWith_12 : decode cX2_inkWith 12 = .ok (.ifCond .lt 13, 3) := by decide +kernel
theorem dX2_inkWith_15 : decode cX2_inkWith 15 = .ok (.iload_n 1, 1) := by decide +kernel
theorem dX2_inkWith_16 : decode cX2_inkWith 16 = .ok (.aload_n 3, 1) := by decide +kernel
theorem dX2_inkWith_17 : decode cX2_inkWith 17 = .ok (.arraylength, 1) := by decide +kernel
theorem dX2_inkWith_18 : decode cX2_inkWith 18 = .ok (.if_icmp .ge 7, 3) := by decide +kernel
theorem dX2_inkWith_21 : decode cX2_inkWith 21 = .ok (.aload_n 3, 1) := by decide +kernel
theorem dX2_inkWith_22 : decode cX2_inkWith 22 = .ok (.iload_n 1, 1) := by decide +kernel
theorem dX2_inkWith_23 : decode cX2_inkWith 23 = .ok (.iload_n 2, 1) := by decide +kernel
theorem dX2_inkWith_24 : decode cX2_inkWith 24 = .ok (.iastore, 1) := by decide +kernel
theorem dX2_inkWith_25 : decode cX2_inkWith 25 = .ok (.aload_n 3, 1) := by decide +kernel
theorem dX2_inkWith_26 : decode cX2_inkWith 26 = .ok (.areturn, 1) := by decide +kernel
theorem dX8_init_0 : decode cX8_init 0 = .ok (.aload_n 0, 1) := by decide +kernel
theorem dX8_init_1 : decode cX8_init 1 = .ok (.invokespecial 3, 3) := by decide +kernel
theorem dX8_init_4 : decode cX8_init 4 = .ok (.aload_n 0, 1) := by decide +kernel
theorem dX8_init_5 : decode cX8_init 5 = .ok (.bipush 10, 2) := by decide +kernel
theorem dX8_init_7 : decode cX8_init 7 = .ok (.anewarray 9, 3) := by decide +kernel
theorem dX8_init_10 : decode cX8_init 10 = .ok (.putfield 11, 3) := by decide +kernel
theorem dX8_init_13 : decode cX8_init 13 = .ok (.aload_n 0, 1) := by decide +kernel
theorem dX8_init_14 : decode cX8_init 14 = .ok (.iconst 0, 1) := by decide +kernel
theorem dX8_init_15 : decode cX8_init 15 = .ok (.putfield 17, 3) := by decide +kernel
theorem dX8_init_18 : decode cX8_init 18 = .ok (.return_, 1) := by decide +kernel
theorem dX8_adds_0 : decode cX8_adds 0 = .ok (.aload_n 0, 1) := by decide +kernel
theorem dX8_adds_1 : decode cX8_adds 1 = .ok (.getfield 17, 3) := by decide +kernel
theorem dX8_adds_4 : decode cX8_adds 4 = .ok (.bipush 10, 2) := by decide +kernel
theorem dX8_adds_6 : decode cX8_adds 6 = .ok (.if_icmp .lt 7, 3) := by decide +kernel
theorem dX8_adds_9 : decode cX8_adds 9 = .ok (.aload_n 0, 1) := by decide +kernel
theorem dX8_adds_10 : decode cX8_adds 10 = .ok (.invokevirtual 21, 3) := by decide +kernel
theorem dX8_adds_13 : decode cX8_adds 13 = .ok (.aload_n 0, 1) := by decide +kernel
theorem dX8_adds_14 : decode cX8_adds 14 = .ok (.getfield 11, 3) := by decide +kernel
theorem dX8_adds_17 : decode cX8_adds 17 = .ok (.aload_n 0, 1) := by decide +kernel
theorem dX8_adds_18 : decode cX8_adds 18 = .ok (.getfield 17, 3) := by decide +kernel
theorem dX8_adds_21 : decode cX8_adds 21 = .ok (.aload_n 1, 1) := by decide +kernel
theorem dX8_adds_22 : decode cX8_adds 22 = .ok (.aastore, 1) := by decide +kernel
theorem dX8_adds_23 : decode cX8_adds 23 = .ok (.aload_n 0, 1) := by decide +kernel
theorem dX8_adds_24 : decode cX8_adds 24 = .ok (.dup, 1) := by decide +kernel
theorem dX8_adds_25 : decode cX8_adds 25 = .ok (.getfield 17, 3) := by decide +kernel
theorem dX8_adds_28 : decode cX8_adds 28 = .ok (.iconst 1, 1) := by decide +kernel
theorem dX8_adds_29 : decode cX8_adds 29 = .ok (.iadd, 1) := by decide +kernel
theorem dX8_adds_30 : decode cX8_adds 30 = .ok (.putfield 17, 3) := by decide +kernel
theorem dX8_adds_33 : decode cX8_adds 33 = .ok (.return_, 1) := by decide +kernel
theorem dX8_losesOldest_0 : decode cX8_losesOldest 0 = .ok (.iconst 1, 1) := by decide +kernel
theorem dX8_losesOldest_1 : decode cX8_losesOldest 1 = .ok (.istore_n 1, 1) := by decide +kernel
theorem dX8_losesOldest_2 : decode cX8_losesOldest 2 = .ok (.iload_n 1, 1) := by decide +kernel
theorem dX8_losesOldest_3 : decode cX8_losesOldest 3 = .ok (.bipush 10, 2) := by decide +kernel
theorem dX8_losesOldest_5 : decode cX8_losesOldest 5 = .ok (.if_icmp .ge 23, 3) := by decide +kernel
theorem dX8_losesOldest_8 : decode cX8_losesOldest 8 = .ok (.aload_n 0, 1) := by decide +kernel
theorem dX8_losesOldest_9 : decode cX8_losesOldest 9 = .ok (.getfield 11, 3) := by decide +kernel
theorem dX8_losesOldest_12 : decode cX8_losesOldest 12 = .ok (.iload_n 1, 1) := by decide +kernel
theorem dX8_losesOldest_13 : decode cX8_losesOldest 13 = .ok (.iconst 1, 1) := by decide +kernel
theorem dX8_losesOldest_14 : decode cX8_losesOldest 14 = .ok (.isub, 1) := by decide +kernel
theorem dX8_losesOldest_15 : decode cX8_losesOldest 15 = .ok (.aload_n 0, 1) := by decide +kernel
theorem dX8_losesOldest_16 : decode cX8_losesOldest 16 = .ok (.getfield 11, 3) := by decide +kernel
theorem dX8_losesOldest_19 : decode cX8_losesOldest 19 = .ok (.iload_n 1, 1) := by decide +kernel
theorem dX8_losesOldest_20 : decode cX8_losesOldest 20 = .ok (.aaload, 1) := by decide +kernel
theorem dX8_losesOldest_21 : decode cX8_losesOldest 21 = .ok (.aastore, 1) := by decide +kernel
theorem dX8_losesOldest_22 : decode cX8_losesOldest 22 = .ok (.iinc 1 1, 3) := by decide +kernel
theorem dX8_losesOldest_25 : decode cX8_losesOldest 25 = .ok (.goto (-23), 3) := by decide +kernel
theorem dX8_losesOldest_28 : decode cX8_losesOldest 28 = .ok (.aload_n 0, 1) := by decide +kernel
theorem dX8_losesOldest_29 : decode cX8_losesOldest 29 = .ok (.bipush 9, 2) := by decide +kernel
theorem dX8_losesOldest_31 : decode cX8_losesOldest 31 = .ok (.putfield 17, 3) := by decide +kernel
theorem dX8_losesOldest_34 : decode cX8_losesOldest 34 = .ok (.return_, 1) := by decide +kernel
theorem dX8_takesLatest_0 : decode cX8_takesLatest 0 = .ok (.aload_n 0, 1) := by decide +kernel
theorem dX8_takesLatest_1 : decode cX8_takesLatest 1 = .ok (.getfield 17, 3) := by decide +kernel
theorem dX8_takesLatest_4 : decode cX8_takesLatest 4 = .ok (.ifCond .gt 5, 3) := by decide +kernel
theorem dX8_takesLatest_7 : decode cX8_takesLatest 7 = .ok (.aconst_null, 1) := by decide +kernel
theorem dX8_takesLatest_8 : decode cX8_takesLatest 8 = .ok (.areturn, 1) := by decide +kernel
theorem dX8_takesLatest_9 : decode cX8_takesLatest 9 = .ok (.aload_n 0, 1) := by decide +kernel
theorem dX8_takesLatest_10 : decode cX8_takesLatest 10 = .ok (.dup, 1) := by decide +kernel
theorem dX8_takesLatest_11 : decode cX8_takesLatest 11 = .ok (.getfield 17, 3) := by decide +kernel
theorem dX8_takesLatest_14 : decode cX8_takesLatest 14 = .ok (.iconst 1, 1) := by decide +kernel
theorem dX8_takesLatest_15 : decode cX8_takesLatest 15 = .ok (.isub, 1) := by decide +kernel
theorem dX8_takesLatest_16 : decode cX8_takesLatest 16 = .ok (.putfield 17, 3) := by decide +kernel
theorem dX8_takesLatest_19 : decode cX8_takesLatest 19 = .ok (.aload_n 0, 1) := by decide +kernel
theorem dX8_takesLatest_20 : decode cX8_takesLatest 20 = .ok (.getfield 11, 3) := by decide +kernel
theorem dX8_takesLatest_23 : decode cX8_takesLatest 23 = .ok (.aload_n 0, 1) := by decide +kernel
theorem dX8_takesLatest_24 : decode cX8_takesLatest 24 = .ok (.getfield 17, 3) := by decide +kernel
theorem dX8_takesLatest_27 : decode cX8_takesLatest 27 = .ok (.aaload, 1) := by decide +kernel
theorem dX8_takesLatest_28 : decode cX8_takesLatest 28 = .ok (.astore_n 1, 1) := by decide +kernel
theorem dX8_takesLatest_29 : decode cX8_takesLatest 29 = .ok (.aload_n 0, 1) := by decide +kernel
theorem dX8_takesLatest_30 : decode cX8_takesLatest 30 = .ok (.getfield 11, 3) := by decide +kernel
theorem dX8_takesLatest_33 : decode cX8_takesLatest 33 = .ok (.aload_n 0, 1) := by decide +kernel
theorem dX8_takesLatest_34 : decode cX8_takesLatest 34 = .ok (.getfield 17, 3) := by decide +kernel
theorem dX8_takesLatest_37 : decode cX8_takesLatest 37 = .ok (.aconst_null, 1) := by decide +kernel
theorem dX8_takesLatest_38 : decode cX8_takesLatest 38 = .ok (.aastore, 1) := by decide +kernel
theorem dX8_takesLatest_39 : decode cX8_takesLatest 39 = .ok (.aload_n 1, 1) := by decide +kernel
theorem dX8_takesLatest_40 : decode cX8_takesLatest 40 = .ok (.areturn, 1) := by decide +kernel
theorem dX8_empties_0 : decode cX8_empties 0 = .ok (.iconst 0, 1) := by decide +kernel
theorem dX8_empties_1 : decode cX8_empties 1 = .ok (.istore_n 1, 1) := by decide +kernel
theorem dX8_empties_2 : decode cX8_empties 2 = .ok (.iload_n 1, 1) := by decide +kernel
theorem dX8_empties_3 : decode cX8_empties 3 = .ok (.bipush 10, 2) := by decide +kernel
theorem dX8_empties_5 : decode cX8_empties 5 = .ok (.if_icmp .ge 16, 3) := by decide +kernel
theorem dX8_empties_8 : decode cX8_empties 8 = .ok (.aload_n 0, 1) := by decide +kernel
theorem dX8_empties_9 : decode cX8_empties 9 = .ok (.getfield 11, 3) := by decide +kernel
theorem dX8_empties_12 : decode cX8_empties 12 = .ok (.iload_n 1, 1) := by decide +kernel
theorem dX8_empties_13 : decode cX8_empties 13 = .ok (.aconst_null, 1) := by decide +kernel
theorem dX8_empties_14 : decode cX8_empties 14 = .ok (.aastore, 1) := by decide +kernel
theorem dX8_empties_15 : decode cX8_empties 15 = .ok (.iinc 1 1, 3) := by decide +kernel
theorem dX8_empties_18 : decode cX8_empties 18 = .ok (.goto (-16), 3) := by decide +kernel
theorem dX8_empties_21 : decode cX8_empties 21 = .ok (.aload_n 0, 1) := by decide +kernel
theorem dX8_empties_22 : decode cX8_empties 22 = .ok (.iconst 0, 1) := by decide +kernel
theorem dX8_empties_23 : decode cX8_empties 23 = .ok (.putfield 17, 3) := by decide +kernel
theorem dX8_empties_26 : decode cX8_empties 26 = .ok (.return_, 1) := by decide +kernel
theorem dX8_becomes_0 : decode cX8_becomes 0 = .ok (.iconst 0, 1) := by decide +kernel
theorem dX8_becomes_1 : decode cX8_becomes 1 = .ok (.istore_n 2, 1) := by decide +kernel
theorem dX8_becomes_2 : decode cX8_becomes 2 = .ok (.iload_n 2, 1) := by decide +kernel
theorem dX8_becomes_3 : decode cX8_becomes 3 = .ok (.bipush 10, 2) := by decide +kernel
theorem dX8_becomes_5 : decode cX8_becomes 5 = .ok (.if_icmp .ge 21, 3) := by decide +kernel
theorem dX8_becomes_8 : decode cX8_becomes 8 = .ok (.aload_n 0, 1) := by decide +kernel
theorem dX8_becomes_9 : decode cX8_becomes 9 = .ok (.getfield 11, 3) := by decide +kernel
theorem dX8_becomes_12 : decode cX8_becomes 12 = .ok (.iload_n 2, 1) := by decide +kernel
theorem dX8_becomes_13 : decode cX8_becomes 13 = .ok (.aload_n 1, 1) := by decide +kernel
theorem dX8_becomes_14 : decode cX8_becomes 14 = .ok (.getfield 11, 3) := by decide +kernel
theorem dX8_becomes_17 : decode cX8_becomes 17 = .ok (.iload_n 2, 1) := by decide +kernel
theorem dX8_becomes_18 : decode cX8_becomes 18 = .ok (.aaload, 1) := by decide +kernel
theorem dX8_becomes_19 : decode cX8_becomes 19 = .ok (.aastore, 1) := by decide +kernel
theorem dX8_becomes_20 : decode cX8_becomes 20 = .ok (.iinc 2 1, 3) := by decide +kernel
theorem dX8_becomes_23 : decode cX8_becomes 23 = .ok (.goto (-21), 3) := by decide +kernel
theorem dX8_becomes_26 : decode cX8_becomes 26 = .ok (.aload_n 0, 1) := by decide +kernel
theorem dX8_becomes_27 : decode cX8_becomes 27 = .ok (.aload_n 1, 1) := by decide +kernel
theorem dX8_becomes_28 : decode cX8_becomes 28 = .ok (.getfield 17, 3) := by decide +kernel
theorem dX8_becomes_31 : decode cX8_becomes 31 = .ok (.putfield 17, 3) := by decide +kernel
theorem dX8_becomes_34 : decode cX8_becomes 34 = .ok (.return_, 1) := by decide +kernel
theorem dX3_init_0 : decode cX3_init 0 = .ok (.aload_n 0, 1) := by decide +kernel
theorem dX3_init_1 : decode cX3_init 1 = .ok (.invokespecial 3, 3) := by decide +kernel
theorem dX3_init_4 : decode cX3_init 4 = .ok (.aload_n 0, 1) := by decide +kernel
theorem dX3_init_5 : decode cX3_init 5 = .ok (.bipush 6, 2) := by decide +kernel
theorem dX3_init_7 : decode cX3_init 7 = .ok (.newarray .int, 2) := by decide +kernel
theorem dX3_init_9 : decode cX3_init 9 = .ok (.putfield 9, 3) := by decide +kernel
theorem dX3_init_12 : decode cX3_init 12 = .ok (.aload_n 0, 1) := by decide +kernel
theorem dX3_init_13 : decode cX3_init 13 = .ok (.bipush 6, 2) := by decide +kernel
theorem dX3_init_15 : decode cX3_init 15 = .ok (.newarray .boolean, 2) := by decide +kernel
theorem dX3_init_17 : decode cX3_init 17 = .ok (.putfield 15, 3) := by decide +kernel
theorem dX3_init_20 : decode cX3_init 20 = .ok (.aload_n 0, 1) := by decide +kernel
theorem dX3_init_21 : decode cX3_init 21 = .ok (.iconst 0, 1) := by decide +kernel
theorem dX3_init_22 : decode cX3_init 22 = .ok (.putfield 19, 3) := by decide +kernel
theorem dX3_init_25 : decode cX3_init 25 = .ok (.return_, 1) := by decide +kernel
theorem dX3_adds_0 : decode cX3_adds 0 = .ok (.aload_n 0, 1) := by decide +kernel
theorem dX3_adds_1 : decode cX3_adds 1 = .ok (.getfield 19, 3) := by decide +kernel
theorem dX3_adds_4 : decode cX3_adds 4 = .ok (.bipush 6, 2) := by decide +kernel
theorem dX3_adds_6 : decode cX3_adds 6 = .ok (.if_icmp .lt 5, 3) := by decide +kernel
theorem dX3_adds_9 : decode cX3_adds 9 = .ok (.iconst 0, 1) := by decide +kernel
theorem dX3_adds_10 : decode cX3_adds 10 = .ok (.ireturn, 1) := by decide +kernel
theorem dX3_adds_11 : decode cX3_adds 11 = .ok (.aload_n 0, 1) := by decide +kernel
theorem dX3_adds_12 : decode cX3_adds 12 = .ok (.getfield 9, 3) := by decide +kernel
theorem dX3_adds_15 : decode cX3_adds 15 = .ok (.aload_n 0, 1) := by decide +kernel
theorem dX3_adds_16 : decode cX3_adds 16 = .ok (.getfield 19, 3) := by decide +kernel
theorem dX3_adds_19 : decode cX3_adds 19 = .ok (.iload_n 1, 1) := by decide +kernel
theorem dX3_adds_20 : decode cX3_adds 20 = .ok (.iastore, 1) := by decide +kernel
theorem dX3_adds_21 : decode cX3_adds 21 = .ok (.aload_n 0, 1) := by decide +kernel
theorem dX3_adds_22 : decode cX3_adds 22 = .ok (.getfield 15, 3) := by decide +kernel
theorem dX3_adds_25 : decode cX3_adds 25 = .ok (.aload_n 0, 1) := by decide +kernel
theorem dX3_adds_26 : decode cX3_adds 26 = .ok (.getfield 19, 3) := by decide +kernel
theorem dX3_adds_29 : decode cX3_adds 29 = .ok (.iload_n 2, 1) := by decide +kernel
theorem dX3_adds_30 : decode cX3_adds 30 = .ok (.bastore, 1) := by decide +kernel
theorem dX3_adds_31 : decode cX3_adds 31 = .ok (.aload_n 0, 1) := by decide +kernel
theorem dX3_adds_32 : decode cX3_adds 32 = .ok (.dup, 1) := by decide +kernel
theorem dX3_adds_33 : decode cX3_adds 33 = .ok (.getfield 19, 3) := by decide +kernel
theorem dX3_adds_36 : decode cX3_adds 36 = .ok (.iconst 1, 1) := by decide +kernel
theorem dX3_adds_37 : decode cX3_adds 37 = .ok (.iadd, 1) := by decide +kernel
theorem dX3_adds_38 : decode cX3_adds 38 = .ok (.putfield 19, 3) := by decide +kernel
theorem dX3_adds_41 : decode cX3_adds 41 = .ok (.iconst 1, 1) := by decide +kernel
theorem dX3_adds_42 : decode cX3_adds 42 = .ok (.ireturn, 1) := by decide +kernel
theorem dX3_empties_0 : decode cX3_empties 0 = .ok (.aload_n 0, 1) := by decide +kernel
theorem dX3_empties_1 : decode cX3_empties 1 = .ok (.getfield 19, 3) := by decide +kernel
theorem dX3_empties_4 : decode cX3_empties 4 = .ok (.istore_n 1, 1) := by decide +kernel
theorem dX3_empties_5 : decode cX3_empties 5 = .ok (.aload_n 0, 1) := by decide +kernel
theorem dX3_empties_6 : decode cX3_empties 6 = .ok (.iconst 0, 1) := by decide +kernel
theorem dX3_empties_7 : decode cX3_empties 7 = .ok (.putfield 19, 3) := by decide +kernel
theorem dX3_empties_10 : decode cX3_empties 10 = .ok (.iload_n 1, 1) := by decide +kernel
theorem dX3_empties_11 : decode cX3_empties 11 = .ok (.ireturn, 1) := by decide +kernel
theorem dX3_agree_0 : decode cX3_agree 0 = .ok (.iconst 0, 1) := by decide +kernel
theorem dX3_agree_1 : decode cX3_agree 1 = .ok (.istore 4, 2) := by decide +kernel
theorem dX3_agree_3 : decode cX3_agree 3 = .ok (.iload 4, 2) := by decide +kernel
theorem dX3_agree_5 : decode cX3_agree 5 = .ok (.aload_n 0, 1) := by decide +kernel
theorem dX3_agree_6 : decode cX3_agree 6 = .ok (.getfield 19, 3) := by decide +kernel
theorem dX3_agree_9 : decode cX3_agree 9 = .ok (.if_icmp .ge 57, 3) := by decide +kernel
theorem dX3_agree_12 : decode cX3_agree 12 = .ok (.aload_n 0, 1) := by decide +kernel
theorem dX3_agree_13 : decode cX3_agree 13 = .ok (.getfield 9, 3) := by decide +kernel
theorem dX3_agree_16 : decode cX3_agree 16 = .ok (.iload 4, 2) := by decide +kernel
theorem dX3_agree_18 : decode cX3_agree 18 = .ok (.iaload, 1) := by decide +kernel
theorem dX3_agree_19 : decode cX3_agree 19 = .ok (.iload_n 1, 1) := by decide +kernel
theorem dX3_agree_20 : decode cX3_agree 20 = .ok (.if_icmp .ge 23, 3) := by decide +kernel
theorem dX3_agree_23 : decode cX3_agree 23 = .ok (.aload_n 0, 1) := by decide +kernel
theorem dX3_agree_24 : decode cX3_agree 24 = .ok (.getfield 9, 3) := by decide +kernel
theorem dX3_agree_27 : decode cX3_agree 27 = .ok (.iload 4, 2) := by decide +kernel
theorem dX3_agree_29 : decode cX3_agree 29 = .ok (.iaload, 1) := by decide +kernel
theorem dX3_agree_30 : decode cX3_agree 30 = .ok (.iload_n 3, 1) := by decide +kernel
theorem dX3_agree_31 : decode cX3_agree 31 = .ok (.isub, 1) := by decide +kernel
theorem dX3_agree_32 : decode cX3_agree 32 = .ok (.iload_n 2, 1) := by decide +kernel
theorem dX3_agree_33 : decode cX3_agree 33 = .ok (.invokestatic 23, 3) := by decide +kernel
theorem dX3_agree_36 : decode cX3_agree 36 = .ok (.ifCond .ne 7, 3) := by decide +kernel
theorem dX3_agree_39 : decode cX3_agree 39 = .ok (.iconst 1, 1) := by decide +kernel
theorem dX3_agree_40 : decode cX3_agree 40 = .ok (.goto 4, 3) := by decide +kernel
theorem dX3_agree_43 : decode cX3_agree 43 = .ok (.iconst 0, 1) := by decide +kernel
theorem dX3_agree_44 : decode cX3_agree 44 = .ok (.istore 5, 2) := by decide +kernel
theorem dX3_agree_46 : decode cX3_agree 46 = .ok (.iload 5, 2) := by decide +kernel
theorem dX3_agree_48 : decode cX3_agree 48 = .ok (.aload_n 0, 1) := by decide +kernel
theorem dX3_agree_49 : decode cX3_agree 49 = .ok (.getfield 15, 3) := by decide +kernel
theorem dX3_agree_52 : decode cX3_agree 52 = .ok (.iload 4, 2) := by decide +kernel
theorem dX3_agree_54 : decode cX3_agree 54 = .ok (.baload, 1) := by decide +kernel
theorem dX3_agree_55 : decode cX3_agree 55 = .ok (.if_icmp .eq 5, 3) := by decide +kernel
theorem dX3_agree_58 : decode cX3_agree 58 = .ok (.iconst 0, 1) := by decide +kernel
theorem dX3_agree_59 : decode cX3_agree 59 = .ok (.ireturn, 1) := by decide +kernel
theorem dX3_agree_60 : decode cX3_agree 60 = .ok (.iinc 4 1, 3) := by decide +kernel
theorem dX3_agree_63 : decode cX3_agree 63 = .ok (.goto (-60), 3) := by decide +kernel
theorem dX3_agree_66 : decode cX3_agree 66 = .ok (.iconst 1, 1) := by decide +kernel
theorem dX3_agree_67 : decode cX3_agree 67 = .ok (.ireturn, 1) := by decide +kernel
theorem dX3_startsAgreeing_0 : decode cX3_startsAgreeing 0 = .ok (.iconst 0, 1) := by decide +kernel
theorem dX3_startsAgreeing_1 : decode cX3_startsAgreeing 1 = .ok (.istore_n 3, 1) := by decide +kernel
theorem dX3_startsAgreeing_2 : decode cX3_startsAgreeing 2 = .ok (.iconst 0, 1) := by decide +kernel
theorem dX3_startsAgreeing_3 : decode cX3_startsAgreeing 3 = .ok (.istore 4, 2) := by decide +kernel
theorem dX3_startsAgreeing_5 : decode cX3_startsAgreeing 5 = .ok (.iload 4, 2) := by decide +kernel
theorem dX3_startsAgreeing_7 : decode cX3_startsAgreeing 7 = .ok (.iload_n 2, 1) := by decide +kernel
theorem dX3_startsAgreeing_8 : decode cX3_startsAgreeing 8 = .ok (.if_icmp .ge 23, 3) := by decide +kernel
theorem dX3_startsAgreeing_11 : decode cX3_startsAgreeing 11 = .ok (.aload_n 0, 1) := by decide +kernel
theorem dX3_startsAgreeing_12 : decode cX3_startsAgreeing 12 = .ok (.iload_n 1, 1) := by decide +kernel
theorem dX3_startsAgreeing_13 : decode cX3_startsAgreeing 13 = .ok (.iload_n 2, 1) := by decide +kernel
theorem dX3_startsAgreeing_14 : decode cX3_startsAgreeing 14 = .ok (.iload 4, 2) := by decide +kernel
theorem dX3_startsAgreeing_16 : decode cX3_startsAgreeing 16 = .ok (.invokevirtual 27, 3) := by decide +kernel
theorem dX3_startsAgreeing_19 : decode cX3_startsAgreeing 19 = .ok (.ifCond .eq 6, 3) := by decide +kernel
theorem dX3_startsAgreeing_22 : decode cX3_startsAgreeing 22 = .ok (.iinc 3 1, 3) := by decide +kernel
theorem dX3_startsAgreeing_25 : decode cX3_startsAgreeing 25 = .ok (.iinc 4 1, 3) := by decide +kernel
theorem dX3_startsAgreeing_28 : decode cX3_startsAgreeing 28 = .ok (.goto (-23), 3) := by decide +kernel
theorem dX3_startsAgreeing_31 : decode cX3_startsAgreeing 31 = .ok (.iload_n 3, 1) := by decide +kernel
theorem dX3_startsAgreeing_32 : decode cX3_startsAgreeing 32 = .ok (.ireturn, 1) := by decide +kernel
theorem dX3_firstAgreeing_0 : decode cX3_firstAgreeing 0 = .ok (.iconst 0, 1) := by decide +kernel
theorem dX3_firstAgreeing_1 : decode cX3_firstAgreeing 1 = .ok (.istore_n 3, 1) := by decide +kernel
theorem dX3_firstAgreeing_2 : decode cX3_firstAgreeing 2 = .ok (.iload_n 3, 1) := by decide +kernel
theorem dX3_firstAgreeing_3 : decode cX3_firstAgreeing 3 = .ok (.iload_n 2, 1) := by decide +kernel
theorem dX3_firstAgreeing_4 : decode cX3_firstAgreeing 4 = .ok (.if_icmp .ge 21, 3) := by decide +kernel
theorem dX3_firstAgreeing_7 : decode cX3_firstAgreeing 7 = .ok (.aload_n 0, 1) := by decide +kernel
theorem dX3_firstAgreeing_8 : decode cX3_firstAgreeing 8 = .ok (.iload_n 1, 1) := by decide +kernel
theorem dX3_firstAgreeing_9 : decode cX3_firstAgreeing 9 = .ok (.iload_n 2, 1) := by decide +kernel
theorem dX3_firstAgreeing_10 : decode cX3_firstAgreeing 10 = .ok (.iload_n 3, 1) := by decide +kernel
theorem dX3_firstAgreeing_11 : decode cX3_firstAgreeing 11 = .ok (.invokevirtual 27, 3) := by decide +kernel
theorem dX3_firstAgreeing_14 : decode cX3_firstAgreeing 14 = .ok (.ifCond .eq 5, 3) := by decide +kernel
theorem dX3_firstAgreeing_17 : decode cX3_firstAgreeing 17 = .ok (.iload_n 3, 1) := by decide +kernel
theorem dX3_firstAgreeing_18 : decode cX3_firstAgreeing 18 = .ok (.ireturn, 1) := by decide +kernel
theorem dX3_firstAgreeing_19 : decode cX3_firstAgreeing 19 = .ok (.iinc 3 1, 3) := by decide +kernel
theorem dX3_firstAgreeing_22 : decode cX3_firstAgreeing 22 = .ok (.goto (-20), 3) := by decide +kernel
theorem dX3_firstAgreeing_25 : decode cX3_firstAgreeing 25 = .ok (.bipush (-9), 2) := by decide +kernel
theorem dX3_firstAgreeing_27 : decode cX3_firstAgreeing 27 = .ok (.ireturn, 1) := by decide +kernel
theorem dX4_init_0 : decode cX4_init 0 = .ok (.aload_n 0, 1) := by decide +kernel
theorem dX4_init_1 : decode cX4_init 1 = .ok (.invokespecial 3, 3) := by decide +kernel
theorem dX4_init_4 : decode cX4_init 4 = .ok (.aload_n 0, 1) := by decide +kernel
theorem dX4_init_5 : decode cX4_init 5 = .ok (.bipush 100, 2) := by decide +kernel
theorem dX4_init_7 : decode cX4_init 7 = .ok (.newarray .int, 2) := by decide +kernel
theorem dX4_init_9 : decode cX4_init 9 = .ok (.putfield 9, 3) := by decide +kernel
theorem dX4_init_12 : decode cX4_init 12 = .ok (.aload_n 0, 1) := by decide +kernel
theorem dX4_init_13 : decode cX4_init 13 = .ok (.iconst 0, 1) := by decide +kernel
theorem dX4_init_14 : decode cX4_init 14 = .ok (.putfield 15, 3) := by decide +kernel
theorem dX4_init_17 : decode cX4_init 17 = .ok (.aload_n 0, 1) := by decide +kernel
theorem dX4_init_18 : decode cX4_init 18 = .ok (.iconst 0, 1) := by decide +kernel
theorem dX4_init_19 : decode cX4_init 19 = .ok (.putfield 19, 3) := by decide +kernel
theorem dX4_init_22 : decode cX4_init 22 = .ok (.aload_n 0, 1) := by decide +kernel
theorem dX4_init_23 : decode cX4_init 23 = .ok (.iconst 0, 1) := by decide +kernel
theorem dX4_init_24 : decode cX4_init 24 = .ok (.putfield 22, 3) := by decide +kernel
theorem dX4_init_27 : decode cX4_init 27 = .ok (.aload_n 0, 1) := by decide +kernel
theorem dX4_init_28 : decode cX4_init 28 = .ok (.iconst 0, 1) := by decide +kernel
theorem dX4_init_29 : decode cX4_init 29 = .ok (.putfield 25, 3) := by decide +kernel
theorem dX4_init_32 : decode cX4_init 32 = .ok (.aload_n 0, 1) := by decide +kernel
theorem dX4_init_33 : decode cX4_init 33 = .ok (.iconst 0, 1) := by decide +kernel
theorem dX4_init_34 : decode cX4_init 34 = .ok (.putfield 28, 3) := by decide +kernel
theorem dX4_init_37 : decode cX4_init 37 = .ok (.return_, 1) := by decide +kernel
theorem dX4_adds_0 : decode cX4_adds 0 = .ok (.aload_n 0, 1) := by decide +kernel
theorem dX4_adds_1 : decode cX4_adds 1 = .ok (.getfield 15, 3) := by decide +kernel
theorem dX4_adds_4 : decode cX4_adds 4 = .ok (.bipush 100, 2) := by decide +kernel
theorem dX4_adds_6 : decode cX4_adds 6 = .ok (.if_icmp .lt 5, 3) := by decide +kernel
theorem dX4_adds_9 : decode cX4_adds 9 = .ok (.iconst 0, 1) := by decide +kernel
theorem dX4_adds_10 : decode cX4_adds 10 = .ok (.ireturn, 1) := by decide +kernel
theorem dX4_adds_11 : decode cX4_adds 11 = .ok (.aload_n 0, 1) := by decide +kernel
theorem dX4_adds_12 : decode cX4_adds 12 = .ok (.getfield 9, 3) := by decide +kernel
theorem dX4_adds_15 : decode cX4_adds 15 = .ok (.aload_n 0, 1) := by decide +kernel
theorem dX4_adds_16 : decode cX4_adds 16 = .ok (.getfield 15, 3) := by decide +kernel
theorem dX4_adds_19 : decode cX4_adds 19 = .ok (.iload_n 1, 1) := by decide +kernel
theorem dX4_adds_20 : decode cX4_adds 20 = .ok (.iastore, 1) := by decide +kernel
theorem dX4_adds_21 : decode cX4_adds 21 = .ok (.aload_n 0, 1) := by decide +kernel
theorem dX4_adds_22 : decode cX4_adds 22 = .ok (.dup, 1) := by decide +kernel
theorem dX4_adds_23 : decode cX4_adds 23 = .ok (.getfield 15, 3) := by decide +kernel
theorem dX4_adds_26 : decode cX4_adds 26 = .ok (.iconst 1, 1) := by decide +kernel
theorem dX4_adds_27 : decode cX4_adds 27 = .ok (.iadd, 1) := by decide +kernel
theorem dX4_adds_28 : decode cX4_adds 28 = .ok (.putfield 15, 3) := by decide +kernel
theorem dX4_adds_31 : decode cX4_adds 31 = .ok (.iconst 1, 1) := by decide +kernel
theorem dX4_adds_32 : decode cX4_adds 32 = .ok (.ireturn, 1) := by decide +kernel
theorem dX4_empties_0 : decode cX4_empties 0 = .ok (.aload_n 0, 1) := by decide +kernel
theorem dX4_empties_1 : decode cX4_empties 1 = .ok (.getfield 15, 3) := by decide +kernel
theorem dX4_empties_4 : decode cX4_empties 4 = .ok (.istore_n 1, 1) := by decide +kernel
theorem dX4_empties_5 : decode cX4_empties 5 = .ok (.aload_n 0, 1) := by decide +kernel
theorem dX4_empties_6 : decode cX4_empties 6 = .ok (.iconst 0, 1) := by decide +kernel
theorem dX4_empties_7 : decode cX4_empties 7 = .ok (.putfield 15, 3) := by decide +kernel
theorem dX4_empties_10 : decode cX4_empties 10 = .ok (.iload_n 1, 1) := by decide +kernel
theorem dX4_empties_11 : decode cX4_empties 11 = .ok (.ireturn, 1) := by decide +kernel
theorem dX4_faultIn_0 : decode cX4_faultIn 0 = .ok (.aload_n 0, 1) := by decide +kernel
theorem dX4_faultIn_1 : decode cX4_faultIn 1 = .ok (.iconst 0, 1) := by decide +kernel
theorem dX4_faultIn_2 : decode cX4_faultIn 2 = .ok (.putfield 22, 3) := by decide +kernel
theorem dX4_faultIn_5 : decode cX4_faultIn 5 = .ok (.aload_n 0, 1) := by decide +kernel
theorem dX4_faultIn_6 : decode cX4_faultIn 6 = .ok (.invokevirtual 31, 3) := by decide +kernel
theorem dX4_faultIn_9 : decode cX4_faultIn 9 = .ok (.iconst 0, 1) := by decide +kernel
theorem dX4_faultIn_10 : decode cX4_faultIn 10 = .ok (.istore_n 2, 1) := by decide +kernel
theorem dX4_faultIn_11 : decode cX4_faultIn 11 = .ok (.iload_n 2, 1) := by decide +kernel
theorem dX4_faultIn_12 : decode cX4_faultIn 12 = .ok (.bipush 100, 2) := by decide +kernel
theorem dX4_faultIn_14 : decode cX4_faultIn 14 = .ok (.if_icmp .gt 92, 3) := by decide +kernel
theorem dX4_faultIn_17 : decode cX4_faultIn 17 = .ok (.aload_n 0, 1) := by decide +kernel
theorem dX4_faultIn_18 : decode cX4_faultIn 18 = .ok (.getfield 25, 3) := by decide +kernel
theorem dX4_faultIn_21 : decode cX4_faultIn 21 = .ok (.ifCond .eq 85, 3) := by decide +kernel
theorem dX4_faultIn_24 : decode cX4_faultIn 24 = .ok (.aload_n 0, 1) := by decide +kernel
theorem dX4_faultIn_25 : decode cX4_faultIn 25 = .ok (.getfield 28, 3) := by decide +kernel
theorem dX4_faultIn_28 : decode cX4_faultIn 28 = .ok (.istore_n 3, 1) := by decide +kernel
theorem dX4_faultIn_29 : decode cX4_faultIn 29 = .ok (.aload_n 0, 1) := by decide +kernel
theorem dX4_faultIn_30 : decode cX4_faultIn 30 = .ok (.getfield 25, 3) := by decide +kernel
theorem dX4_faultIn_33 : decode cX4_faultIn 33 = .ok (.iconst 1, 1) := by decide +kernel
theorem dX4_faultIn_34 : decode cX4_faultIn 34 = .ok (.if_icmp .ne 11, 3) := by decide +kernel
theorem dX4_faultIn_37 : decode cX4_faultIn 37 = .ok (.aload_n 1, 1) := by decide +kernel
theorem dX4_faultIn_38 : decode cX4_faultIn 38 = .ok (.iload_n 3, 1) := by decide +kernel
theorem dX4_faultIn_39 : decode cX4_faultIn 39 = .ok (.invokevirtual 34, 3) := by decide +kernel
theorem dX4_faultIn_42 : decode cX4_faultIn 42 = .ok (.ifCond .ne 8, 3) := by decide +kernel
theorem dX4_faultIn_45 : decode cX4_faultIn 45 = .ok (.aload_n 0, 1) := by decide +kernel
theorem dX4_faultIn_46 : decode cX4_faultIn 46 = .ok (.getfield 19, 3) := by decide +kernel
theorem dX4_faultIn_49 : decode cX4_faultIn 49 = .ok (.ireturn, 1) := by decide +kernel
theorem dX4_faultIn_50 : decode cX4_faultIn 50 = .ok (.aload_n 0, 1) := by decide +kernel
theorem dX4_faultIn_51 : decode cX4_faultIn 51 = .ok (.invokevirtual 31, 3) := by decide +kernel
theorem dX4_faultIn_54 : decode cX4_faultIn 54 = .ok (.aload_n 0, 1) := by decide +kernel
theorem dX4_faultIn_55 : decode cX4_faultIn 55 = .ok (.getfield 25, 3) := by decide +kernel
theorem dX4_faultIn_58 : decode cX4_faultIn 58 = .ok (.iconst 2, 1) := by decide +kernel
theorem dX4_faultIn_59 : decode cX4_faultIn 59 = .ok (.if_icmp .ne 15, 3) := by decide +kernel
theorem dX4_faultIn_62 : decode cX4_faultIn 62 = .ok (.aload_n 1, 1) := by decide +kernel
theorem dX4_faultIn_63 : decode cX4_faultIn 63 = .ok (.iload_n 3, 1) := by decide +kernel
theorem dX4_faultIn_64 : decode cX4_faultIn 64 = .ok (.aload_n 0, 1) := by decide +kernel
theorem dX4_faultIn_65 : decode cX4_faultIn 65 = .ok (.getfield 28, 3) := by decide +kernel
theorem dX4_faultIn_68 : decode cX4_faultIn 68 = .ok (.invokevirtual 40, 3) := by decide +kernel
theorem dX4_faultIn_71 : decode cX4_faultIn 71 = .ok (.ifCond .ne 8, 3) := by decide +kernel
theorem dX4_faultIn_74 : decode cX4_faultIn 74 = .ok (.aload_n 0, 1) := by decide +kernel
theorem dX4_faultIn_75 : decode cX4_faultIn 75 = .ok (.getfield 19, 3) := by decide +kernel
theorem dX4_faultIn_78 : decode cX4_faultIn 78 = .ok (.ireturn, 1) := by decide +kernel
theorem dX4_faultIn_79 : decode cX4_faultIn 79 = .ok (.aload_n 0, 1) := by decide +kernel
theorem dX4_faultIn_80 : decode cX4_faultIn 80 = .ok (.invokevirtual 31, 3) := by decide +kernel
theorem dX4_faultIn_83 : decode cX4_faultIn 83 = .ok (.aload_n 0, 1) := by decide +kernel
theorem dX4_faultIn_84 : decode cX4_faultIn 84 = .ok (.getfield 25, 3) := by decide +kernel
theorem dX4_faultIn_87 : decode cX4_faultIn 87 = .ok (.iconst 3, 1) := by decide +kernel
theorem dX4_faultIn_88 : decode cX4_faultIn 88 = .ok (.if_icmp .eq 8, 3) := by decide +kernel
theorem dX4_faultIn_91 : decode cX4_faultIn 91 = .ok (.aload_n 0, 1) := by decide +kernel
theorem dX4_faultIn_92 : decode cX4_faultIn 92 = .ok (.getfield 19, 3) := by decide +kernel
theorem dX4_faultIn_95 : decode cX4_faultIn 95 = .ok (.ireturn, 1) := by decide +kernel
theorem dX4_faultIn_96 : decode cX4_faultIn 96 = .ok (.aload_n 0, 1) := by decide +kernel
theorem dX4_faultIn_97 : decode cX4_faultIn 97 = .ok (.invokevirtual 31, 3) := by decide +kernel
theorem dX4_faultIn_100 : decode cX4_faultIn 100 = .ok (.iinc 2 1, 3) := by decide +kernel
theorem dX4_faultIn_103 : decode cX4_faultIn 103 = .ok (.goto (-92), 3) := by decide +kernel
theorem dX4_faultIn_106 : decode cX4_faultIn 106 = .ok (.iconst (-1), 1) := by decide +kernel
theorem dX4_faultIn_107 : decode cX4_faultIn 107 = .ok (.ireturn, 1) := by decide +kernel
theorem dX4_readToken_0 : decode cX4_readToken 0 = .ok (.aload_n 0, 1) := by decide +kernel
theorem dX4_readToken_1 : decode cX4_readToken 1 = .ok (.getfield 22, 3) := by decide +kernel
theorem dX4_readToken_4 : decode cX4_readToken 4 = .ok (.aload_n 0, 1) := by decide +kernel
theorem dX4_readToken_5 : decode cX4_readToken 5 = .ok (.getfield 15, 3) := by decide +kernel
theorem dX4_readToken_8 : decode cX4_readToken 8 = .ok (.if_icmp .ge 29, 3) := by decide +kernel
theorem dX4_readToken_11 : decode cX4_readToken 11 = .ok (.aload_n 0, 1) := by decide +kernel
theorem dX4_readToken_12 : decode cX4_readToken 12 = .ok (.aload_n 0, 1) := by decide +kernel
theorem dX4_readToken_13 : decode cX4_readToken 13 = .ok (.getfield 22, 3) := by decide +kernel
theorem dX4_readToken_16 : decode cX4_readToken 16 = .ok (.invokevirtual 44, 3) := by decide +kernel
theorem dX4_readToken_19 : decode cX4_readToken 19 = .ok (.bipush 32, 2) := by decide +kernel
theorem dX4_readToken_21 : decode cX4_readToken 21 = .ok (.if_icmp .ne 16, 3) := by decide +kernel
theorem dX4_readToken_24 : decode cX4_readToken 24 = .ok (.aload_n 0, 1) := by decide +kernel
theorem dX4_readToken_25 : decode cX4_readToken 25 = .ok (.dup, 1) := by decide +kernel
theorem dX4_readToken_26 : decode cX4_readToken 26 = .ok (.getfield 22, 3) := by decide +kernel
theorem dX4_readToken_29 : decode cX4_readToken 29 = .ok (.iconst 1, 1) := by decide +kernel
theorem dX4_readToken_30 : decode cX4_readToken 30 = .ok (.iadd, 1) := by decide +kernel
theorem dX4_readToken_31 : decode cX4_readToken 31 = .ok (.putfield 22, 3) := by decide +kernel
theorem dX4_readToken_34 : decode cX4_readToken 34 = .ok (.goto (-34), 3) := by decide +kernel
theorem dX4_readToken_37 : decode cX4_readToken 37 = .ok (.aload_n 0, 1) := by decide +kernel
theorem dX4_readToken_38 : decode cX4_readToken 38 = .ok (.aload_n 0, 1) := by decide +kernel
theorem dX4_readToken_39 : decode cX4_readToken 39 = .ok (.getfield 22, 3) := by decide +kernel
theorem dX4_readToken_42 : decode cX4_readToken 42 = .ok (.putfield 19, 3) := by decide +kernel
theorem dX4_readToken_45 : decode cX4_readToken 45 = .ok (.aload_n 0, 1) := by decide +kernel
theorem dX4_readToken_46 : decode cX4_readToken 46 = .ok (.aload_n 0, 1) := by decide +kernel
theorem dX4_readToken_47 : decode cX4_readToken 47 = .ok (.getfield 19, 3) := by decide +kernel
theorem dX4_readToken_50 : decode cX4_readToken 50 = .ok (.invokevirtual 44, 3) := by decide +kernel
theorem dX4_readToken_53 : decode cX4_readToken 53 = .ok (.istore_n 1, 1) := by decide +kernel
theorem dX4_readToken_54 : decode cX4_readToken 54 = .ok (.aload_n 0, 1) := by decide +kernel
theorem dX4_readToken_55 : decode cX4_readToken 55 = .ok (.getfield 19, 3) := by decide +kernel
theorem dX4_readToken_58 : decode cX4_readToken 58 = .ok (.aload_n 0, 1) := by decide +kernel
theorem dX4_readToken_59 : decode cX4_readToken 59 = .ok (.getfield 15, 3) := by decide +kernel
theorem dX4_readToken_62 : decode cX4_readToken 62 = .ok (.if_icmp .lt 11, 3) := by decide +kernel
theorem dX4_readToken_65 : decode cX4_readToken 65 = .ok (.aload_n 0, 1) := by decide +kernel
theorem dX4_readToken_66 : decode cX4_readToken 66 = .ok (.iconst 0, 1) := by decide +kernel
theorem dX4_readToken_67 : decode cX4_readToken 67 = .ok (.putfield 25, 3) := by decide +kernel
theorem dX4_readToken_70 : decode cX4_readToken 70 = .ok (.goto 56, 3) := by decide +kernel
theorem dX4_readToken_73 : decode cX4_readToken 73 = .ok (.iload_n 1, 1) := by decide +kernel
theorem dX4_readToken_74 : decode cX4_readToken 74 = .ok (.invokestatic 48, 3) := by decide +kernel
theorem dX4_readToken_77 : decode cX4_readToken 77 = .ok (.ifCond .eq 10, 3) := by decide +kernel
theorem dX4_readToken_80 : decode cX4_readToken 80 = .ok (.aload_n 0, 1) := by decide +kernel
theorem dX4_readToken_81 : decode cX4_readToken 81 = .ok (.invokevirtual 51, 3) := by decide +kernel
theorem dX4_readToken_84 : decode cX4_readToken 84 = .ok (.goto 42, 3) := by decide +kernel
theorem dX4_readToken_87 : decode cX4_readToken 87 = .ok (.iload_n 1, 1) := by decide +kernel
theorem dX4_readToken_88 : decode cX4_readToken 88 = .ok (.invokestatic 54, 3) := by decide +kernel
theorem dX4_readToken_91 : decode cX4_readToken 91 = .ok (.ifCond .eq 10, 3) := by decide +kernel
theorem dX4_readToken_94 : decode cX4_readToken 94 = .ok (.aload_n 0, 1) := by decide +kernel
theorem dX4_readToken_95 : decode cX4_readToken 95 = .ok (.invokevirtual 57, 3) := by decide +kernel
theorem dX4_readToken_98 : decode cX4_readToken 98 = .ok (.goto 28, 3) := by decide +kernel
theorem dX4_readToken_101 : decode cX4_readToken 101 = .ok (.aload_n 0, 1) := by decide +kernel
theorem dX4_readToken_102 : decode cX4_readToken 102 = .ok (.iload_n 1, 1) := by decide +kernel
theorem dX4_readToken_103 : decode cX4_readToken 103 = .ok (.bipush 59, 2) := by decide +kernel
theorem dX4_readToken_105 : decode cX4_readToken 105 = .ok (.if_icmp .ne 7, 3) := by decide +kernel
theorem dX4_readToken_108 : decode cX4_readToken 108 = .ok (.iconst 3, 1) := by decide +kernel
theorem dX4_readToken_109 : decode cX4_readToken 109 = .ok (.goto 4, 3) := by decide +kernel
theorem dX4_readToken_112 : decode cX4_readToken 112 = .ok (.iconst 4, 1) := by decide +kernel
theorem dX4_readToken_113 : decode cX4_readToken 113 = .ok (.putfield 25, 3) := by decide +kernel
theorem dX4_readToken_116 : decode cX4_readToken 116 = .ok (.aload_n 0, 1) := by decide +kernel
theorem dX4_readToken_117 : decode cX4_readToken 117 = .ok (.dup, 1) := by decide +kernel
theorem dX4_readToken_118 : decode cX4_readToken 118 = .ok (.getfield 22, 3) := by decide +kernel
theorem dX4_readToken_121 : decode cX4_readToken 121 = .ok (.iconst 1, 1) := by decide +kernel
theorem dX4_readToken_122 : decode cX4_readToken 122 = .ok (.iadd, 1) := by decide +kernel
theorem dX4_readToken_123 : decode cX4_readToken 123 = .ok (.putfield 22, 3) := by decide +kernel
theorem dX4_readToken_126 : decode cX4_readToken 126 = .ok (.return_, 1) := by decide +kernel
theorem dX4_readLetters_0 : decode cX4_readLetters 0 = .ok (.aload_n 0, 1) := by decide +kernel
theorem dX4_readLetters_1 : decode cX4_readLetters 1 = .ok (.getfield 22, 3) := by decide +kernel
theorem dX4_readLetters_4 : decode cX4_readLetters 4 = .ok (.aload_n 0, 1) := by decide +kernel
theorem dX4_readLetters_5 : decode cX4_readLetters 5 = .ok (.getfield 15, 3) := by decide +kernel
theorem dX4_readLetters_8 : decode cX4_readLetters 8 = .ok (.if_icmp .ge 30, 3) := by decide +kernel
theorem dX4_readLetters_11 : decode cX4_readLetters 11 = .ok (.aload_n 0, 1) := by decide +kernel
theorem dX4_readLetters_12 : decode cX4_readLetters 12 = .ok (.aload_n 0, 1) := by decide +kernel
theorem dX4_readLetters_13 : decode cX4_readLetters 13 = .ok (.getfield 22, 3) := by decide +kernel
theorem dX4_readLetters_16 : decode cX4_readLetters 16 = .ok (.invokevirtual 44, 3) := by decide +kernel
theorem dX4_readLetters_19 : decode cX4_readLetters 19 = .ok (.invokestatic 48, 3) := by decide +kernel
theorem dX4_readLetters_22 : decode cX4_readLetters 22 = .ok (.ifCond .eq 16, 3) := by decide +kernel
theorem dX4_readLetters_25 : decode cX4_readLetters 25 = .ok (.aload_n 0, 1) := by decide +kernel
theorem dX4_readLetters_26 : decode cX4_readLetters 26 = .ok (.dup, 1) := by decide +kernel
theorem dX4_readLetters_27 : decode cX4_readLetters 27 = .ok (.getfield 22, 3) := by decide +kernel
theorem dX4_readLetters_30 : decode cX4_readLetters 30 = .ok (.iconst 1, 1) := by decide +kernel
theorem dX4_readLetters_31 : decode cX4_readLetters 31 = .ok (.iadd, 1) := by decide +kernel
theorem dX4_readLetters_32 : decode cX4_readLetters 32 = .ok (.putfield 22, 3) := by decide +kernel
theorem dX4_readLetters_35 : decode cX4_readLetters 35 = .ok (.goto (-35), 3) := by decide +kernel
theorem dX4_readLetters_38 : decode cX4_readLetters 38 = .ok (.aload_n 0, 1) := by decide +kernel
theorem dX4_readLetters_39 : decode cX4_readLetters 39 = .ok (.iconst 1, 1) := by decide +kernel
theorem dX4_readLetters_40 : decode cX4_readLetters 40 = .ok (.putfield 25, 3) := by decide +kernel
theorem dX4_readLetters_43 : decode cX4_readLetters 43 = .ok (.aload_n 0, 1) := by decide +kernel
theorem dX4_readLetters_44 : decode cX4_readLetters 44 = .ok (.aload_n 0, 1) := by decide +kernel
theorem dX4_readLetters_45 : decode cX4_readLetters 45 = .ok (.getfield 22, 3) := by decide +kernel
theorem dX4_readLetters_48 : decode cX4_readLetters 48 = .ok (.aload_n 0, 1) := by decide +kernel
theorem dX4_readLetters_49 : decode cX4_readLetters 49 = .ok (.getfield 19, 3) := by decide +kernel
theorem dX4_readLetters_52 : decode cX4_readLetters 52 = .ok (.isub, 1) := by decide +kernel
theorem dX4_readLetters_53 : decode cX4_readLetters 53 = .ok (.iconst 1, 1) := by decide +kernel
theorem dX4_readLetters_54 : decode cX4_readLetters 54 = .ok (.if_icmp .ne 14, 3) := by decide +kernel
theorem dX4_readLetters_57 : decode cX4_readLetters 57 = .ok (.aload_n 0, 1) := by decide +kernel
theorem dX4_readLetters_58 : decode cX4_readLetters 58 = .ok (.aload_n 0, 1) := by decide +kernel
theorem dX4_readLetters_59 : decode cX4_readLetters 59 = .ok (.getfield 19, 3) := by decide +kernel
theorem dX4_readLetters_62 : decode cX4_readLetters 62 = .ok (.invokevirtual 44, 3) := by decide +kernel
theorem dX4_readLetters_65 : decode cX4_readLetters 65 = .ok (.goto 4, 3) := by decide +kernel
theorem dX4_readLetters_68 : decode cX4_readLetters 68 = .ok (.iconst 0, 1) := by decide +kernel
theorem dX4_readLetters_69 : decode cX4_readLetters 69 = .ok (.putfield 28, 3) := by decide +kernel
