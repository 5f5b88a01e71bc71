theorem dX0_init_0 : decode cX0_init 0 = .ok (.aload_n 0, 1) := by decide +kernel
theorem dX0_init_1 : decode cX0_init 1 = .ok (.invokespecial 3, 3) := by decide +kernel
theorem dX0_init_4 : decode cX0_init 4 = .ok (.aload_n 0, 1) := by decide +kernel
theorem dX0_init_5 : decode cX0_init 5 = .ok (.sipush 1401, 3) := by decide +kernel
theorem dX0_init_8 : decode cX0_init 8 = .ok (.newarray .int, 2) := by decide +kernel
theorem dX0_init_10 : decode cX0_init 10 = .ok (.putfield 9, 3) := by decide +kernel
theorem dX0_init_13 : decode cX0_init 13 = .ok (.aload_n 0, 1) := by decide +kernel
theorem dX0_init_14 : decode cX0_init 14 = .ok (.bipush 30, 2) := by decide +kernel
theorem dX0_init_16 : decode cX0_init 16 = .ok (.newarray .int, 2) := by decide +kernel
theorem dX0_init_18 : decode cX0_init 18 = .ok (.putfield 15, 3) := by decide +kernel
theorem dX0_init_21 : decode cX0_init 21 = .ok (.aload_n 0, 1) := by decide +kernel
theorem dX0_init_22 : decode cX0_init 22 = .ok (.getstatic 18, 3) := by decide +kernel
theorem dX0_init_25 : decode cX0_init 25 = .ok (.invokevirtual 21, 3) := by decide +kernel
theorem dX0_init_28 : decode cX0_init 28 = .ok (.checkcast 22, 3) := by decide +kernel
theorem dX0_init_31 : decode cX0_init 31 = .ok (.putfield 26, 3) := by decide +kernel
theorem dX0_init_34 : decode cX0_init 34 = .ok (.aload_n 0, 1) := by decide +kernel
theorem dX0_init_35 : decode cX0_init 35 = .ok (.iconst 5, 1) := by decide +kernel
theorem dX0_init_36 : decode cX0_init 36 = .ok (.newarray .boolean, 2) := by decide +kernel
theorem dX0_init_38 : decode cX0_init 38 = .ok (.putfield 29, 3) := by decide +kernel
theorem dX0_init_41 : decode cX0_init 41 = .ok (.aload_n 0, 1) := by decide +kernel
theorem dX0_init_42 : decode cX0_init 42 = .ok (.bipush 8, 2) := by decide +kernel
theorem dX0_init_44 : decode cX0_init 44 = .ok (.sipush 160, 3) := by decide +kernel
theorem dX0_init_47 : decode cX0_init 47 = .ok (.multianewarray 33 2, 4) := by decide +kernel
theorem dX0_init_51 : decode cX0_init 51 = .ok (.putfield 35, 3) := by decide +kernel
theorem dX0_init_54 : decode cX0_init 54 = .ok (.aload_n 0, 1) := by decide +kernel
theorem dX0_init_55 : decode cX0_init 55 = .ok (.bipush 8, 2) := by decide +kernel
theorem dX0_init_57 : decode cX0_init 57 = .ok (.newarray .int, 2) := by decide +kernel
theorem dX0_init_59 : decode cX0_init 59 = .ok (.putfield 38, 3) := by decide +kernel
theorem dX0_init_62 : decode cX0_init 62 = .ok (.aload_n 0, 1) := by decide +kernel
theorem dX0_init_63 : decode cX0_init 63 = .ok (.getfield 29, 3) := by decide +kernel
theorem dX0_init_66 : decode cX0_init 66 = .ok (.iconst 4, 1) := by decide +kernel
theorem dX0_init_67 : decode cX0_init 67 = .ok (.iconst 1, 1) := by decide +kernel
theorem dX0_init_68 : decode cX0_init 68 = .ok (.bastore, 1) := by decide +kernel
theorem dX0_init_69 : decode cX0_init 69 = .ok (.iconst 0, 1) := by decide +kernel
theorem dX0_init_70 : decode cX0_init 70 = .ok (.istore_n 1, 1) := by decide +kernel
theorem dX0_init_71 : decode cX0_init 71 = .ok (.iload_n 1, 1) := by decide +kernel
theorem dX0_init_72 : decode cX0_init 72 = .ok (.sipush 1400, 3) := by decide +kernel
theorem dX0_init_75 : decode cX0_init 75 = .ok (.if_icmp .gt 29, 3) := by decide +kernel
theorem dX0_init_78 : decode cX0_init 78 = .ok (.aload_n 0, 1) := by decide +kernel
theorem dX0_init_79 : decode cX0_init 79 = .ok (.getfield 9, 3) := by decide +kernel
theorem dX0_init_82 : decode cX0_init 82 = .ok (.iload_n 1, 1) := by decide +kernel
theorem dX0_init_83 : decode cX0_init 83 = .ok (.iload_n 1, 1) := by decide +kernel
theorem dX0_init_84 : decode cX0_init 84 = .ok (.invokestatic 41, 3) := by decide +kernel
theorem dX0_init_87 : decode cX0_init 87 = .ok (.ifCond .eq 9, 3) := by decide +kernel
theorem dX0_init_90 : decode cX0_init 90 = .ok (.sipush 256, 3) := by decide +kernel
theorem dX0_init_93 : decode cX0_init 93 = .ok (.goto 4, 3) := by decide +kernel
theorem dX0_init_96 : decode cX0_init 96 = .ok (.iconst 0, 1) := by decide +kernel
theorem dX0_init_97 : decode cX0_init 97 = .ok (.iastore, 1) := by decide +kernel
theorem dX0_init_98 : decode cX0_init 98 = .ok (.iinc 1 1, 3) := by decide +kernel
theorem dX0_init_101 : decode cX0_init 101 = .ok (.goto (-30), 3) := by decide +kernel
theorem dX0_init_104 : decode cX0_init 104 = .ok (.return_, 1) := by decide +kernel
theorem dX0_isWeekend_0 : decode cX0_isWeekend 0 = .ok (.iload_n 0, 1) := by decide +kernel
theorem dX0_isWeekend_1 : decode cX0_isWeekend 1 = .ok (.bipush 7, 2) := by decide +kernel
theorem dX0_isWeekend_3 : decode cX0_isWeekend 3 = .ok (.irem, 1) := by decide +kernel
theorem dX0_isWeekend_4 : decode cX0_isWeekend 4 = .ok (.iconst 5, 1) := by decide +kernel
theorem dX0_isWeekend_5 : decode cX0_isWeekend 5 = .ok (.if_icmp .lt 7, 3) := by decide +kernel
theorem dX0_isWeekend_8 : decode cX0_isWeekend 8 = .ok (.iconst 1, 1) := by decide +kernel
theorem dX0_isWeekend_9 : decode cX0_isWeekend 9 = .ok (.goto 4, 3) := by decide +kernel
theorem dX0_isWeekend_12 : decode cX0_isWeekend 12 = .ok (.iconst 0, 1) := by decide +kernel
theorem dX0_isWeekend_13 : decode cX0_isWeekend 13 = .ok (.ireturn, 1) := by decide +kernel
theorem dX0_isFree_0 : decode cX0_isFree 0 = .ok (.aload_n 0, 1) := by decide +kernel
theorem dX0_isFree_1 : decode cX0_isFree 1 = .ok (.getfield 9, 3) := by decide +kernel
theorem dX0_isFree_4 : decode cX0_isFree 4 = .ok (.iload_n 1, 1) := by decide +kernel
theorem dX0_isFree_5 : decode cX0_isFree 5 = .ok (.iaload, 1) := by decide +kernel
theorem dX0_isFree_6 : decode cX0_isFree 6 = .ok (.sipush 256, 3) := by decide +kernel
theorem dX0_isFree_9 : decode cX0_isFree 9 = .ok (.iand, 1) := by decide +kernel
theorem dX0_isFree_10 : decode cX0_isFree 10 = .ok (.ifCond .eq 7, 3) := by decide +kernel
theorem dX0_isFree_13 : decode cX0_isFree 13 = .ok (.iconst 1, 1) := by decide +kernel
theorem dX0_isFree_14 : decode cX0_isFree 14 = .ok (.goto 4, 3) := by decide +kernel
theorem dX0_isFree_17 : decode cX0_isFree 17 = .ok (.iconst 0, 1) := by decide +kernel
theorem dX0_isFree_18 : decode cX0_isFree 18 = .ok (.ireturn, 1) := by decide +kernel
theorem dX0_isHoliday_0 : decode cX0_isHoliday 0 = .ok (.iconst 0, 1) := by decide +kernel
theorem dX0_isHoliday_1 : decode cX0_isHoliday 1 = .ok (.istore_n 2, 1) := by decide +kernel
theorem dX0_isHoliday_2 : decode cX0_isHoliday 2 = .ok (.iload_n 2, 1) := by decide +kernel
theorem dX0_isHoliday_3 : decode cX0_isHoliday 3 = .ok (.aload_n 0, 1) := by decide +kernel
theorem dX0_isHoliday_4 : decode cX0_isHoliday 4 = .ok (.getfield 45, 3) := by decide +kernel
theorem dX0_isHoliday_7 : decode cX0_isHoliday 7 = .ok (.if_icmp .ge 21, 3) := by decide +kernel
theorem dX0_isHoliday_10 : decode cX0_isHoliday 10 = .ok (.aload_n 0, 1) := by decide +kernel
theorem dX0_isHoliday_11 : decode cX0_isHoliday 11 = .ok (.getfield 15, 3) := by decide +kernel
theorem dX0_isHoliday_14 : decode cX0_isHoliday 14 = .ok (.iload_n 2, 1) := by decide +kernel
theorem dX0_isHoliday_15 : decode cX0_isHoliday 15 = .ok (.iaload, 1) := by decide +kernel
theorem dX0_isHoliday_16 : decode cX0_isHoliday 16 = .ok (.iload_n 1, 1) := by decide +kernel
theorem dX0_isHoliday_17 : decode cX0_isHoliday 17 = .ok (.if_icmp .ne 5, 3) := by decide +kernel
theorem dX0_isHoliday_20 : decode cX0_isHoliday 20 = .ok (.iconst 1, 1) := by decide +kernel
theorem dX0_isHoliday_21 : decode cX0_isHoliday 21 = .ok (.ireturn, 1) := by decide +kernel
theorem dX0_isHoliday_22 : decode cX0_isHoliday 22 = .ok (.iinc 2 1, 3) := by decide +kernel
theorem dX0_isHoliday_25 : decode cX0_isHoliday 25 = .ok (.goto (-23), 3) := by decide +kernel
theorem dX0_isHoliday_28 : decode cX0_isHoliday 28 = .ok (.iconst 0, 1) := by decide +kernel
theorem dX0_isHoliday_29 : decode cX0_isHoliday 29 = .ok (.ireturn, 1) := by decide +kernel
theorem dX0_addHoliday_0 : decode cX0_addHoliday 0 = .ok (.aload_n 0, 1) := by decide +kernel
theorem dX0_addHoliday_1 : decode cX0_addHoliday 1 = .ok (.getfield 15, 3) := by decide +kernel
theorem dX0_addHoliday_4 : decode cX0_addHoliday 4 = .ok (.aload_n 0, 1) := by decide +kernel
theorem dX0_addHoliday_5 : decode cX0_addHoliday 5 = .ok (.getfield 45, 3) := by decide +kernel
theorem dX0_addHoliday_8 : decode cX0_addHoliday 8 = .ok (.iload_n 1, 1) := by decide +kernel
theorem dX0_addHoliday_9 : decode cX0_addHoliday 9 = .ok (.iastore, 1) := by decide +kernel
theorem dX0_addHoliday_10 : decode cX0_addHoliday 10 = .ok (.aload_n 0, 1) := by decide +kernel
theorem dX0_addHoliday_11 : decode cX0_addHoliday 11 = .ok (.dup, 1) := by decide +kernel
theorem dX0_addHoliday_12 : decode cX0_addHoliday 12 = .ok (.getfield 45, 3) := by decide +kernel
theorem dX0_addHoliday_15 : decode cX0_addHoliday 15 = .ok (.iconst 1, 1) := by decide +kernel
theorem dX0_addHoliday_16 : decode cX0_addHoliday 16 = .ok (.iadd, 1) := by decide +kernel
theorem dX0_addHoliday_17 : decode cX0_addHoliday 17 = .ok (.putfield 45, 3) := by decide +kernel
theorem dX0_addHoliday_20 : decode cX0_addHoliday 20 = .ok (.aload_n 0, 1) := by decide +kernel
theorem dX0_addHoliday_21 : decode cX0_addHoliday 21 = .ok (.getfield 9, 3) := by decide +kernel
theorem dX0_addHoliday_24 : decode cX0_addHoliday 24 = .ok (.iload_n 1, 1) := by decide +kernel
theorem dX0_addHoliday_25 : decode cX0_addHoliday 25 = .ok (.dup2, 1) := by decide +kernel
theorem dX0_addHoliday_26 : decode cX0_addHoliday 26 = .ok (.iaload, 1) := by decide +kernel
theorem dX0_addHoliday_27 : decode cX0_addHoliday 27 = .ok (.sipush 256, 3) := by decide +kernel
theorem dX0_addHoliday_30 : decode cX0_addHoliday 30 = .ok (.ior, 1) := by decide +kernel
theorem dX0_addHoliday_31 : decode cX0_addHoliday 31 = .ok (.iastore, 1) := by decide +kernel
theorem dX0_addHoliday_32 : decode cX0_addHoliday 32 = .ok (.return_, 1) := by decide +kernel
theorem dX0_isStayOn_0 : decode cX0_isStayOn 0 = .ok (.aload_n 0, 1) := by decide +kernel
theorem dX0_isStayOn_1 : decode cX0_isStayOn 1 = .ok (.getfield 38, 3) := by decide +kernel
theorem dX0_isStayOn_4 : decode cX0_isStayOn 4 = .ok (.iload_n 1, 1) := by decide +kernel
theorem dX0_isStayOn_5 : decode cX0_isStayOn 5 = .ok (.iaload, 1) := by decide +kernel
theorem dX0_isStayOn_6 : decode cX0_isStayOn 6 = .ok (.iconst 2, 1) := by decide +kernel
theorem dX0_isStayOn_7 : decode cX0_isStayOn 7 = .ok (.irem, 1) := by decide +kernel
theorem dX0_isStayOn_8 : decode cX0_isStayOn 8 = .ok (.iconst 1, 1) := by decide +kernel
theorem dX0_isStayOn_9 : decode cX0_isStayOn 9 = .ok (.if_icmp .ne 7, 3) := by decide +kernel
theorem dX0_isStayOn_12 : decode cX0_isStayOn 12 = .ok (.iconst 1, 1) := by decide +kernel
theorem dX0_isStayOn_13 : decode cX0_isStayOn 13 = .ok (.goto 4, 3) := by decide +kernel
theorem dX0_isStayOn_16 : decode cX0_isStayOn 16 = .ok (.iconst 0, 1) := by decide +kernel
theorem dX0_isStayOn_17 : decode cX0_isStayOn 17 = .ok (.ireturn, 1) := by decide +kernel
theorem dX0_turnStay_0 : decode cX0_turnStay 0 = .ok (.aload_n 0, 1) := by decide +kernel
theorem dX0_turnStay_1 : decode cX0_turnStay 1 = .ok (.getfield 35, 3) := by decide +kernel
theorem dX0_turnStay_4 : decode cX0_turnStay 4 = .ok (.iload_n 1, 1) := by decide +kernel
theorem dX0_turnStay_5 : decode cX0_turnStay 5 = .ok (.aaload, 1) := by decide +kernel
theorem dX0_turnStay_6 : decode cX0_turnStay 6 = .ok (.aload_n 0, 1) := by decide +kernel
theorem dX0_turnStay_7 : decode cX0_turnStay 7 = .ok (.getfield 38, 3) := by decide +kernel
theorem dX0_turnStay_10 : decode cX0_turnStay 10 = .ok (.iload_n 1, 1) := by decide +kernel
theorem dX0_turnStay_11 : decode cX0_turnStay 11 = .ok (.iaload, 1) := by decide +kernel
theorem dX0_turnStay_12 : decode cX0_turnStay 12 = .ok (.aload_n 0, 1) := by decide +kernel
theorem dX0_turnStay_13 : decode cX0_turnStay 13 = .ok (.getfield 49, 3) := by decide +kernel
theorem dX0_turnStay_16 : decode cX0_turnStay 16 = .ok (.iastore, 1) := by decide +kernel
theorem dX0_turnStay_17 : decode cX0_turnStay 17 = .ok (.aload_n 0, 1) := by decide +kernel
theorem dX0_turnStay_18 : decode cX0_turnStay 18 = .ok (.getfield 38, 3) := by decide +kernel
theorem dX0_turnStay_21 : decode cX0_turnStay 21 = .ok (.iload_n 1, 1) := by decide +kernel
theorem dX0_turnStay_22 : decode cX0_turnStay 22 = .ok (.dup2, 1) := by decide +kernel
theorem dX0_turnStay_23 : decode cX0_turnStay 23 = .ok (.iaload, 1) := by decide +kernel
theorem dX0_turnStay_24 : decode cX0_turnStay 24 = .ok (.iconst 1, 1) := by decide +kernel
theorem dX0_turnStay_25 : decode cX0_turnStay 25 = .ok (.iadd, 1) := by decide +kernel
theorem dX0_turnStay_26 : decode cX0_turnStay 26 = .ok (.iastore, 1) := by decide +kernel
theorem dX0_turnStay_27 : decode cX0_turnStay 27 = .ok (.iconst 1, 1) := by decide +kernel
theorem dX0_turnStay_28 : decode cX0_turnStay 28 = .ok (.iload_n 1, 1) := by decide +kernel
theorem dX0_turnStay_29 : decode cX0_turnStay 29 = .ok (.ishl, 1) := by decide +kernel
theorem dX0_turnStay_30 : decode cX0_turnStay 30 = .ok (.istore_n 3, 1) := by decide +kernel
theorem dX0_turnStay_31 : decode cX0_turnStay 31 = .ok (.aload_n 0, 1) := by decide +kernel
theorem dX0_turnStay_32 : decode cX0_turnStay 32 = .ok (.getfield 49, 3) := by decide +kernel
theorem dX0_turnStay_35 : decode cX0_turnStay 35 = .ok (.istore 4, 2) := by decide +kernel
theorem dX0_turnStay_37 : decode cX0_turnStay 37 = .ok (.iload 4, 2) := by decide +kernel
theorem dX0_turnStay_39 : decode cX0_turnStay 39 = .ok (.sipush 1400, 3) := by decide +kernel
theorem dX0_turnStay_42 : decode cX0_turnStay 42 = .ok (.if_icmp .gt 43, 3) := by decide +kernel
theorem dX0_turnStay_45 : decode cX0_turnStay 45 = .ok (.aload_n 0, 1) := by decide +kernel
theorem dX0_turnStay_46 : decode cX0_turnStay 46 = .ok (.getfield 9, 3) := by decide +kernel
theorem dX0_turnStay_49 : decode cX0_turnStay 49 = .ok (.iload 4, 2) := by decide +kernel
theorem dX0_turnStay_51 : decode cX0_turnStay 51 = .ok (.iload_n 2, 1) := by decide +kernel
theorem dX0_turnStay_52 : decode cX0_turnStay 52 = .ok (.ifCond .eq 15, 3) := by decide +kernel
theorem dX0_turnStay_55 : decode cX0_turnStay 55 = .ok (.aload_n 0, 1) := by decide +kernel
theorem dX0_turnStay_56 : decode cX0_turnStay 56 = .ok (.getfield 9, 3) := by decide +kernel
theorem dX0_turnStay_59 : decode cX0_turnStay 59 = .ok (.iload 4, 2) := by decide +kernel
theorem dX0_turnStay_61 : decode cX0_turnStay 61 = .ok (.iaload, 1) := by decide +kernel
theorem dX0_turnStay_62 : decode cX0_turnStay 62 = .ok (.iload_n 3, 1) := by decide +kernel
theorem dX0_turnStay_63 : decode cX0_turnStay 63 = .ok (.ior, 1) := by decide +kernel
theorem dX0_turnStay_64 : decode cX0_turnStay 64 = .ok (.goto 14, 3) := by decide +kernel
theorem dX0_turnStay_67 : decode cX0_turnStay 67 = .ok (.aload_n 0, 1) := by decide +kernel
theorem dX0_turnStay_68 : decode cX0_turnStay 68 = .ok (.getfield 9, 3) := by decide +kernel
theorem dX0_turnStay_71 : decode cX0_turnStay 71 = .ok (.iload 4, 2) := by decide +kernel
theorem dX0_turnStay_73 : decode cX0_turnStay 73 = .ok (.iaload, 1) := by decide +kernel
theorem dX0_turnStay_74 : decode cX0_turnStay 74 = .ok (.iload_n 3, 1) := by decide +kernel
theorem dX0_turnStay_75 : decode cX0_turnStay 75 = .ok (.iconst (-1), 1) := by decide +kernel
theorem dX0_turnStay_76 : decode cX0_turnStay 76 = .ok (.ixor, 1) := by decide +kernel
theorem dX0_turnStay_77 : decode cX0_turnStay 77 = .ok (.iand, 1) := by decide +kernel
theorem dX0_turnStay_78 : decode cX0_turnStay 78 = .ok (.iastore, 1) := by decide +kernel
theorem dX0_turnStay_79 : decode cX0_turnStay 79 = .ok (.iinc 4 1, 3) := by decide +kernel
theorem dX0_turnStay_82 : decode cX0_turnStay 82 = .ok (.goto (-45), 3) := by decide +kernel
theorem dX0_turnStay_85 : decode cX0_turnStay 85 = .ok (.return_, 1) := by decide +kernel
theorem dX0_isPast_0 : decode cX0_isPast 0 = .ok (.iload_n 1, 1) := by decide +kernel
theorem dX0_isPast_1 : decode cX0_isPast 1 = .ok (.iconst (-1), 1) := by decide +kernel
theorem dX0_isPast_2 : decode cX0_isPast 2 = .ok (.if_icmp .eq 15, 3) := by decide +kernel
theorem dX0_isPast_5 : decode cX0_isPast 5 = .ok (.aload_n 0, 1) := by decide +kernel
theorem dX0_isPast_6 : decode cX0_isPast 6 = .ok (.getfield 49, 3) := by decide +kernel
theorem dX0_isPast_9 : decode cX0_isPast 9 = .ok (.iload_n 1, 1) := by decide +kernel
theorem dX0_isPast_10 : decode cX0_isPast 10 = .ok (.if_icmp .le 7, 3) := by decide +kernel
theorem dX0_isPast_13 : decode cX0_isPast 13 = .ok (.iconst 1, 1) := by decide +kernel
theorem dX0_isPast_14 : decode cX0_isPast 14 = .ok (.goto 4, 3) := by decide +kernel
theorem dX0_isPast_17 : decode cX0_isPast 17 = .ok (.iconst 0, 1) := by decide +kernel
theorem dX0_isPast_18 : decode cX0_isPast 18 = .ok (.ireturn, 1) := by decide +kernel
theorem dX0_end_0 : decode cX0_end 0 = .ok (.iload_n 2, 1) := by decide +kernel
theorem dX0_end_1 : decode cX0_end 1 = .ok (.istore 5, 2) := by decide +kernel
theorem dX0_end_3 : decode cX0_end 3 = .ok (.iload_n 1, 1) := by decide +kernel
theorem dX0_end_4 : decode cX0_end 4 = .ok (.iconst 1, 1) := by decide +kernel
theorem dX0_end_5 : decode cX0_end 5 = .ok (.iadd, 1) := by decide +kernel
theorem dX0_end_6 : decode cX0_end 6 = .ok (.istore 6, 2) := by decide +kernel
theorem dX0_end_8 : decode cX0_end 8 = .ok (.iload 6, 2) := by decide +kernel
theorem dX0_end_10 : decode cX0_end 10 = .ok (.sipush 1400, 3) := by decide +kernel
theorem dX0_end_13 : decode cX0_end 13 = .ok (.if_icmp .gt 76, 3) := by decide +kernel
theorem dX0_end_16 : decode cX0_end 16 = .ok (.aload_n 0, 1) := by decide +kernel
theorem dX0_end_17 : decode cX0_end 17 = .ok (.getfield 9, 3) := by decide +kernel
theorem dX0_end_20 : decode cX0_end 20 = .ok (.iload 6, 2) := by decide +kernel
theorem dX0_end_22 : decode cX0_end 22 = .ok (.iaload, 1) := by decide +kernel
theorem dX0_end_23 : decode cX0_end 23 = .ok (.iload 4, 2) := by decide +kernel
theorem dX0_end_25 : decode cX0_end 25 = .ok (.iand, 1) := by decide +kernel
theorem dX0_end_26 : decode cX0_end 26 = .ok (.ifCond .eq 6, 3) := by decide +kernel
theorem dX0_end_29 : decode cX0_end 29 = .ok (.goto 54, 3) := by decide +kernel
theorem dX0_end_32 : decode cX0_end 32 = .ok (.aload_n 0, 1) := by decide +kernel
theorem dX0_end_33 : decode cX0_end 33 = .ok (.getfield 9, 3) := by decide +kernel
theorem dX0_end_36 : decode cX0_end 36 = .ok (.iload 6, 2) := by decide +kernel
theorem dX0_end_38 : decode cX0_end 38 = .ok (.iaload, 1) := by decide +kernel
theorem dX0_end_39 : decode cX0_end 39 = .ok (.sipush 256, 3) := by decide +kernel
theorem dX0_end_42 : decode cX0_end 42 = .ok (.iand, 1) := by decide +kernel
theorem dX0_end_43 : decode cX0_end 43 = .ok (.ifCond .eq 7, 3) := by decide +kernel
theorem dX0_end_46 : decode cX0_end 46 = .ok (.iconst 1, 1) := by decide +kernel
theorem dX0_end_47 : decode cX0_end 47 = .ok (.goto 4, 3) := by decide +kernel
theorem dX0_end_50 : decode cX0_end 50 = .ok (.iconst 0, 1) := by decide +kernel
theorem dX0_end_51 : decode cX0_end 51 = .ok (.istore 7, 2) := by decide +kernel
theorem dX0_end_53 : decode cX0_end 53 = .ok (.iload 5, 2) := by decide +kernel
theorem dX0_end_55 : decode cX0_end 55 = .ok (.ifCond .le 15, 3) := by decide +kernel
theorem dX0_end_58 : decode cX0_end 58 = .ok (.iload_n 3, 1) := by decide +kernel
theorem dX0_end_59 : decode cX0_end 59 = .ok (.ifCond .eq 8, 3) := by decide +kernel
theorem dX0_end_62 : decode cX0_end 62 = .ok (.iload 7, 2) := by decide +kernel
theorem dX0_end_64 : decode cX0_end 64 = .ok (.ifCond .ne 6, 3) := by decide +kernel
theorem dX0_end_67 : decode cX0_end 67 = .ok (.iinc 5 (-1), 3) := by decide +kernel
theorem dX0_end_70 : decode cX0_end 70 = .ok (.iload 5, 2) := by decide +kernel
theorem dX0_end_72 : decode cX0_end 72 = .ok (.ifCond .ne 11, 3) := by decide +kernel
theorem dX0_end_75 : decode cX0_end 75 = .ok (.iload 7, 2) := by decide +kernel
theorem dX0_end_77 : decode cX0_end 77 = .ok (.ifCond .ne 6, 3) := by decide +kernel
theorem dX0_end_80 : decode cX0_end 80 = .ok (.iload 6, 2) := by decide +kernel
theorem dX0_end_82 : decode cX0_end 82 = .ok (.ireturn, 1) := by decide +kernel
theorem dX0_end_83 : decode cX0_end 83 = .ok (.iinc 6 1, 3) := by decide +kernel
theorem dX0_end_86 : decode cX0_end 86 = .ok (.goto (-78), 3) := by decide +kernel
theorem dX0_end_89 : decode cX0_end 89 = .ok (.iconst (-1), 1) := by decide +kernel
theorem dX0_end_90 : decode cX0_end 90 = .ok (.ireturn, 1) := by decide +kernel
theorem dX0_endByDays_0 : decode cX0_endByDays 0 = .ok (.iconst 0, 1) := by decide +kernel
theorem dX0_endByDays_1 : decode cX0_endByDays 1 = .ok (.istore 6, 2) := by decide +kernel
theorem dX0_endByDays_3 : decode cX0_endByDays 3 = .ok (.iload_n 1, 1) := by decide +kernel
theorem dX0_endByDays_4 : decode cX0_endByDays 4 = .ok (.iconst 1, 1) := by decide +kernel
theorem dX0_endByDays_5 : decode cX0_endByDays 5 = .ok (.iadd, 1) := by decide +kernel
theorem dX0_endByDays_6 : decode cX0_endByDays 6 = .ok (.istore 7, 2) := by decide +kernel
theorem dX0_endByDays_8 : decode cX0_endByDays 8 = .ok (.iload 7, 2) := by decide +kernel
theorem dX0_endByDays_10 : decode cX0_endByDays 10 = .ok (.sipush 1400, 3) := by decide +kernel
theorem dX0_endByDays_13 : decode cX0_endByDays 13 = .ok (.if_icmp .gt 122, 3) := by decide +kernel
theorem dX0_endByDays_16 : decode cX0_endByDays 16 = .ok (.iload 7, 2) := by decide +kernel
theorem dX0_endByDays_18 : decode cX0_endByDays 18 = .ok (.invokestatic 41, 3) := by decide +kernel
theorem dX0_endByDays_21 : decode cX0_endByDays 21 = .ok (.ifCond .ne 12, 3) := by decide +kernel
theorem dX0_endByDays_24 : decode cX0_endByDays 24 = .ok (.aload_n 0, 1) := by decide +kernel
theorem dX0_endByDays_25 : decode cX0_endByDays 25 = .ok (.iload 7, 2) := by decide +kernel
theorem dX0_endByDays_27 : decode cX0_endByDays 27 = .ok (.invokevirtual 52, 3) := by decide +kernel
theorem dX0_endByDays_30 : decode cX0_endByDays 30 = .ok (.ifCond .eq 7, 3) := by decide +kernel
theorem dX0_endByDays_33 : decode cX0_endByDays 33 = .ok (.iconst 1, 1) := by decide +kernel
theorem dX0_endByDays_34 : decode cX0_endByDays 34 = .ok (.goto 4, 3) := by decide +kernel
theorem dX0_endByDays_37 : decode cX0_endByDays 37 = .ok (.iconst 0, 1) := by decide +kernel
theorem dX0_endByDays_38 : decode cX0_endByDays 38 = .ok (.istore 8, 2) := by decide +kernel
theorem dX0_endByDays_40 : decode cX0_endByDays 40 = .ok (.aload_n 0, 1) := by decide +kernel
theorem dX0_endByDays_41 : decode cX0_endByDays 41 = .ok (.iload 4, 2) := by decide +kernel
theorem dX0_endByDays_43 : decode cX0_endByDays 43 = .ok (.iload 7, 2) := by decide +kernel
theorem dX0_endByDays_45 : decode cX0_endByDays 45 = .ok (.invokevirtual 55, 3) := by decide +kernel
theorem dX0_endByDays_48 : decode cX0_endByDays 48 = .ok (.ifCond .ne 20, 3) := by decide +kernel
theorem dX0_endByDays_51 : decode cX0_endByDays 51 = .ok (.iload 5, 2) := by decide +kernel
theorem dX0_endByDays_53 : decode cX0_endByDays 53 = .ok (.iconst (-1), 1) := by decide +kernel
theorem dX0_endByDays_54 : decode cX0_endByDays 54 = .ok (.if_icmp .eq 18, 3) := by decide +kernel
theorem dX0_endByDays_57 : decode cX0_endByDays 57 = .ok (.aload_n 0, 1) := by decide +kernel
theorem dX0_endByDays_58 : decode cX0_endByDays 58 = .ok (.iload 5, 2) := by decide +kernel
theorem dX0_endByDays_60 : decode cX0_endByDays 60 = .ok (.iload 7, 2) := by decide +kernel
theorem dX0_endByDays_62 : decode cX0_endByDays 62 = .ok (.invokevirtual 55, 3) := by decide +kernel
theorem dX0_endByDays_65 : decode cX0_endByDays 65 = .ok (.ifCond .eq 7, 3) := by decide +kernel
theorem dX0_endByDays_68 : decode cX0_endByDays 68 = .ok (.iconst 1, 1) := by decide +kernel
theorem dX0_endByDays_69 : decode cX0_endByDays 69 = .ok (.goto 4, 3) := by decide +kernel
theorem dX0_endByDays_72 : decode cX0_endByDays 72 = .ok (.iconst 0, 1) := by decide +kernel
theorem dX0_endByDays_73 : decode cX0_endByDays 73 = .ok (.istore 9, 2) := by decide +kernel
theorem dX0_endByDays_75 : decode cX0_endByDays 75 = .ok (.iload 9, 2) := by decide +kernel
theorem dX0_endByDays_77 : decode cX0_endByDays 77 = .ok (.ifCond .ne 16, 3) := by decide +kernel
theorem dX0_endByDays_80 : decode cX0_endByDays 80 = .ok (.iload 8, 2) := by decide +kernel
theorem dX0_endByDays_82 : decode cX0_endByDays 82 = .ok (.ifCond .eq 7, 3) := by decide +kernel
theorem dX0_endByDays_85 : decode cX0_endByDays 85 = .ok (.iload_n 3, 1) := by decide +kernel
theorem dX0_endByDays_86 : decode cX0_endByDays 86 = .ok (.ifCond .ne 7, 3) := by decide +kernel
theorem dX0_endByDays_89 : decode cX0_endByDays 89 = .ok (.iconst 1, 1) := by decide +kernel
theorem dX0_endByDays_90 : decode cX0_endByDays 90 = .ok (.goto 4, 3) := by decide +kernel
theorem dX0_endByDays_93 : decode cX0_endByDays 93 = .ok (.iconst 0, 1) := by decide +kernel
theorem dX0_endByDays_94 : decode cX0_endByDays 94 = .ok (.istore 10, 2) := by decide +kernel
theorem dX0_endByDays_96 : decode cX0_endByDays 96 = .ok (.iload 10, 2) := by decide +kernel
theorem dX0_endByDays_98 : decode cX0_endByDays 98 = .ok (.ifCond .eq 12, 3) := by decide +kernel
theorem dX0_endByDays_101 : decode cX0_endByDays 101 = .ok (.iload 6, 2) := by decide +kernel
theorem dX0_endByDays_103 : decode cX0_endByDays 103 = .ok (.iload_n 2, 1) := by decide +kernel
theorem dX0_endByDays_104 : decode cX0_endByDays 104 = .ok (.if_icmp .ge 6, 3) := by decide +kernel
theorem dX0_endByDays_107 : decode cX0_endByDays 107 = .ok (.iinc 6 1, 3) := by decide +kernel
theorem dX0_endByDays_110 : decode cX0_endByDays 110 = .ok (.iload 6, 2) := by decide +kernel
theorem dX0_endByDays_112 : decode cX0_endByDays 112 = .ok (.iload_n 2, 1) := by decide +kernel
theorem dX0_endByDays_113 : decode cX0_endByDays 113 = .ok (.if_icmp .ne 16, 3) := by decide +kernel
theorem dX0_endByDays_116 : decode cX0_endByDays 116 = .ok (.iload 8, 2) := by decide +kernel
theorem dX0_endByDays_118 : decode cX0_endByDays 118 = .ok (.ifCond .ne 11, 3) := by decide +kernel
theorem dX0_endByDays_121 : decode cX0_endByDays 121 = .ok (.iload 9, 2) := by decide +kernel
theorem dX0_endByDays_123 : decode cX0_endByDays 123 = .ok (.ifCond .ne 6, 3) := by decide +kernel
theorem dX0_endByDays_126 : decode cX0_endByDays 126 = .ok (.iload 7, 2) := by decide +kernel
theorem dX0_endByDays_128 : decode cX0_endByDays 128 = .ok (.ireturn, 1) := by decide +kernel
theorem dX0_endByDays_129 : decode cX0_endByDays 129 = .ok (.iinc 7 1, 3) := by decide +kernel
theorem dX0_endByDays_132 : decode cX0_endByDays 132 = .ok (.goto (-124), 3) := by decide +kernel
theorem dX0_endByDays_135 : decode cX0_endByDays 135 = .ok (.iconst (-1), 1) := by decide +kernel
theorem dX0_endByDays_136 : decode cX0_endByDays 136 = .ok (.ireturn, 1) := by decide +kernel
theorem dX0_isStayedOn_0 : decode cX0_isStayedOn 0 = .ok (.aload_n 0, 1) := by decide +kernel
theorem dX0_isStayedOn_1 : decode cX0_isStayedOn 1 = .ok (.getfield 38, 3) := by decide +kernel
theorem dX0_isStayedOn_4 : decode cX0_isStayedOn 4 = .ok (.iload_n 1, 1) := by decide +kernel
theorem dX0_isStayedOn_5 : decode cX0_isStayedOn 5 = .ok (.iaload, 1) := by decide +kernel
theorem dX0_isStayedOn_6 : decode cX0_isStayedOn 6 = .ok (.iconst 1, 1) := by decide +kernel
theorem dX0_isStayedOn_7 : decode cX0_isStayedOn 7 = .ok (.isub, 1) := by decide +kernel
theorem dX0_isStayedOn_8 : decode cX0_isStayedOn 8 = .ok (.istore_n 3, 1) := by decide +kernel
theorem dX0_isStayedOn_9 : decode cX0_isStayedOn 9 = .ok (.iload_n 3, 1) := by decide +kernel
theorem dX0_isStayedOn_10 : decode cX0_isStayedOn 10 = .ok (.ifCond .lt 33, 3) := by decide +kernel
theorem dX0_isStayedOn_13 : decode cX0_isStayedOn 13 = .ok (.aload_n 0, 1) := by decide +kernel
theorem dX0_isStayedOn_14 : decode cX0_isStayedOn 14 = .ok (.getfield 35, 3) := by decide +kernel
theorem dX0_isStayedOn_17 : decode cX0_isStayedOn 17 = .ok (.iload_n 1, 1) := by decide +kernel
theorem dX0_isStayedOn_18 : decode cX0_isStayedOn 18 = .ok (.aaload, 1) := by decide +kernel
theorem dX0_isStayedOn_19 : decode cX0_isStayedOn 19 = .ok (.iload_n 3, 1) := by decide +kernel
theorem dX0_isStayedOn_20 : decode cX0_isStayedOn 20 = .ok (.iaload, 1) := by decide +kernel
theorem dX0_isStayedOn_21 : decode cX0_isStayedOn 21 = .ok (.iload_n 2, 1) := by decide +kernel
theorem dX0_isStayedOn_22 : decode cX0_isStayedOn 22 = .ok (.if_icmp .gt 15, 3) := by decide +kernel
theorem dX0_isStayedOn_25 : decode cX0_isStayedOn 25 = .ok (.iload_n 3, 1) := by decide +kernel
theorem dX0_isStayedOn_26 : decode cX0_isStayedOn 26 = .ok (.iconst 2, 1) := by decide +kernel
theorem dX0_isStayedOn_27 : decode cX0_isStayedOn 27 = .ok (.irem, 1) := by decide +kernel
theorem dX0_isStayedOn_28 : decode cX0_isStayedOn 28 = .ok (.ifCond .ne 7, 3) := by decide +kernel
theorem dX0_isStayedOn_31 : decode cX0_isStayedOn 31 = .ok (.iconst 1, 1) := by decide +kernel
theorem dX0_isStayedOn_32 : decode cX0_isStayedOn 32 = .ok (.goto 4, 3) := by decide +kernel
theorem dX0_isStayedOn_35 : decode cX0_isStayedOn 35 = .ok (.iconst 0, 1) := by decide +kernel
theorem dX0_isStayedOn_36 : decode cX0_isStayedOn 36 = .ok (.ireturn, 1) := by decide +kernel
theorem dX0_isStayedOn_37 : decode cX0_isStayedOn 37 = .ok (.iinc 3 (-1), 3) := by decide +kernel
theorem dX0_isStayedOn_40 : decode cX0_isStayedOn 40 = .ok (.goto (-31), 3) := by decide +kernel
theorem dX0_isStayedOn_43 : decode cX0_isStayedOn 43 = .ok (.iconst 0, 1) := by decide +kernel
theorem dX0_isStayedOn_44 : decode cX0_isStayedOn 44 = .ok (.ireturn, 1) := by decide +kernel
theorem dX1_init_0 : decode cX1_init 0 = .ok (.aload_n 0, 1) := by decide +kernel
theorem dX1_init_1 : decode cX1_init 1 = .ok (.invokespecial 3, 3) := by decide +kernel
theorem dX1_init_4 : decode cX1_init 4 = .ok (.aload_n 0, 1) := by decide +kernel
theorem dX1_init_5 : decode cX1_init 5 = .ok (.bipush 8, 2) := by decide +kernel
theorem dX1_init_7 : decode cX1_init 7 = .ok (.newarray .int, 2) := by decide +kernel
theorem dX1_init_9 : decode cX1_init 9 = .ok (.putfield 9, 3) := by decide +kernel
theorem dX1_init_12 : decode cX1_init 12 = .ok (.aload_n 0, 1) := by decide +kernel
theorem dX1_init_13 : decode cX1_init 13 = .ok (.bipush 8, 2) := by decide +kernel
theorem dX1_init_15 : decode cX1_init 15 = .ok (.newarray .int, 2) := by decide +kernel
theorem dX1_init_17 : decode cX1_init 17 = .ok (.putfield 15, 3) := by decide +kernel
theorem dX1_init_20 : decode cX1_init 20 = .ok (.aload_n 0, 1) := by decide +kernel
theorem dX1_init_21 : decode cX1_init 21 = .ok (.bipush 8, 2) := by decide +kernel
theorem dX1_init_23 : decode cX1_init 23 = .ok (.newarray .int, 2) := by decide +kernel
theorem dX1_init_25 : decode cX1_init 25 = .ok (.putfield 18, 3) := by decide +kernel
theorem dX1_init_28 : decode cX1_init 28 = .ok (.aload_n 0, 1) := by decide +kernel
theorem dX1_init_29 : decode cX1_init 29 = .ok (.bipush 8, 2) := by decide +kernel
theorem dX1_init_31 : decode cX1_init 31 = .ok (.newarray .int, 2) := by decide +kernel
theorem dX1_init_33 : decode cX1_init 33 = .ok (.putfield 21, 3) := by decide +kernel
theorem dX1_init_36 : decode cX1_init 36 = .ok (.aload_n 0, 1) := by decide +kernel
theorem dX1_init_37 : decode cX1_init 37 = .ok (.bipush 8, 2) := by decide +kernel
theorem dX1_init_39 : decode cX1_init 39 = .ok (.bipush 16, 2) := by decide +kernel
theorem dX1_init_41 : decode cX1_init 41 = .ok (.multianewarray 24 2, 4) := by decide +kernel
theorem dX1_init_45 : decode cX1_init 45 = .ok (.putfield 26, 3) := by decide +kernel
theorem dX1_init_48 : decode cX1_init 48 = .ok (.aload_n 0, 1) := by decide +kernel
theorem dX1_init_49 : decode cX1_init 49 = .ok (.bipush 8, 2) := by decide +kernel
theorem dX1_init_51 : decode cX1_init 51 = .ok (.bipush 16, 2) := by decide +kernel
theorem dX1_init_53 : decode cX1_init 53 = .ok (.multianewarray 24 2, 4) := by decide +kernel
theorem dX1_init_57 : decode cX1_init 57 = .ok (.putfield 29, 3) := by decide +kernel
theorem dX1_init_60 : decode cX1_init 60 = .ok (.return_, 1) := by decide +kernel
theorem dX1_add_0 : decode cX1_add 0 = .ok (.aload_n 0, 1) := by decide +kernel
theorem dX1_add_1 : decode cX1_add 1 = .ok (.getfield 32, 3) := by decide +kernel
theorem dX1_add_4 : decode cX1_add 4 = .ok (.istore_n 2, 1) := by decide +kernel
theorem dX1_add_5 : decode cX1_add 5 = .ok (.aload_n 0, 1) := by decide +kernel
theorem dX1_add_6 : decode cX1_add 6 = .ok (.getfield 9, 3) := by decide +kernel
theorem dX1_add_9 : decode cX1_add 9 = .ok (.iload_n 2, 1) := by decide +kernel
theorem dX1_add_10 : decode cX1_add 10 = .ok (.iload_n 1, 1) := by decide +kernel
theorem dX1_add_11 : decode cX1_add 11 = .ok (.iastore, 1) := by decide +kernel
theorem dX1_add_12 : decode cX1_add 12 = .ok (.aload_n 0, 1) := by decide +kernel
theorem dX1_add_13 : decode cX1_add 13 = .ok (.getfield 15, 3) := by decide +kernel
theorem dX1_add_16 : decode cX1_add 16 = .ok (.iload_n 2, 1) := by decide +kernel
theorem dX1_add_17 : decode cX1_add 17 = .ok (.iconst (-1), 1) := by decide +kernel
theorem dX1_add_18 : decode cX1_add 18 = .ok (.iastore, 1) := by decide +kernel
theorem dX1_add_19 : decode cX1_add 19 = .ok (.aload_n 0, 1) := by decide +kernel
theorem dX1_add_20 : decode cX1_add 20 = .ok (.dup, 1) := by decide +kernel
theorem dX1_add_21 : decode cX1_add 21 = .ok (.getfield 32, 3) := by decide +kernel
theorem dX1_add_24 : decode cX1_add 24 = .ok (.iconst 1, 1) := by decide +kernel
theorem dX1_add_25 : decode cX1_add 25 = .ok (.iadd, 1) := by decide +kernel
theorem dX1_add_26 : decode cX1_add 26 = .ok (.putfield 32, 3) := by decide +kernel
theorem dX1_add_29 : decode cX1_add 29 = .ok (.iload_n 2, 1) := by decide +kernel
theorem dX1_add_30 : decode cX1_add 30 = .ok (.ireturn, 1) := by decide +kernel
theorem dX1_isParty_0 : decode cX1_isParty 0 = .ok (.aload_n 0, 1) := by decide +kernel
theorem dX1_isParty_1 : decode cX1_isParty 1 = .ok (.getfield 21, 3) := by decide +kernel
theorem dX1_isParty_4 : decode cX1_isParty 4 = .ok (.iload_n 1, 1) := by decide +kernel
theorem dX1_isParty_5 : decode cX1_isParty 5 = .ok (.iaload, 1) := by decide +kernel
theorem dX1_isParty_6 : decode cX1_isParty 6 = .ok (.iload_n 2, 1) := by decide +kernel
theorem dX1_isParty_7 : decode cX1_isParty 7 = .ok (.ishr, 1) := by decide +kernel
theorem dX1_isParty_8 : decode cX1_isParty 8 = .ok (.iconst 1, 1) := by decide +kernel
theorem dX1_isParty_9 : decode cX1_isParty 9 = .ok (.iand, 1) := by decide +kernel
theorem dX1_isParty_10 : decode cX1_isParty 10 = .ok (.iconst 1, 1) := by decide +kernel
theorem dX1_isParty_11 : decode cX1_isParty 11 = .ok (.if_icmp .ne 7, 3) := by decide +kernel
theorem dX1_isParty_14 : decode cX1_isParty 14 = .ok (.iconst 1, 1) := by decide +kernel
theorem dX1_isParty_15 : decode cX1_isParty 15 = .ok (.goto 4, 3) := by decide +kernel
theorem dX1_isParty_18 : decode cX1_isParty 18 = .ok (.iconst 0, 1) := by decide +kernel
theorem dX1_isParty_19 : decode cX1_isParty 19 = .ok (.ireturn, 1) := by decide +kernel
theorem dX1_wasParty_0 : decode cX1_wasParty 0 = .ok (.aload_n 0, 1) := by decide +kernel
theorem dX1_wasParty_1 : decode cX1_wasParty 1 = .ok (.iload_n 1, 1) := by decide +kernel
theorem dX1_wasParty_2 : decode cX1_wasParty 2 = .ok (.iload_n 2, 1) := by decide +kernel
theorem dX1_wasParty_3 : decode cX1_wasParty 3 = .ok (.invokevirtual 36, 3) := by decide +kernel
theorem dX1_wasParty_6 : decode cX1_wasParty 6 = .ok (.ifCond .eq 19, 3) := by decide +kernel
theorem dX1_wasParty_9 : decode cX1_wasParty 9 = .ok (.aload_n 0, 1) := by decide +kernel
theorem dX1_wasParty_10 : decode cX1_wasParty 10 = .ok (.getfield 29, 3) := by decide +kernel
theorem dX1_wasParty_13 : decode cX1_wasParty 13 = .ok (.iload_n 1, 1) := by decide +kernel
theorem dX1_wasParty_14 : decode cX1_wasParty 14 = .ok (.aaload, 1) := by decide +kernel
theorem dX1_wasParty_15 : decode cX1_wasParty 15 = .ok (.iload_n 2, 1) := by decide +kernel
theorem dX1_wasParty_16 : decode cX1_wasParty 16 = .ok (.iaload, 1) := by decide +kernel
theorem dX1_wasParty_17 : decode cX1_wasParty 17 = .ok (.iload_n 3, 1) := by decide +kernel
theorem dX1_wasParty_18 : decode cX1_wasParty 18 = .ok (.if_icmp .gt 7, 3) := by decide +kernel
theorem dX1_wasParty_21 : decode cX1_wasParty 21 = .ok (.iconst 1, 1) := by decide +kernel
theorem dX1_wasParty_22 : decode cX1_wasParty 22 = .ok (.goto 4, 3) := by decide +kernel
theorem dX1_wasParty_25 : decode cX1_wasParty 25 = .ok (.iconst 0, 1) := by decide +kernel
theorem dX1_wasParty_26 : decode cX1_wasParty 26 = .ok (.ireturn, 1) := by decide +kernel
theorem dX1_addParty_0 : decode cX1_addParty 0 = .ok (.aload_n 0, 1) := by decide +kernel
theorem dX1_addParty_1 : decode cX1_addParty 1 = .ok (.getfield 21, 3) := by decide +kernel
theorem dX1_addParty_4 : decode cX1_addParty 4 = .ok (.iload_n 1, 1) := by decide +kernel
theorem dX1_addParty_5 : decode cX1_addParty 5 = .ok (.dup2, 1) := by decide +kernel
theorem dX1_addParty_6 : decode cX1_addParty 6 = .ok (.iaload, 1) := by decide +kernel
theorem dX1_addParty_7 : decode cX1_addParty 7 = .ok (.iconst 1, 1) := by decide +kernel
theorem dX1_addParty_8 : decode cX1_addParty 8 = .ok (.iload_n 2, 1) := by decide +kernel
theorem dX1_addParty_9 : decode cX1_addParty 9 = .ok (.ishl, 1) := by decide +kernel
theorem dX1_addParty_10 : decode cX1_addParty 10 = .ok (.ior, 1) := by decide +kernel
theorem dX1_addParty_11 : decode cX1_addParty 11 = .ok (.iastore, 1) := by decide +kernel
theorem dX1_addParty_12 : decode cX1_addParty 12 = .ok (.aload_n 0, 1) := by decide +kernel
theorem dX1_addParty_13 : decode cX1_addParty 13 = .ok (.getfield 18, 3) := by decide +kernel
theorem dX1_addParty_16 : decode cX1_addParty 16 = .ok (.iload_n 1, 1) := by decide +kernel
theorem dX1_addParty_17 : decode cX1_addParty 17 = .ok (.dup2, 1) := by decide +kernel
theorem dX1_addParty_18 : decode cX1_addParty 18 = .ok (.iaload, 1) := by decide +kernel
theorem dX1_addParty_19 : decode cX1_addParty 19 = .ok (.iconst 1, 1) := by decide +kernel
theorem dX1_addParty_20 : decode cX1_addParty 20 = .ok (.iadd, 1) := by decide +kernel
theorem dX1_addParty_21 : decode cX1_addParty 21 = .ok (.iastore, 1) := by decide +kernel
theorem dX1_addParty_22 : decode cX1_addParty 22 = .ok (.aload_n 0, 1) := by decide +kernel
theorem dX1_addParty_23 : decode cX1_addParty 23 = .ok (.getfield 26, 3) := by decide +kernel
theorem dX1_addParty_26 : decode cX1_addParty 26 = .ok (.iload_n 1, 1) := by decide +kernel
theorem dX1_addParty_27 : decode cX1_addParty 27 = .ok (.aaload, 1) := by decide +kernel
theorem dX1_addParty_28 : decode cX1_addParty 28 = .ok (.iload_n 2, 1) := by decide +kernel
theorem dX1_addParty_29 : decode cX1_addParty 29 = .ok (.iload_n 3, 1) := by decide +kernel
theorem dX1_addParty_30 : decode cX1_addParty 30 = .ok (.iastore, 1) := by decide +kernel
theorem dX1_addParty_31 : decode cX1_addParty 31 = .ok (.aload_n 0, 1) := by decide +kernel
theorem dX1_addParty_32 : decode cX1_addParty 32 = .ok (.getfield 29, 3) := by decide +kernel
theorem dX1_addParty_35 : decode cX1_addParty 35 = .ok (.iload_n 1, 1) := by decide +kernel
theorem dX1_addParty_36 : decode cX1_addParty 36 = .ok (.aaload, 1) := by decide +kernel
theorem dX1_addParty_37 : decode cX1_addParty 37 = .ok (.iload_n 2, 1) := by decide +kernel
theorem dX1_addParty_38 : decode cX1_addParty 38 = .ok (.iload 4, 2) := by decide +kernel
theorem dX1_addParty_40 : decode cX1_addParty 40 = .ok (.iastore, 1) := by decide +kernel
theorem dX1_addParty_41 : decode cX1_addParty 41 = .ok (.return_, 1) := by decide +kernel
theorem dX1_areOpposed_0 : decode cX1_areOpposed 0 = .ok (.aload_n 0, 1) := by decide +kernel
theorem dX1_areOpposed_1 : decode cX1_areOpposed 1 = .ok (.iload_n 1, 1) := by decide +kernel
theorem dX1_areOpposed_2 : decode cX1_areOpposed 2 = .ok (.iload_n 2, 1) := by decide +kernel
theorem dX1_areOpposed_3 : decode cX1_areOpposed 3 = .ok (.invokevirtual 36, 3) := by decide +kernel
theorem dX1_areOpposed_6 : decode cX1_areOpposed 6 = .ok (.ifCond .eq 35, 3) := by decide +kernel
theorem dX1_areOpposed_9 : decode cX1_areOpposed 9 = .ok (.aload_n 0, 1) := by decide +kernel
theorem dX1_areOpposed_10 : decode cX1_areOpposed 10 = .ok (.iload_n 1, 1) := by decide +kernel
theorem dX1_areOpposed_11 : decode cX1_areOpposed 11 = .ok (.iload_n 3, 1) := by decide +kernel
theorem dX1_areOpposed_12 : decode cX1_areOpposed 12 = .ok (.invokevirtual 36, 3) := by decide +kernel
theorem dX1_areOpposed_15 : decode cX1_areOpposed 15 = .ok (.ifCond .eq 26, 3) := by decide +kernel
theorem dX1_areOpposed_18 : decode cX1_areOpposed 18 = .ok (.aload_n 0, 1) := by decide +kernel
theorem dX1_areOpposed_19 : decode cX1_areOpposed 19 = .ok (.getfield 26, 3) := by decide +kernel
theorem dX1_areOpposed_22 : decode cX1_areOpposed 22 = .ok (.iload_n 1, 1) := by decide +kernel
theorem dX1_areOpposed_23 : decode cX1_areOpposed 23 = .ok (.aaload, 1) := by decide +kernel
theorem dX1_areOpposed_24 : decode cX1_areOpposed 24 = .ok (.iload_n 2, 1) := by decide +kernel
theorem dX1_areOpposed_25 : decode cX1_areOpposed 25 = .ok (.iaload, 1) := by decide +kernel
theorem dX1_areOpposed_26 : decode cX1_areOpposed 26 = .ok (.aload_n 0, 1) := by decide +kernel
theorem dX1_areOpposed_27 : decode cX1_areOpposed 27 = .ok (.getfield 26, 3) := by decide +kernel
theorem dX1_areOpposed_30 : decode cX1_areOpposed 30 = .ok (.iload_n 1, 1) := by decide +kernel
theorem dX1_areOpposed_31 : decode cX1_areOpposed 31 = .ok (.aaload, 1) := by decide +kernel
theorem dX1_areOpposed_32 : decode cX1_areOpposed 32 = .ok (.iload_n 3, 1) := by decide +kernel
theorem dX1_areOpposed_33 : decode cX1_areOpposed 33 = .ok (.iaload, 1) := by decide +kernel
theorem dX1_areOpposed_34 : decode cX1_areOpposed 34 = .ok (.if_icmp .eq 7, 3) := by decide +kernel
theorem dX1_areOpposed_37 : decode cX1_areOpposed 37 = .ok (.iconst 1, 1) := by decide +kernel
theorem dX1_areOpposed_38 : decode cX1_areOpposed 38 = .ok (.goto 4, 3) := by decide +kernel
theorem dX1_areOpposed_41 : decode cX1_areOpposed 41 = .ok (.iconst 0, 1) := by decide +kernel
theorem dX1_areOpposed_42 : decode cX1_areOpposed 42 = .ok (.ireturn, 1) := by decide +kernel
theorem dX1_leadsOthers_0 : decode cX1_leadsOthers 0 = .ok (.iconst 0, 1) := by decide +kernel
theorem dX1_leadsOthers_1 : decode cX1_leadsOthers 1 = .ok (.istore_n 2, 1) := by decide +kernel
theorem dX1_leadsOthers_2 : decode cX1_leadsOthers 2 = .ok (.iload_n 2, 1) := by decide +kernel
theorem dX1_leadsOthers_3 : decode cX1_leadsOthers 3 = .ok (.aload_n 0, 1) := by decide +kernel
theorem dX1_leadsOthers_4 : decode cX1_leadsOthers 4 = .ok (.getfield 32, 3) := by decide +kernel
theorem dX1_leadsOthers_7 : decode cX1_leadsOthers 7 = .ok (.if_icmp .ge 21, 3) := by decide +kernel
theorem dX1_leadsOthers_10 : decode cX1_leadsOthers 10 = .ok (.aload_n 0, 1) := by decide +kernel
theorem dX1_leadsOthers_11 : decode cX1_leadsOthers 11 = .ok (.getfield 15, 3) := by decide +kernel
theorem dX1_leadsOthers_14 : decode cX1_leadsOthers 14 = .ok (.iload_n 2, 1) := by decide +kernel
theorem dX1_leadsOthers_15 : decode cX1_leadsOthers 15 = .ok (.iaload, 1) := by decide +kernel
theorem dX1_leadsOthers_16 : decode cX1_leadsOthers 16 = .ok (.iload_n 1, 1) := by decide +kernel
theorem dX1_leadsOthers_17 : decode cX1_leadsOthers 17 = .ok (.if_icmp .ne 5, 3) := by decide +kernel
theorem dX1_leadsOthers_20 : decode cX1_leadsOthers 20 = .ok (.iconst 1, 1) := by decide +kernel
theorem dX1_leadsOthers_21 : decode cX1_leadsOthers 21 = .ok (.ireturn, 1) := by decide +kernel
theorem dX1_leadsOthers_22 : decode cX1_leadsOthers 22 = .ok (.iinc 2 1, 3) := by decide +kernel
theorem dX1_leadsOthers_25 : decode cX1_leadsOthers 25 = .ok (.goto (-23), 3) := by decide +kernel
theorem dX1_leadsOthers_28 : decode cX1_leadsOthers 28 = .ok (.iconst 0, 1) := by decide +kernel
theorem dX1_leadsOthers_29 : decode cX1_leadsOthers 29 = .ok (.ireturn, 1) := by decide +kernel
theorem dX1_areBound_0 : decode cX1_areBound 0 = .ok (.aload_n 0, 1) := by decide +kernel
theorem dX1_areBound_1 : decode cX1_areBound 1 = .ok (.iload_n 1, 1) := by decide +kernel
theorem dX1_areBound_2 : decode cX1_areBound 2 = .ok (.invokevirtual 40, 3) := by decide +kernel
theorem dX1_areBound_5 : decode cX1_areBound 5 = .ok (.aload_n 0, 1) := by decide +kernel
theorem dX1_areBound_6 : decode cX1_areBound 6 = .ok (.iload_n 2, 1) := by decide +kernel
theorem dX1_areBound_7 : decode cX1_areBound 7 = .ok (.invokevirtual 40, 3) := by decide +kernel
theorem dX1_areBound_10 : decode cX1_areBound 10 = .ok (.if_icmp .eq 19, 3) := by decide +kernel
theorem dX1_areBound_13 : decode cX1_areBound 13 = .ok (.aload_n 0, 1) := by decide +kernel
theorem dX1_areBound_14 : decode cX1_areBound 14 = .ok (.getfield 21, 3) := by decide +kernel
theorem dX1_areBound_17 : decode cX1_areBound 17 = .ok (.iload_n 1, 1) := by decide +kernel
theorem dX1_areBound_18 : decode cX1_areBound 18 = .ok (.iaload, 1) := by decide +kernel
theorem dX1_areBound_19 : decode cX1_areBound 19 = .ok (.aload_n 0, 1) := by decide +kernel
theorem dX1_areBound_20 : decode cX1_areBound 20 = .ok (.getfield 21, 3) := by decide +kernel
theorem dX1_areBound_23 : decode cX1_areBound 23 = .ok (.iload_n 2, 1) := by decide +kernel
theorem dX1_areBound_24 : decode cX1_areBound 24 = .ok (.iaload, 1) := by decide +kernel
theorem dX1_areBound_25 : decode cX1_areBound 25 = .ok (.iand, 1) := by decide +kernel
theorem dX1_areBound_26 : decode cX1_areBound 26 = .ok (.ifCond .eq 7, 3) := by decide +kernel
theorem dX1_areBound_29 : decode cX1_areBound 29 = .ok (.iconst 1, 1) := by decide +kernel
theorem dX1_areBound_30 : decode cX1_areBound 30 = .ok (.goto 4, 3) := by decide +kernel
theorem dX1_areBound_33 : decode cX1_areBound 33 = .ok (.iconst 0, 1) := by decide +kernel
theorem dX1_areBound_34 : decode cX1_areBound 34 = .ok (.ireturn, 1) := by decide +kernel
theorem dX1_judgeNow_0 : decode cX1_judgeNow 0 = .ok (.aload_n 0, 1) := by decide +kernel
theorem dX1_judgeNow_1 : decode cX1_judgeNow 1 = .ok (.getfield 15, 3) := by decide +kernel
theorem dX1_judgeNow_4 : decode cX1_judgeNow 4 = .ok (.iload_n 1, 1) := by decide +kernel
theorem dX1_judgeNow_5 : decode cX1_judgeNow 5 = .ok (.iaload, 1) := by decide +kernel
theorem dX1_judgeNow_6 : decode cX1_judgeNow 6 = .ok (.iconst (-1), 1) := by decide +kernel
theorem dX1_judgeNow_7 : decode cX1_judgeNow 7 = .ok (.if_icmp .ne 12, 3) := by decide +kernel
theorem dX1_judgeNow_10 : decode cX1_judgeNow 10 = .ok (.aload_n 0, 1) := by decide +kernel
theorem dX1_judgeNow_11 : decode cX1_judgeNow 11 = .ok (.getfield 9, 3) := by decide +kernel
theorem dX1_judgeNow_14 : decode cX1_judgeNow 14 = .ok (.iload_n 1, 1) := by decide +kernel
theorem dX1_judgeNow_15 : decode cX1_judgeNow 15 = .ok (.iaload, 1) := by decide +kernel
theorem dX1_judgeNow_16 : decode cX1_judgeNow 16 = .ok (.goto 14, 3) := by decide +kernel
theorem dX1_judgeNow_19 : decode cX1_judgeNow 19 = .ok (.aload_n 0, 1) := by decide +kernel
theorem dX1_judgeNow_20 : decode cX1_judgeNow 20 = .ok (.getfield 9, 3) := by decide +kernel
theorem dX1_judgeNow_23 : decode cX1_judgeNow 23 = .ok (.aload_n 0, 1) := by decide +kernel
theorem dX1_judgeNow_24 : decode cX1_judgeNow 24 = .ok (.getfield 15, 3) := by decide +kernel
theorem dX1_judgeNow_27 : decode cX1_judgeNow 27 = .ok (.iload_n 1, 1) := by decide +kernel
theorem dX1_judgeNow_28 : decode cX1_judgeNow 28 = .ok (.iaload, 1) := by decide +kernel
theorem dX1_judgeNow_29 : decode cX1_judgeNow 29 = .ok (.iaload, 1) := by decide +kernel
theorem dX1_judgeNow_30 : decode cX1_judgeNow 30 = .ok (.ireturn, 1) := by decide +kernel
theorem dX1_stayMarks_0 : decode cX1_stayMarks 0 = .ok (.iconst 1, 1) := by decide +kernel
theorem dX1_stayMarks_1 : decode cX1_stayMarks 1 = .ok (.iload_n 1, 1) := by decide +kernel
theorem dX1_stayMarks_2 : decode cX1_stayMarks 2 = .ok (.ishl, 1) := by decide +kernel
theorem dX1_stayMarks_3 : decode cX1_stayMarks 3 = .ok (.istore_n 2, 1) := by decide +kernel
theorem dX1_stayMarks_4 : decode cX1_stayMarks 4 = .ok (.aload_n 0, 1) := by decide +kernel
theorem dX1_stayMarks_5 : decode cX1_stayMarks 5 = .ok (.getfield 15, 3) := by decide +kernel
theorem dX1_stayMarks_8 : decode cX1_stayMarks 8 = .ok (.iload_n 1, 1) := by decide +kernel
theorem dX1_stayMarks_9 : decode cX1_stayMarks 9 = .ok (.iaload, 1) := by decide +kernel
theorem dX1_stayMarks_10 : decode cX1_stayMarks 10 = .ok (.iconst (-1), 1) := by decide +kernel
theorem dX1_stayMarks_11 : decode cX1_stayMarks 11 = .ok (.if_icmp .ne 7, 3) := by decide +kernel
theorem dX1_stayMarks_14 : decode cX1_stayMarks 14 = .ok (.iload_n 2, 1) := by decide +kernel
theorem dX1_stayMarks_15 : decode cX1_stayMarks 15 = .ok (.goto 13, 3) := by decide +kernel
theorem dX1_stayMarks_18 : decode cX1_stayMarks 18 = .ok (.iload_n 2, 1) := by decide +kernel
theorem dX1_stayMarks_19 : decode cX1_stayMarks 19 = .ok (.iconst 1, 1) := by decide +kernel
theorem dX1_stayMarks_20 : decode cX1_stayMarks 20 = .ok (.aload_n 0, 1) := by decide +kernel
theorem dX1_stayMarks_21 : decode cX1_stayMarks 21 = .ok (.getfield 15, 3) := by decide +kernel
theorem dX1_stayMarks_24 : decode cX1_stayMarks 24 = .ok (.iload_n 1, 1) := by decide +kernel
theorem dX1_stayMarks_25 : decode cX1_stayMarks 25 = .ok (.iaload, 1) := by decide +kernel
theorem dX1_stayMarks_26 : decode cX1_stayMarks 26 = .ok (.ishl, 1) := by decide +kernel
theorem dX1_stayMarks_27 : decode cX1_stayMarks 27 = .ok (.ior, 1) := by decide +kernel
theorem dX1_stayMarks_28 : decode cX1_stayMarks 28 = .ok (.ireturn, 1) := by decide +kernel
theorem dX2_init_0 : decode cX2_init 0 = .ok (.aload_n 0, 1) := by decide +kernel
theorem dX2_init_1 : decode cX2_init 1 = .ok (.invokespecial 3, 3) := by decide +kernel
theorem dX2_init_4 : decode cX2_init 4 = .ok (.aload_n 0, 1) := by decide +kernel
theorem dX2_init_5 : decode cX2_init 5 = .ok (.bipush 24, 2) := by decide +kernel
theorem dX2_init_7 : decode cX2_init 7 = .ok (.newarray .int, 2) := by decide +kernel
theorem dX2_init_9 : decode cX2_init 9 = .ok (.putfield 9, 3) := by decide +kernel
theorem dX2_init_12 : decode cX2_init 12 = .ok (.aload_n 0, 1) := by decide +kernel
theorem dX2_init_13 : decode cX2_init 13 = .ok (.bipush 24, 2) := by decide +kernel
theorem dX2_init_15 : decode cX2_init 15 = .ok (.newarray .int, 2) := by decide +kernel
theorem dX2_init_17 : decode cX2_init 17 = .ok (.putfield 15, 3) := by decide +kernel
theorem dX2_init_20 : decode cX2_init 20 = .ok (.aload_n 0, 1) := by decide +kernel
theorem dX2_init_21 : decode cX2_init 21 = .ok (.bipush 24, 2) := by decide +kernel
theorem dX2_init_23 : decode cX2_init 23 = .ok (.newarray .int, 2) := by decide +kernel
theorem dX2_init_25 : decode cX2_init 25 = .ok (.putfield 18, 3) := by decide +kernel
theorem dX2_init_28 : decode cX2_init 28 = .ok (.aload_n 0, 1) := by decide +kernel
theorem dX2_init_29 : decode cX2_init 29 = .ok (.bipush 24, 2) := by decide +kernel
theorem dX2_init_31 : decode cX2_init 31 = .ok (.newarray .int, 2) := by decide +kernel
theorem dX2_init_33 : decode cX2_init 33 = .ok (.putfield 21, 3) := by decide +kernel
theorem dX2_init_36 : decode cX2_init 36 = .ok (.aload_n 0, 1) := by decide +kernel
theorem dX2_init_37 : decode cX2_init 37 = .ok (.bipush 24, 2) := by decide +kernel
theorem dX2_init_39 : decode cX2_init 39 = .ok (.newarray .int, 2) := by decide +kernel
theorem dX2_init_41 : decode cX2_init 41 = .ok (.putfield 24, 3) := by decide +kernel
theorem dX2_init_44 : decode cX2_init 44 = .ok (.aload_n 0, 1) := by decide +kernel
theorem dX2_init_45 : decode cX2_init 45 = .ok (.bipush 24, 2) := by decide +kernel
theorem dX2_init_47 : decode cX2_init 47 = .ok (.newarray .int, 2) := by decide +kernel
theorem dX2_init_49 : decode cX2_init 49 = .ok (.putfield 27, 3) := by decide +kernel
theorem dX2_init_52 : decode cX2_init 52 = .ok (.aload_n 0, 1) := by decide +kernel
theorem dX2_init_53 : decode cX2_init 53 = .ok (.bipush 24, 2) := by decide +kernel
theorem dX2_init_55 : decode cX2_init 55 = .ok (.newarray .int, 2) := by decide +kernel
theorem dX2_init_57 : decode cX2_init 57 = .ok (.putfield 30, 3) := by decide +kernel
theorem dX2_init_60 : decode cX2_init 60 = .ok (.aload_n 0, 1) := by decide +kernel
theorem dX2_init_61 : decode cX2_init 61 = .ok (.bipush 24, 2) := by decide +kernel
theorem dX2_init_63 : decode cX2_init 63 = .ok (.newarray .int, 2) := by decide +kernel
theorem dX2_init_65 : decode cX2_init 65 = .ok (.putfield 33, 3) := by decide +kernel
theorem dX2_init_68 : decode cX2_init 68 = .ok (.return_, 1) := by decide +kernel
theorem dX2_add_0 : decode cX2_add 0 = .ok (.aload_n 0, 1) := by decide +kernel
theorem dX2_add_1 : decode cX2_add 1 = .ok (.getfield 36, 3) := by decide +kernel
theorem dX2_add_4 : decode cX2_add 4 = .ok (.istore 5, 2) := by decide +kernel
theorem dX2_add_6 : decode cX2_add 6 = .ok (.aload_n 0, 1) := by decide +kernel
theorem dX2_add_7 : decode cX2_add 7 = .ok (.getfield 9, 3) := by decide +kernel
theorem dX2_add_10 : decode cX2_add 10 = .ok (.iload 5, 2) := by decide +kernel
theorem dX2_add_12 : decode cX2_add 12 = .ok (.iload_n 1, 1) := by decide +kernel
theorem dX2_add_13 : decode cX2_add 13 = .ok (.iastore, 1) := by decide +kernel
theorem dX2_add_14 : decode cX2_add 14 = .ok (.aload_n 0, 1) := by decide +kernel
theorem dX2_add_15 : decode cX2_add 15 = .ok (.getfield 15, 3) := by decide +kernel
theorem dX2_add_18 : decode cX2_add 18 = .ok (.iload 5, 2) := by decide +kernel
theorem dX2_add_20 : decode cX2_add 20 = .ok (.iload_n 2, 1) := by decide +kernel
theorem dX2_add_21 : decode cX2_add 21 = .ok (.iastore, 1) := by decide +kernel
theorem dX2_add_22 : decode cX2_add 22 = .ok (.aload_n 0, 1) := by decide +kernel
theorem dX2_add_23 : decode cX2_add 23 = .ok (.getfield 18, 3) := by decide +kernel
theorem dX2_add_26 : decode cX2_add 26 = .ok (.iload 5, 2) := by decide +kernel
theorem dX2_add_28 : decode cX2_add 28 = .ok (.iload_n 3, 1) := by decide +kernel
theorem dX2_add_29 : decode cX2_add 29 = .ok (.iastore, 1) := by decide +kernel
theorem dX2_add_30 : decode cX2_add 30 = .ok (.aload_n 0, 1) := by decide +kernel
theorem dX2_add_31 : decode cX2_add 31 = .ok (.getfield 21, 3) := by decide +kernel
theorem dX2_add_34 : decode cX2_add 34 = .ok (.iload 5, 2) := by decide +kernel
theorem dX2_add_36 : decode cX2_add 36 = .ok (.iload 4, 2) := by decide +kernel
theorem dX2_add_38 : decode cX2_add 38 = .ok (.iastore, 1) := by decide +kernel
theorem dX2_add_39 : decode cX2_add 39 = .ok (.aload_n 0, 1) := by decide +kernel
theorem dX2_add_40 : decode cX2_add 40 = .ok (.getfield 24, 3) := by decide +kernel
theorem dX2_add_43 : decode cX2_add 43 = .ok (.iload 5, 2) := by decide +kernel
theorem dX2_add_45 : decode cX2_add 45 = .ok (.iconst 0, 1) := by decide +kernel
theorem dX2_add_46 : decode cX2_add 46 = .ok (.iastore, 1) := by decide +kernel
theorem dX2_add_47 : decode cX2_add 47 = .ok (.aload_n 0, 1) := by decide +kernel
theorem dX2_add_48 : decode cX2_add 48 = .ok (.getfield 27, 3) := by decide +kernel
theorem dX2_add_51 : decode cX2_add 51 = .ok (.iload 5, 2) := by decide +kernel
theorem dX2_add_53 : decode cX2_add 53 = .ok (.iconst (-1), 1) := by decide +kernel
theorem dX2_add_54 : decode cX2_add 54 = .ok (.iastore, 1) := by decide +kernel
theorem dX2_add_55 : decode cX2_add 55 = .ok (.aload_n 0, 1) := by decide +kernel
theorem dX2_add_56 : decode cX2_add 56 = .ok (.dup, 1) := by decide +kernel
theorem dX2_add_57 : decode cX2_add 57 = .ok (.getfield 36, 3) := by decide +kernel
theorem dX2_add_60 : decode cX2_add 60 = .ok (.iconst 1, 1) := by decide +kernel
theorem dX2_add_61 : decode cX2_add 61 = .ok (.iadd, 1) := by decide +kernel
theorem dX2_add_62 : decode cX2_add 62 = .ok (.putfield 36, 3) := by decide +kernel
theorem dX2_add_65 : decode cX2_add 65 = .ok (.iload 5, 2) := by decide +kernel
theorem dX2_add_67 : decode cX2_add 67 = .ok (.ireturn, 1) := by decide +kernel
theorem dX2_isEnded_0 : decode cX2_isEnded 0 = .ok (.aload_n 0, 1) := by decide +kernel
theorem dX2_isEnded_1 : decode cX2_isEnded 1 = .ok (.getfield 24, 3) := by decide +kernel
theorem dX2_isEnded_4 : decode cX2_isEnded 4 = .ok (.iload_n 1, 1) := by decide +kernel
theorem dX2_isEnded_5 : decode cX2_isEnded 5 = .ok (.iaload, 1) := by decide +kernel
theorem dX2_isEnded_6 : decode cX2_isEnded 6 = .ok (.iconst 4, 1) := by decide +kernel
theorem dX2_isEnded_7 : decode cX2_isEnded 7 = .ok (.if_icmp .eq 13, 3) := by decide +kernel
theorem dX2_isEnded_10 : decode cX2_isEnded 10 = .ok (.aload_n 0, 1) := by decide +kernel
theorem dX2_isEnded_11 : decode cX2_isEnded 11 = .ok (.getfield 24, 3) := by decide +kernel
theorem dX2_isEnded_14 : decode cX2_isEnded 14 = .ok (.iload_n 1, 1) := by decide +kernel
theorem dX2_isEnded_15 : decode cX2_isEnded 15 = .ok (.iaload, 1) := by decide +kernel
theorem dX2_isEnded_16 : decode cX2_isEnded 16 = .ok (.iconst 5, 1) := by decide +kernel
theorem dX2_isEnded_17 : decode cX2_isEnded 17 = .ok (.if_icmp .ne 7, 3) := by decide +kernel
theorem dX2_isEnded_20 : decode cX2_isEnded 20 = .ok (.iconst 1, 1) := by decide +kernel
theorem dX2_isEnded_21 : decode cX2_isEnded 21 = .ok (.goto 4, 3) := by decide +kernel
theorem dX2_isEnded_24 : decode cX2_isEnded 24 = .ok (.iconst 0, 1) := by decide +kernel
theorem dX2_isEnded_25 : decode cX2_isEnded 25 = .ok (.ireturn, 1) := by decide +kernel
theorem dX2_isAboveCap_0 : decode cX2_isAboveCap 0 = .ok (.aload_n 0, 1) := by decide +kernel
theorem dX2_isAboveCap_1 : decode cX2_isAboveCap 1 = .ok (.getfield 27, 3) := by decide +kernel
theorem dX2_isAboveCap_4 : decode cX2_isAboveCap 4 = .ok (.iload_n 1, 1) := by decide +kernel
theorem dX2_isAboveCap_5 : decode cX2_isAboveCap 5 = .ok (.iaload, 1) := by decide +kernel
theorem dX2_isAboveCap_6 : decode cX2_isAboveCap 6 = .ok (.iconst (-1), 1) := by decide +kernel
theorem dX2_isAboveCap_7 : decode cX2_isAboveCap 7 = .ok (.if_icmp .eq 17, 3) := by decide +kernel
theorem dX2_isAboveCap_10 : decode cX2_isAboveCap 10 = .ok (.iload_n 2, 1) := by decide +kernel
theorem dX2_isAboveCap_11 : decode cX2_isAboveCap 11 = .ok (.aload_n 0, 1) := by decide +kernel
theorem dX2_isAboveCap_12 : decode cX2_isAboveCap 12 = .ok (.getfield 27, 3) := by decide +kernel
theorem dX2_isAboveCap_15 : decode cX2_isAboveCap 15 = .ok (.iload_n 1, 1) := by decide +kernel
theorem dX2_isAboveCap_16 : decode cX2_isAboveCap 16 = .ok (.iaload, 1) := by decide +kernel
theorem dX2_isAboveCap_17 : decode cX2_isAboveCap 17 = .ok (.if_icmp .le 7, 3) := by decide +kernel
theorem dX2_isAboveCap_20 : decode cX2_isAboveCap 20 = .ok (.iconst 1, 1) := by decide +kernel
theorem dX2_isAboveCap_21 : decode cX2_isAboveCap 21 = .ok (.goto 4, 3) := by decide +kernel
theorem dX2_isAboveCap_24 : decode cX2_isAboveCap 24 = .ok (.iconst 0, 1) := by decide +kernel
theorem dX2_isAboveCap_25 : decode cX2_isAboveCap 25 = .ok (.ireturn, 1) := by decide +kernel
theorem dX2_amountByDefault_0 : decode cX2_amountByDefault 0 = .ok (.aload_n 0, 1) := by decide +kernel
theorem dX2_amountByDefault_1 : decode cX2_amountByDefault 1 = .ok (.iload_n 1, 1) := by decide +kernel
theorem dX2_amountByDefault_2 : decode cX2_amountByDefault 2 = .ok (.aload_n 0, 1) := by decide +kernel
theorem dX2_amountByDefault_3 : decode cX2_amountByDefault 3 = .ok (.getfield 21, 3) := by decide +kernel
theorem dX2_amountByDefault_6 : decode cX2_amountByDefault 6 = .ok (.iload_n 1, 1) := by decide +kernel
theorem dX2_amountByDefault_7 : decode cX2_amountByDefault 7 = .ok (.iaload, 1) := by decide +kernel
theorem dX2_amountByDefault_8 : decode cX2_amountByDefault 8 = .ok (.invokevirtual 40, 3) := by decide +kernel
theorem dX2_amountByDefault_11 : decode cX2_amountByDefault 11 = .ok (.ifCond .eq 12, 3) := by decide +kernel
theorem dX2_amountByDefault_14 : decode cX2_amountByDefault 14 = .ok (.aload_n 0, 1) := by decide +kernel
theorem dX2_amountByDefault_15 : decode cX2_amountByDefault 15 = .ok (.getfield 27, 3) := by decide +kernel
theorem dX2_amountByDefault_18 : decode cX2_amountByDefault 18 = .ok (.iload_n 1, 1) := by decide +kernel
theorem dX2_amountByDefault_19 : decode cX2_amountByDefault 19 = .ok (.iaload, 1) := by decide +kernel
theorem dX2_amountByDefault_20 : decode cX2_amountByDefault 20 = .ok (.goto 9, 3) := by decide +kernel
theorem dX2_amountByDefault_23 : decode cX2_amountByDefault 23 = .ok (.aload_n 0, 1) := by decide +kernel
theorem dX2_amountByDefault_24 : decode cX2_amountByDefault 24 = .ok (.getfield 21, 3) := by decide +kernel
theorem dX2_amountByDefault_27 : decode cX2_amountByDefault 27 = .ok (.iload_n 1, 1) := by decide +kernel
theorem dX2_amountByDefault_28 : decode cX2_amountByDefault 28 = .ok (.iaload, 1) := by decide +kernel
theorem dX2_amountByDefault_29 : decode cX2_amountByDefault 29 = .ok (.ireturn, 1) := by decide +kernel
theorem dX2_isMember_0 : decode cX2_isMember 0 = .ok (.aload_n 0, 1) := by decide +kernel
theorem dX2_isMember_1 : decode cX2_isMember 1 = .ok (.getfield 33, 3) := by decide +kernel
theorem dX2_isMember_4 : decode cX2_isMember 4 = .ok (.iload_n 1, 1) := by decide +kernel
theorem dX2_isMember_5 : decode cX2_isMember 5 = .ok (.iaload, 1) := by decide +kernel
theorem dX2_isMember_6 : decode cX2_isMember 6 = .ok (.iload_n 2, 1) := by decide +kernel
theorem dX2_isMember_7 : decode cX2_isMember 7 = .ok (.ishr, 1) := by decide +kernel
theorem dX2_isMember_8 : decode cX2_isMember 8 = .ok (.iconst 1, 1) := by decide +kernel
theorem dX2_isMember_9 : decode cX2_isMember 9 = .ok (.iand, 1) := by decide +kernel
theorem dX2_isMember_10 : decode cX2_isMember 10 = .ok (.iconst 1, 1) := by decide +kernel
theorem dX2_isMember_11 : decode cX2_isMember 11 = .ok (.if_icmp .ne 7, 3) := by decide +kernel
theorem dX2_isMember_14 : decode cX2_isMember 14 = .ok (.iconst 1, 1) := by decide +kernel
theorem dX2_isMember_15 : decode cX2_isMember 15 = .ok (.goto 4, 3) := by decide +kernel
theorem dX2_isMember_18 : decode cX2_isMember 18 = .ok (.iconst 0, 1) := by decide +kernel
theorem dX2_isMember_19 : decode cX2_isMember 19 = .ok (.ireturn, 1) := by decide +kernel
theorem dX2_setMember_0 : decode cX2_setMember 0 = .ok (.iconst 1, 1) := by decide +kernel
theorem dX2_setMember_1 : decode cX2_setMember 1 = .ok (.iload_n 2, 1) := by decide +kernel
theorem dX2_setMember_2 : decode cX2_setMember 2 = .ok (.ishl, 1) := by decide +kernel
theorem dX2_setMember_3 : decode cX2_setMember 3 = .ok (.istore 4, 2) := by decide +kernel
theorem dX2_setMember_5 : decode cX2_setMember 5 = .ok (.aload_n 0, 1) := by decide +kernel
theorem dX2_setMember_6 : decode cX2_setMember 6 = .ok (.getfield 33, 3) := by decide +kernel
theorem dX2_setMember_9 : decode cX2_setMember 9 = .ok (.iload_n 1, 1) := by decide +kernel
theorem dX2_setMember_10 : decode cX2_setMember 10 = .ok (.iload_n 3, 1) := by decide +kernel
theorem dX2_setMember_11 : decode cX2_setMember 11 = .ok (.ifCond .eq 15, 3) := by decide +kernel
theorem dX2_setMember_14 : decode cX2_setMember 14 = .ok (.aload_n 0, 1) := by decide +kernel
theorem dX2_setMember_15 : decode cX2_setMember 15 = .ok (.getfield 33, 3) := by decide +kernel
theorem dX2_setMember_18 : decode cX2_setMember 18 = .ok (.iload_n 1, 1) := by decide +kernel
theorem dX2_setMember_19 : decode cX2_setMember 19 = .ok (.iaload, 1) := by decide +kernel
theorem dX2_setMember_20 : decode cX2_setMember 20 = .ok (.iload 4, 2) := by decide +kernel
theorem dX2_setMember_22 : decode cX2_setMember 22 = .ok (.ior, 1) := by decide +kernel
theorem dX2_setMember_23 : decode cX2_setMember 23 = .ok (.goto 14, 3) := by decide +kernel
theorem dX2_setMember_26 : decode cX2_setMember 26 = .ok (.aload_n 0, 1) := by decide +kernel
theorem dX2_setMember_27 : decode cX2_setMember 27 = .ok (.getfield 33, 3) := by decide +kernel
theorem dX2_setMember_30 : decode cX2_setMember 30 = .ok (.iload_n 1, 1) := by decide +kernel
theorem dX2_setMember_31 : decode cX2_setMember 31 = .ok (.iaload, 1) := by decide +kernel
theorem dX2_setMember_32 : decode cX2_setMember 32 = .ok (.iload 4, 2) := by decide +kernel
theorem dX2_setMember_34 : decode cX2_setMember 34 = .ok (.iconst (-1), 1) := by decide +kernel
theorem dX2_setMember_35 : decode cX2_setMember 35 = .ok (.ixor, 1) := by decide +kernel
theorem dX2_setMember_36 : decode cX2_setMember 36 = .ok (.iand, 1) := by decide +kernel
theorem dX2_setMember_37 : decode cX2_setMember 37 = .ok (.iastore, 1) := by decide +kernel
theorem dX2_setMember_38 : decode cX2_setMember 38 = .ok (.return_, 1) := by decide +kernel
theorem dX2_memberCount_0 : decode cX2_memberCount 0 = .ok (.aload_n 0, 1) := by decide +kernel
theorem dX2_memberCount_1 : decode cX2_memberCount 1 = .ok (.getfield 33, 3) := by decide +kernel
theorem dX2_memberCount_4 : decode cX2_memberCount 4 = .ok (.iload_n 1, 1) := by decide +kernel
theorem dX2_memberCount_5 : decode cX2_memberCount 5 = .ok (.iaload, 1) := by decide +kernel
theorem dX2_memberCount_6 : decode cX2_memberCount 6 = .ok (.invokestatic 44, 3) := by decide +kernel
theorem dX2_memberCount_9 : decode cX2_memberCount 9 = .ok (.ireturn, 1) := by decide +kernel
theorem dX3_init_0 : decode cX3_init 0 = .ok (.aload_n 0, 1) := by decide +kernel
theorem dX3_init_1 : decode cX3_init 1 = .ok (.invokespecial 3, 3) := by decide +kernel
theorem dX3_init_4 : decode cX3_init 4 = .ok (.aload_n 0, 1) := by decide +kernel
theorem dX3_init_5 : decode cX3_init 5 = .ok (.sipush 160, 3) := by decide +kernel
theorem dX3_init_8 : decode cX3_init 8 = .ok (.newarray .int, 2) := by decide +kernel
theorem dX3_init_10 : decode cX3_init 10 = .ok (.putfield 9, 3) := by decide +kernel
theorem dX3_init_13 : decode cX3_init 13 = .ok (.aload_n 0, 1) := by decide +kernel
theorem dX3_init_14 : decode cX3_init 14 = .ok (.sipush 160, 3) := by decide +kernel
theorem dX3_init_17 : decode cX3_init 17 = .ok (.newarray .int, 2) := by decide +kernel
theorem dX3_init_19 : decode cX3_init 19 = .ok (.putfield 15, 3) := by decide +kernel
theorem dX3_init_22 : decode cX3_init 22 = .ok (.aload_n 0, 1) := by decide +kernel
theorem dX3_init_23 : decode cX3_init 23 = .ok (.sipush 160, 3) := by decide +kernel
theorem dX3_init_26 : decode cX3_init 26 = .ok (.newarray .int, 2) := by decide +kernel
theorem dX3_init_28 : decode cX3_init 28 = .ok (.putfield 18, 3) := by decide +kernel
theorem dX3_init_31 : decode cX3_init 31 = .ok (.aload_n 0, 1) := by decide +kernel
theorem dX3_init_32 : decode cX3_init 32 = .ok (.sipush 160, 3) := by decide +kernel
theorem dX3_init_35 : decode cX3_init 35 = .ok (.newarray .int, 2) := by decide +kernel
theorem dX3_init_37 : decode cX3_init 37 = .ok (.putfield 21, 3) := by decide +kernel
theorem dX3_init_40 : decode cX3_init 40 = .ok (.aload_n 0, 1) := by decide +kernel
theorem dX3_init_41 : decode cX3_init 41 = .ok (.sipush 160, 3) := by decide +kernel
theorem dX3_init_44 : decode cX3_init 44 = .ok (.newarray .int, 2) := by decide +kernel
theorem dX3_init_46 : decode cX3_init 46 = .ok (.putfield 24, 3) := by decide +kernel
theorem dX3_init_49 : decode cX3_init 49 = .ok (.aload_n 0, 1) := by decide +kernel
theorem dX3_init_50 : decode cX3_init 50 = .ok (.sipush 160, 3) := by decide +kernel
theorem dX3_init_53 : decode cX3_init 53 = .ok (.newarray .int, 2) := by decide +kernel
theorem dX3_init_55 : decode cX3_init 55 = .ok (.putfield 27, 3) := by decide +kernel
theorem dX3_init_58 : decode cX3_init 58 = .ok (.aload_n 0, 1) := by decide +kernel
theorem dX3_init_59 : decode cX3_init 59 = .ok (.sipush 160, 3) := by decide +kernel
theorem dX3_init_62 : decode cX3_init 62 = .ok (.newarray .boolean, 2) := by decide +kernel
theorem dX3_init_64 : decode cX3_init 64 = .ok (.putfield 30, 3) := by decide +kernel
theorem dX3_init_67 : decode cX3_init 67 = .ok (.aload_n 0, 1) := by decide +kernel
theorem dX3_init_68 : decode cX3_init 68 = .ok (.sipush 160, 3) := by decide +kernel
theorem dX3_init_71 : decode cX3_init 71 = .ok (.newarray .boolean, 2) := by decide +kernel
theorem dX3_init_73 : decode cX3_init 73 = .ok (.putfield 34, 3) := by decide +kernel
theorem dX3_init_76 : decode cX3_init 76 = .ok (.aload_n 0, 1) := by decide +kernel
theorem dX3_init_77 : decode cX3_init 77 = .ok (.sipush 160, 3) := by decide +kernel
theorem dX3_init_80 : decode cX3_init 80 = .ok (.newarray .int, 2) := by decide +kernel
theorem dX3_init_82 : decode cX3_init 82 = .ok (.putfield 37, 3) := by decide +kernel
theorem dX3_init_85 : decode cX3_init 85 = .ok (.aload_n 0, 1) := by decide +kernel
theorem dX3_init_86 : decode cX3_init 86 = .ok (.sipush 160, 3) := by decide +kernel
theorem dX3_init_89 : decode cX3_init 89 = .ok (.newarray .boolean, 2) := by decide +kernel
theorem dX3_init_91 : decode cX3_init 91 = .ok (.putfield 40, 3) := by decide +kernel
theorem dX3_init_94 : decode cX3_init 94 = .ok (.aload_n 0, 1) := by decide +kernel
theorem dX3_init_95 : decode cX3_init 95 = .ok (.sipush 160, 3) := by decide +kernel
theorem dX3_init_98 : decode cX3_init 98 = .ok (.newarray .int, 2) := by decide +kernel
theorem dX3_init_100 : decode cX3_init 100 = .ok (.putfield 43, 3) := by decide +kernel
theorem dX3_init_103 : decode cX3_init 103 = .ok (.aload_n 0, 1) := by decide +kernel
theorem dX3_init_104 : decode cX3_init 104 = .ok (.sipush 160, 3) := by decide +kernel
theorem dX3_init_107 : decode cX3_init 107 = .ok (.newarray .int, 2) := by decide +kernel
theorem dX3_init_109 : decode cX3_init 109 = .ok (.putfield 46, 3) := by decide +kernel
theorem dX3_init_112 : decode cX3_init 112 = .ok (.aload_n 0, 1) := by decide +kernel
theorem dX3_init_113 : decode cX3_init 113 = .ok (.sipush 160, 3) := by decide +kernel
theorem dX3_init_116 : decode cX3_init 116 = .ok (.newarray .boolean, 2) := by decide +kernel
theorem dX3_init_118 : decode cX3_init 118 = .ok (.putfield 49, 3) := by decide +kernel
theorem dX3_init_121 : decode cX3_init 121 = .ok (.aload_n 0, 1) := by decide +kernel
theorem dX3_init_122 : decode cX3_init 122 = .ok (.sipush 160, 3) := by decide +kernel
theorem dX3_init_125 : decode cX3_init 125 = .ok (.newarray .boolean, 2) := by decide +kernel
theorem dX3_init_127 : decode cX3_init 127 = .ok (.putfield 52, 3) := by decide +kernel
theorem dX3_init_130 : decode cX3_init 130 = .ok (.return_, 1) := by decide +kernel
theorem dX3_add_0 : decode cX3_add 0 = .ok (.aload_n 0, 1) := by decide +kernel
theorem dX3_add_1 : decode cX3_add 1 = .ok (.getfield 55, 3) := by decide +kernel
theorem dX3_add_4 : decode cX3_add 4 = .ok (.istore 4, 2) := by decide +kernel
theorem dX3_add_6 : decode cX3_add 6 = .ok (.aload_n 0, 1) := by decide +kernel
theorem dX3_add_7 : decode cX3_add 7 = .ok (.getfield 9, 3) := by decide +kernel
theorem dX3_add_10 : decode cX3_add 10 = .ok (.iload 4, 2) := by decide +kernel
theorem dX3_add_12 : decode cX3_add 12 = .ok (.iload_n 1, 1) := by decide +kernel
theorem dX3_add_13 : decode cX3_add 13 = .ok (.iastore, 1) := by decide +kernel
theorem dX3_add_14 : decode cX3_add 14 = .ok (.aload_n 0, 1) := by decide +kernel
theorem dX3_add_15 : decode cX3_add 15 = .ok (.getfield 15, 3) := by decide +kernel
theorem dX3_add_18 : decode cX3_add 18 = .ok (.iload 4, 2) := by decide +kernel
theorem dX3_add_20 : decode cX3_add 20 = .ok (.iload_n 2, 1) := by decide +kernel
theorem dX3_add_21 : decode cX3_add 21 = .ok (.iastore, 1) := by decide +kernel
theorem dX3_add_22 : decode cX3_add 22 = .ok (.aload_n 0, 1) := by decide +kernel
theorem dX3_add_23 : decode cX3_add 23 = .ok (.getfield 18, 3) := by decide +kernel
theorem dX3_add_26 : decode cX3_add 26 = .ok (.iload 4, 2) := by decide +kernel
theorem dX3_add_28 : decode cX3_add 28 = .ok (.iload_n 3, 1) := by decide +kernel
theorem dX3_add_29 : decode cX3_add 29 = .ok (.iastore, 1) := by decide +kernel
theorem dX3_add_30 : decode cX3_add 30 = .ok (.aload_n 0, 1) := by decide +kernel
theorem dX3_add_31 : decode cX3_add 31 = .ok (.getfield 43, 3) := by decide +kernel
theorem dX3_add_34 : decode cX3_add 34 = .ok (.iload 4, 2) := by decide +kernel
theorem dX3_add_36 : decode cX3_add 36 = .ok (.iconst (-1), 1) := by decide +kernel
theorem dX3_add_37 : decode cX3_add 37 = .ok (.iastore, 1) := by decide +kernel
theorem dX3_add_38 : decode cX3_add 38 = .ok (.aload_n 0, 1) := by decide +kernel
theorem dX3_add_39 : decode cX3_add 39 = .ok (.dup, 1) := by decide +kernel
theorem dX3_add_40 : decode cX3_add 40 = .ok (.getfield 55, 3) := by decide +kernel
theorem dX3_add_43 : decode cX3_add 43 = .ok (.iconst 1, 1) := by decide +kernel
theorem dX3_add_44 : decode cX3_add 44 = .ok (.iadd, 1) := by decide +kernel
theorem dX3_add_45 : decode cX3_add 45 = .ok (.putfield 55, 3) := by decide +kernel
theorem dX3_add_48 : decode cX3_add 48 = .ok (.iload 4, 2) := by decide +kernel
theorem dX3_add_50 : decode cX3_add 50 = .ok (.ireturn, 1) := by decide +kernel
theorem dX3_isOfCase_0 : decode cX3_isOfCase 0 = .ok (.aload_n 0, 1) := by decide +kernel
theorem dX3_isOfCase_1 : decode cX3_isOfCase 1 = .ok (.getfield 9, 3) := by decide +kernel
theorem dX3_isOfCase_4 : decode cX3_isOfCase 4 = .ok (.iload_n 1, 1) := by decide +kernel
theorem dX3_isOfCase_5 : decode cX3_isOfCase 5 = .ok (.iaload, 1) := by decide +kernel
theorem dX3_isOfCase_6 : decode cX3_isOfCase 6 = .ok (.bipush 11, 2) := by decide +kernel
theorem dX3_isOfCase_8 : decode cX3_isOfCase 8 = .ok (.if_icmp .eq 14, 3) := by decide +kernel
theorem dX3_isOfCase_11 : decode cX3_isOfCase 11 = .ok (.aload_n 0, 1) := by decide +kernel
theorem dX3_isOfCase_12 : decode cX3_isOfCase 12 = .ok (.getfield 9, 3) := by decide +kernel
theorem dX3_isOfCase_15 : decode cX3_isOfCase 15 = .ok (.iload_n 1, 1) := by decide +kernel
theorem dX3_isOfCase_16 : decode cX3_isOfCase 16 = .ok (.iaload, 1) := by decide +kernel
theorem dX3_isOfCase_17 : decode cX3_isOfCase 17 = .ok (.bipush 12, 2) := by decide +kernel
theorem dX3_isOfCase_19 : decode cX3_isOfCase 19 = .ok (.if_icmp .ne 7, 3) := by decide +kernel
theorem dX3_isOfCase_22 : decode cX3_isOfCase 22 = .ok (.iconst 1, 1) := by decide +kernel
theorem dX3_isOfCase_23 : decode cX3_isOfCase 23 = .ok (.goto 4, 3) := by decide +kernel
theorem dX3_isOfCase_26 : decode cX3_isOfCase 26 = .ok (.iconst 0, 1) := by decide +kernel
theorem dX3_isOfCase_27 : decode cX3_isOfCase 27 = .ok (.ireturn, 1) := by decide +kernel
theorem dX3_isOfClaim_0 : decode cX3_isOfClaim 0 = .ok (.aload_n 0, 1) := by decide +kernel
theorem dX3_isOfClaim_1 : decode cX3_isOfClaim 1 = .ok (.getfield 18, 3) := by decide +kernel
theorem dX3_isOfClaim_4 : decode cX3_isOfClaim 4 = .ok (.iload_n 1, 1) := by decide +kernel
theorem dX3_isOfClaim_5 : decode cX3_isOfClaim 5 = .ok (.iaload, 1) := by decide +kernel
theorem dX3_isOfClaim_6 : decode cX3_isOfClaim 6 = .ok (.iload_n 2, 1) := by decide +kernel
theorem dX3_isOfClaim_7 : decode cX3_isOfClaim 7 = .ok (.if_icmp .ne 15, 3) := by decide +kernel
theorem dX3_isOfClaim_10 : decode cX3_isOfClaim 10 = .ok (.aload_n 0, 1) := by decide +kernel
theorem dX3_isOfClaim_11 : decode cX3_isOfClaim 11 = .ok (.iload_n 1, 1) := by decide +kernel
theorem dX3_isOfClaim_12 : decode cX3_isOfClaim 12 = .ok (.invokevirtual 59, 3) := by decide +kernel
theorem dX3_isOfClaim_15 : decode cX3_isOfClaim 15 = .ok (.ifCond .ne 7, 3) := by decide +kernel
theorem dX3_isOfClaim_18 : decode cX3_isOfClaim 18 = .ok (.iconst 1, 1) := by decide +kernel
theorem dX3_isOfClaim_19 : decode cX3_isOfClaim 19 = .ok (.goto 4, 3) := by decide +kernel
theorem dX3_isOfClaim_22 : decode cX3_isOfClaim 22 = .ok (.iconst 0, 1) := by decide +kernel
theorem dX3_isOfClaim_23 : decode cX3_isOfClaim 23 = .ok (.ireturn, 1) := by decide +kernel
theorem dX3_hasDefect_0 : decode cX3_hasDefect 0 = .ok (.aload_n 0, 1) := by decide +kernel
theorem dX3_hasDefect_1 : decode cX3_hasDefect 1 = .ok (.getfield 43, 3) := by decide +kernel
theorem dX3_hasDefect_4 : decode cX3_hasDefect 4 = .ok (.iload_n 1, 1) := by decide +kernel
theorem dX3_hasDefect_5 : decode cX3_hasDefect 5 = .ok (.iaload, 1) := by decide +kernel
theorem dX3_hasDefect_6 : decode cX3_hasDefect 6 = .ok (.iconst (-1), 1) := by decide +kernel
theorem dX3_hasDefect_7 : decode cX3_hasDefect 7 = .ok (.if_icmp .eq 7, 3) := by decide +kernel
theorem dX3_hasDefect_10 : decode cX3_hasDefect 10 = .ok (.iconst 1, 1) := by decide +kernel
theorem dX3_hasDefect_11 : decode cX3_hasDefect 11 = .ok (.goto 4, 3) := by decide +kernel
theorem dX3_hasDefect_14 : decode cX3_hasDefect 14 = .ok (.iconst 0, 1) := by decide +kernel
theorem dX3_hasDefect_15 : decode cX3_hasDefect 15 = .ok (.ireturn, 1) := by decide +kernel
theorem dX3_latest_0 : decode cX3_latest 0 = .ok (.aload_n 0, 1) := by decide +kernel
theorem dX3_latest_1 : decode cX3_latest 1 = .ok (.getfield 55, 3) := by decide +kernel
theorem dX3_latest_4 : decode cX3_latest 4 = .ok (.iconst 1, 1) := by decide +kernel
theorem dX3_latest_5 : decode cX3_latest 5 = .ok (.isub, 1) := by decide +kernel
theorem dX3_latest_6 : decode cX3_latest 6 = .ok (.istore_n 3, 1) := by decide +kernel
theorem dX3_latest_7 : decode cX3_latest 7 = .ok (.iload_n 3, 1) := by decide +kernel
theorem dX3_latest_8 : decode cX3_latest 8 = .ok (.ifCond .lt 31, 3) := by decide +kernel
theorem dX3_latest_11 : decode cX3_latest 11 = .ok (.aload_n 0, 1) := by decide +kernel
theorem dX3_latest_12 : decode cX3_latest 12 = .ok (.getfield 9, 3) := by decide +kernel
theorem dX3_latest_15 : decode cX3_latest 15 = .ok (.iload_n 3, 1) := by decide +kernel
theorem dX3_latest_16 : decode cX3_latest 16 = .ok (.iaload, 1) := by decide +kernel
theorem dX3_latest_17 : decode cX3_latest 17 = .ok (.iload_n 1, 1) := by decide +kernel
theorem dX3_latest_18 : decode cX3_latest 18 = .ok (.if_icmp .ne 15, 3) := by decide +kernel
theorem dX3_latest_21 : decode cX3_latest 21 = .ok (.aload_n 0, 1) := by decide +kernel
theorem dX3_latest_22 : decode cX3_latest 22 = .ok (.getfield 18, 3) := by decide +kernel
theorem dX3_latest_25 : decode cX3_latest 25 = .ok (.iload_n 3, 1) := by decide +kernel
theorem dX3_latest_26 : decode cX3_latest 26 = .ok (.iaload, 1) := by decide +kernel
theorem dX3_latest_27 : decode cX3_latest 27 = .ok (.iload_n 2, 1) := by decide +kernel
theorem dX3_latest_28 : decode cX3_latest 28 = .ok (.if_icmp .ne 5, 3) := by decide +kernel
theorem dX3_latest_31 : decode cX3_latest 31 = .ok (.iload_n 3, 1) := by decide +kernel
theorem dX3_latest_32 : decode cX3_latest 32 = .ok (.ireturn, 1) := by decide +kernel
theorem dX3_latest_33 : decode cX3_latest 33 = .ok (.iinc 3 (-1), 3) := by decide +kernel
theorem dX3_latest_36 : decode cX3_latest 36 = .ok (.goto (-29), 3) := by decide +kernel
theorem dX3_latest_39 : decode cX3_latest 39 = .ok (.iconst (-1), 1) := by decide +kernel
theorem dX3_latest_40 : decode cX3_latest 40 = .ok (.ireturn, 1) := by decide +kernel
theorem dX3_latestOrder_0 : decode cX3_latestOrder 0 = .ok (.aload_n 0, 1) := by decide +kernel
theorem dX3_latestOrder_1 : decode cX3_latestOrder 1 = .ok (.getfield 55, 3) := by decide +kernel
theorem dX3_latestOrder_4 : decode cX3_latestOrder 4 = .ok (.iconst 1, 1) := by decide +kernel
theorem dX3_latestOrder_5 : decode cX3_latestOrder 5 = .ok (.isub, 1) := by decide +kernel
theorem dX3_latestOrder_6 : decode cX3_latestOrder 6 = .ok (.istore_n 2, 1) := by decide +kernel
theorem dX3_latestOrder_7 : decode cX3_latestOrder 7 = .ok (.iload_n 2, 1) := by decide +kernel
theorem dX3_latestOrder_8 : decode cX3_latestOrder 8 = .ok (.ifCond .lt 72, 3) := by decide +kernel
theorem dX3_latestOrder_11 : decode cX3_latestOrder 11 = .ok (.aload_n 0, 1) := by decide +kernel
theorem dX3_latestOrder_12 : decode cX3_latestOrder 12 = .ok (.getfield 9, 3) := by decide +kernel
theorem dX3_latestOrder_15 : decode cX3_latestOrder 15 = .ok (.iload_n 2, 1) := by decide +kernel
theorem dX3_latestOrder_16 : decode cX3_latestOrder 16 = .ok (.iaload, 1) := by decide +kernel
theorem dX3_latestOrder_17 : decode cX3_latestOrder 17 = .ok (.iconst 4, 1) := by decide +kernel
theorem dX3_latestOrder_18 : decode cX3_latestOrder 18 = .ok (.if_icmp .lt 29, 3) := by decide +kernel
theorem dX3_latestOrder_21 : decode cX3_latestOrder 21 = .ok (.aload_n 0, 1) := by decide +kernel
theorem dX3_latestOrder_22 : decode cX3_latestOrder 22 = .ok (.getfield 9, 3) := by decide +kernel
theorem dX3_latestOrder_25 : decode cX3_latestOrder 25 = .ok (.iload_n 2, 1) := by decide +kernel
theorem dX3_latestOrder_26 : decode cX3_latestOrder 26 = .ok (.iaload, 1) := by decide +kernel
theorem dX3_latestOrder_27 : decode cX3_latestOrder 27 = .ok (.bipush 10, 2) := by decide +kernel
theorem dX3_latestOrder_29 : decode cX3_latestOrder 29 = .ok (.if_icmp .gt 18, 3) := by decide +kernel
theorem dX3_latestOrder_32 : decode cX3_latestOrder 32 = .ok (.aload_n 0, 1) := by decide +kernel
theorem dX3_latestOrder_33 : decode cX3_latestOrder 33 = .ok (.getfield 9, 3) := by decide +kernel
theorem dX3_latestOrder_36 : decode cX3_latestOrder 36 = .ok (.iload_n 2, 1) := by decide +kernel
theorem dX3_latestOrder_37 : decode cX3_latestOrder 37 = .ok (.iaload, 1) := by decide +kernel
theorem dX3_latestOrder_38 : decode cX3_latestOrder 38 = .ok (.bipush 6, 2) := by decide +kernel
theorem dX3_latestOrder_40 : decode cX3_latestOrder 40 = .ok (.if_icmp .eq 7, 3) := by decide +kernel
theorem dX3_latestOrder_43 : decode cX3_latestOrder 43 = .ok (.iconst 1, 1) := by decide +kernel
theorem dX3_latestOrder_44 : decode cX3_latestOrder 44 = .ok (.goto 4, 3) := by decide +kernel
theorem dX3_latestOrder_47 : decode cX3_latestOrder 47 = .ok (.iconst 0, 1) := by decide +kernel
theorem dX3_latestOrder_48 : decode cX3_latestOrder 48 = .ok (.istore_n 3, 1) := by decide +kernel
theorem dX3_latestOrder_49 : decode cX3_latestOrder 49 = .ok (.iload_n 3, 1) := by decide +kernel
theorem dX3_latestOrder_50 : decode cX3_latestOrder 50 = .ok (.ifCond .eq 24, 3) := by decide +kernel
theorem dX3_latestOrder_53 : decode cX3_latestOrder 53 = .ok (.aload_n 0, 1) := by decide +kernel
theorem dX3_latestOrder_54 : decode cX3_latestOrder 54 = .ok (.getfield 18, 3) := by decide +kernel
theorem dX3_latestOrder_57 : decode cX3_latestOrder 57 = .ok (.iload_n 2, 1) := by decide +kernel
theorem dX3_latestOrder_58 : decode cX3_latestOrder 58 = .ok (.iaload, 1) := by decide +kernel
theorem dX3_latestOrder_59 : decode cX3_latestOrder 59 = .ok (.iload_n 1, 1) := by decide +kernel
theorem dX3_latestOrder_60 : decode cX3_latestOrder 60 = .ok (.if_icmp .ne 14, 3) := by decide +kernel
theorem dX3_latestOrder_63 : decode cX3_latestOrder 63 = .ok (.aload_n 0, 1) := by decide +kernel
theorem dX3_latestOrder_64 : decode cX3_latestOrder 64 = .ok (.getfield 30, 3) := by decide +kernel
theorem dX3_latestOrder_67 : decode cX3_latestOrder 67 = .ok (.iload_n 2, 1) := by decide +kernel
theorem dX3_latestOrder_68 : decode cX3_latestOrder 68 = .ok (.baload, 1) := by decide +kernel
theorem dX3_latestOrder_69 : decode cX3_latestOrder 69 = .ok (.ifCond .ne 5, 3) := by decide +kernel
theorem dX3_latestOrder_72 : decode cX3_latestOrder 72 = .ok (.iload_n 2, 1) := by decide +kernel
theorem dX3_latestOrder_73 : decode cX3_latestOrder 73 = .ok (.ireturn, 1) := by decide +kernel
theorem dX3_latestOrder_74 : decode cX3_latestOrder 74 = .ok (.iinc 2 (-1), 3) := by decide +kernel
theorem dX3_latestOrder_77 : decode cX3_latestOrder 77 = .ok (.goto (-70), 3) := by decide +kernel
theorem dX3_latestOrder_80 : decode cX3_latestOrder 80 = .ok (.iconst (-1), 1) := by decide +kernel
theorem dX3_latestOrder_81 : decode cX3_latestOrder 81 = .ok (.ireturn, 1) := by decide +kernel
theorem dX3_appealsSinceJudgement_0 : decode cX3_appealsSinceJudgement 0 = .ok (.iconst 0, 1) := by decide +kernel
theorem dX3_appealsSinceJudgement_1 : decode cX3_appealsSinceJudgement 1 = .ok (.istore_n 2, 1) := by decide +kernel
theorem dX3_appealsSinceJudgement_2 : decode cX3_appealsSinceJudgement 2 = .ok (.aload_n 0, 1) := by decide +kernel
theorem dX3_appealsSinceJudgement_3 : decode cX3_appealsSinceJudgement 3 = .ok (.getfield 55, 3) := by decide +kernel
theorem dX3_appealsSinceJudgement_6 : decode cX3_appealsSinceJudgement 6 = .ok (.iconst 1, 1) := by decide +kernel
theorem dX3_appealsSinceJudgement_7 : decode cX3_appealsSinceJudgement 7 = .ok (.isub, 1) := by decide +kernel
theorem dX3_appealsSinceJudgement_8 : decode cX3_appealsSinceJudgement 8 = .ok (.istore_n 3, 1) := by decide +kernel
theorem dX3_appealsSinceJudgement_9 : decode cX3_appealsSinceJudgement 9 = .ok (.iload_n 3, 1) := by decide +kernel
theorem dX3_appealsSinceJudgement_10 : decode cX3_appealsSinceJudgement 10 = .ok (.ifCond .lt 48, 3) := by decide +kernel
theorem dX3_appealsSinceJudgement_13 : decode cX3_appealsSinceJudgement 13 = .ok (.aload_n 0, 1) := by decide +kernel
theorem dX3_appealsSinceJudgement_14 : decode cX3_appealsSinceJudgement 14 = .ok (.getfield 18, 3) := by decide +kernel
theorem dX3_appealsSinceJudgement_17 : decode cX3_appealsSinceJudgement 17 = .ok (.iload_n 3, 1) := by decide +kernel
theorem dX3_appealsSinceJudgement_18 : decode cX3_appealsSinceJudgement 18 = .ok (.iaload, 1) := by decide +kernel
theorem dX3_appealsSinceJudgement_19 : decode cX3_appealsSinceJudgement 19 = .ok (.iload_n 1, 1) := by decide +kernel
theorem dX3_appealsSinceJudgement_20 : decode cX3_appealsSinceJudgement 20 = .ok (.if_icmp .eq 6, 3) := by decide +kernel
theorem dX3_appealsSinceJudgement_23 : decode cX3_appealsSinceJudgement 23 = .ok (.goto 29, 3) := by decide +kernel
theorem dX3_appealsSinceJudgement_26 : decode cX3_appealsSinceJudgement 26 = .ok (.aload_n 0, 1) := by decide +kernel
theorem dX3_appealsSinceJudgement_27 : decode cX3_appealsSinceJudgement 27 = .ok (.getfield 9, 3) := by decide +kernel
theorem dX3_appealsSinceJudgement_30 : decode cX3_appealsSinceJudgement 30 = .ok (.iload_n 3, 1) := by decide +kernel
theorem dX3_appealsSinceJudgement_31 : decode cX3_appealsSinceJudgement 31 = .ok (.iaload, 1) := by decide +kernel
theorem dX3_appealsSinceJudgement_32 : decode cX3_appealsSinceJudgement 32 = .ok (.iconst 5, 1) := by decide +kernel
theorem dX3_appealsSinceJudgement_33 : decode cX3_appealsSinceJudgement 33 = .ok (.if_icmp .ne 5, 3) := by decide +kernel
theorem dX3_appealsSinceJudgement_36 : decode cX3_appealsSinceJudgement 36 = .ok (.iload_n 2, 1) := by decide +kernel
theorem dX3_appealsSinceJudgement_37 : decode cX3_appealsSinceJudgement 37 = .ok (.ireturn, 1) := by decide +kernel
theorem dX3_appealsSinceJudgement_38 : decode cX3_appealsSinceJudgement 38 = .ok (.aload_n 0, 1) := by decide +kernel
theorem dX3_appealsSinceJudgement_39 : decode cX3_appealsSinceJudgement 39 = .ok (.getfield 9, 3) := by decide +kernel
theorem dX3_appealsSinceJudgement_42 : decode cX3_appealsSinceJudgement 42 = .ok (.iload_n 3, 1) := by decide +kernel
theorem dX3_appealsSinceJudgement_43 : decode cX3_appealsSinceJudgement 43 = .ok (.iaload, 1) := by decide +kernel
theorem dX3_appealsSinceJudgement_44 : decode cX3_appealsSinceJudgement 44 = .ok (.bipush 7, 2) := by decide +kernel
theorem dX3_appealsSinceJudgement_46 : decode cX3_appealsSinceJudgement 46 = .ok (.if_icmp .ne 6, 3) := by decide +kernel
theorem dX3_appealsSinceJudgement_49 : decode cX3_appealsSinceJudgement 49 = .ok (.iinc 2 1, 3) := by decide +kernel
theorem dX3_appealsSinceJudgement_52 : decode cX3_appealsSinceJudgement 52 = .ok (.iinc 3 (-1), 3) := by decide +kernel
theorem dX3_appealsSinceJudgement_55 : decode cX3_appealsSinceJudgement 55 = .ok (.goto (-46), 3) := by decide +kernel
theorem dX3_appealsSinceJudgement_58 : decode cX3_appealsSinceJudgement 58 = .ok (.iload_n 2, 1) := by decide +kernel
theorem dX3_appealsSinceJudgement_59 : decode cX3_appealsSinceJudgement 59 = .ok (.ireturn, 1) := by decide +kernel
theorem dX3_answerStart_0 : decode cX3_answerStart 0 = .ok (.aload_n 0, 1) := by decide +kernel
theorem dX3_answerStart_1 : decode cX3_answerStart 1 = .ok (.getfield 55, 3) := by decide +kernel
theorem dX3_answerStart_4 : decode cX3_answerStart 4 = .ok (.iconst 1, 1) := by decide +kernel
theorem dX3_answerStart_5 : decode cX3_answerStart 5 = .ok (.isub, 1) := by decide +kernel
theorem dX3_answerStart_6 : decode cX3_answerStart 6 = .ok (.istore_n 2, 1) := by decide +kernel
theorem dX3_answerStart_7 : decode cX3_answerStart 7 = .ok (.iload_n 2, 1) := by decide +kernel
theorem dX3_answerStart_8 : decode cX3_answerStart 8 = .ok (.ifCond .lt 37, 3) := by decide +kernel
theorem dX3_answerStart_11 : decode cX3_answerStart 11 = .ok (.aload_n 0, 1) := by decide +kernel
theorem dX3_answerStart_12 : decode cX3_answerStart 12 = .ok (.iload_n 2, 1) := by decide +kernel
theorem dX3_answerStart_13 : decode cX3_answerStart 13 = .ok (.iload_n 1, 1) := by decide +kernel
theorem dX3_answerStart_14 : decode cX3_answerStart 14 = .ok (.invokevirtual 63, 3) := by decide +kernel
theorem dX3_answerStart_17 : decode cX3_answerStart 17 = .ok (.ifCond .eq 22, 3) := by decide +kernel
theorem dX3_answerStart_20 : decode cX3_answerStart 20 = .ok (.aload_n 0, 1) := by decide +kernel
theorem dX3_answerStart_21 : decode cX3_answerStart 21 = .ok (.getfield 9, 3) := by decide +kernel
theorem dX3_answerStart_24 : decode cX3_answerStart 24 = .ok (.iload_n 2, 1) := by decide +kernel
theorem dX3_answerStart_25 : decode cX3_answerStart 25 = .ok (.iaload, 1) := by decide +kernel
theorem dX3_answerStart_26 : decode cX3_answerStart 26 = .ok (.ifCond .eq 11, 3) := by decide +kernel
theorem dX3_answerStart_29 : decode cX3_answerStart 29 = .ok (.aload_n 0, 1) := by decide +kernel
theorem dX3_answerStart_30 : decode cX3_answerStart 30 = .ok (.iload_n 2, 1) := by decide +kernel
theorem dX3_answerStart_31 : decode cX3_answerStart 31 = .ok (.invokevirtual 67, 3) := by decide +kernel
theorem dX3_answerStart_34 : decode cX3_answerStart 34 = .ok (.ifCond .eq 5, 3) := by decide +kernel
theorem dX3_answerStart_37 : decode cX3_answerStart 37 = .ok (.iload_n 2, 1) := by decide +kernel
theorem dX3_answerStart_38 : decode cX3_answerStart 38 = .ok (.ireturn, 1) := by decide +kernel
theorem dX3_answerStart_39 : decode cX3_answerStart 39 = .ok (.iinc 2 (-1), 3) := by decide +kernel
theorem dX3_answerStart_42 : decode cX3_answerStart 42 = .ok (.goto (-35), 3) := by decide +kernel
theorem dX3_answerStart_45 : decode cX3_answerStart 45 = .ok (.iconst (-1), 1) := by decide +kernel
theorem dX3_answerStart_46 : decode cX3_answerStart 46 = .ok (.ireturn, 1) := by decide +kernel
theorem dX3_beginsAnew_0 : decode cX3_beginsAnew 0 = .ok (.aload_n 0, 1) := by decide +kernel
theorem dX3_beginsAnew_1 : decode cX3_beginsAnew 1 = .ok (.getfield 9, 3) := by decide +kernel
theorem dX3_beginsAnew_4 : decode cX3_beginsAnew 4 = .ok (.iload_n 1, 1) := by decide +kernel
theorem dX3_beginsAnew_5 : decode cX3_beginsAnew 5 = .ok (.iaload, 1) := by decide +kernel
theorem dX3_beginsAnew_6 : decode cX3_beginsAnew 6 = .ok (.bipush 6, 2) := by decide +kernel
theorem dX3_beginsAnew_8 : decode cX3_beginsAnew 8 = .ok (.if_icmp .ne 24, 3) := by decide +kernel
theorem dX3_beginsAnew_11 : decode cX3_beginsAnew 11 = .ok (.aload_n 0, 1) := by decide +kernel
theorem dX3_beginsAnew_12 : decode cX3_beginsAnew 12 = .ok (.getfield 9, 3) := by decide +kernel
theorem dX3_beginsAnew_15 : decode cX3_beginsAnew 15 = .ok (.aload_n 0, 1) := by decide +kernel
theorem dX3_beginsAnew_16 : decode cX3_beginsAnew 16 = .ok (.getfield 21, 3) := by decide +kernel
theorem dX3_beginsAnew_19 : decode cX3_beginsAnew 19 = .ok (.iload_n 1, 1) := by decide +kernel
theorem dX3_beginsAnew_20 : decode cX3_beginsAnew 20 = .ok (.iaload, 1) := by decide +kernel
theorem dX3_beginsAnew_21 : decode cX3_beginsAnew 21 = .ok (.iaload, 1) := by decide +kernel
theorem dX3_beginsAnew_22 : decode cX3_beginsAnew 22 = .ok (.iconst 4, 1) := by decide +kernel
theorem dX3_beginsAnew_23 : decode cX3_beginsAnew 23 = .ok (.if_icmp .ne 7, 3) := by decide +kernel
theorem dX3_beginsAnew_26 : decode cX3_beginsAnew 26 = .ok (.iconst 1, 1) := by decide +kernel
theorem dX3_beginsAnew_27 : decode cX3_beginsAnew 27 = .ok (.goto 4, 3) := by decide +kernel
theorem dX3_beginsAnew_30 : decode cX3_beginsAnew 30 = .ok (.iconst 0, 1) := by decide +kernel
theorem dX3_beginsAnew_31 : decode cX3_beginsAnew 31 = .ok (.ireturn, 1) := by decide +kernel
theorem dX3_beginsAnew_32 : decode cX3_beginsAnew 32 = .ok (.aload_n 0, 1) := by decide +kernel
theorem dX3_beginsAnew_33 : decode cX3_beginsAnew 33 = .ok (.getfield 9, 3) := by decide +kernel
theorem dX3_beginsAnew_36 : decode cX3_beginsAnew 36 = .ok (.iload_n 1, 1) := by decide +kernel
theorem dX3_beginsAnew_37 : decode cX3_beginsAnew 37 = .ok (.iaload, 1) := by decide +kernel
theorem dX3_beginsAnew_38 : decode cX3_beginsAnew 38 = .ok (.iconst 4, 1) := by decide +kernel
theorem dX3_beginsAnew_39 : decode cX3_beginsAnew 39 = .ok (.if_icmp .ne 16, 3) := by decide +kernel
theorem dX3_beginsAnew_42 : decode cX3_beginsAnew 42 = .ok (.aload_n 0, 1) := by decide +kernel
theorem dX3_beginsAnew_43 : decode cX3_beginsAnew 43 = .ok (.getfield 21, 3) := by decide +kernel
theorem dX3_beginsAnew_46 : decode cX3_beginsAnew 46 = .ok (.iload_n 1, 1) := by decide +kernel
theorem dX3_beginsAnew_47 : decode cX3_beginsAnew 47 = .ok (.iaload, 1) := by decide +kernel
theorem dX3_beginsAnew_48 : decode cX3_beginsAnew 48 = .ok (.ifCond .eq 7, 3) := by decide +kernel
theorem dX3_beginsAnew_51 : decode cX3_beginsAnew 51 = .ok (.iconst 1, 1) := by decide +kernel
theorem dX3_beginsAnew_52 : decode cX3_beginsAnew 52 = .ok (.goto 4, 3) := by decide +kernel
theorem dX3_beginsAnew_55 : decode cX3_beginsAnew 55 = .ok (.iconst 0, 1) := by decide +kernel
theorem dX3_beginsAnew_56 : decode cX3_beginsAnew 56 = .ok (.ireturn, 1) := by decide +kernel
theorem dX3_appealStart_0 : decode cX3_appealStart 0 = .ok (.aload_n 0, 1) := by decide +kernel
theorem dX3_appealStart_1 : decode cX3_appealStart 1 = .ok (.iconst 5, 1) := by decide +kernel
theorem dX3_appealStart_2 : decode cX3_appealStart 2 = .ok (.iload_n 1, 1) := by decide +kernel
theorem dX3_appealStart_3 : decode cX3_appealStart 3 = .ok (.invokevirtual 70, 3) := by decide +kernel
theorem dX3_appealStart_6 : decode cX3_appealStart 6 = .ok (.aload_n 0, 1) := by decide +kernel
theorem dX3_appealStart_7 : decode cX3_appealStart 7 = .ok (.bipush 8, 2) := by decide +kernel
theorem dX3_appealStart_9 : decode cX3_appealStart 9 = .ok (.iload_n 1, 1) := by decide +kernel
theorem dX3_appealStart_10 : decode cX3_appealStart 10 = .ok (.invokevirtual 70, 3) := by decide +kernel
theorem dX3_appealStart_13 : decode cX3_appealStart 13 = .ok (.invokestatic 74, 3) := by decide +kernel
theorem dX3_appealStart_16 : decode cX3_appealStart 16 = .ok (.ireturn, 1) := by decide +kernel
theorem dX4_init_0 : decode cX4_init 0 = .ok (.aload_n 0, 1) := by decide +kernel
theorem dX4_init_1 : decode cX4_init 1 = .ok (.invokespecial 3, 3) := by decide +kernel
theorem dX4_init_4 : decode cX4_init 4 = .ok (.aload_n 0, 1) := by decide +kernel
theorem dX4_init_5 : decode cX4_init 5 = .ok (.bipush 12, 2) := by decide +kernel
theorem dX4_init_7 : decode cX4_init 7 = .ok (.newarray .int, 2) := by decide +kernel
theorem dX4_init_9 : decode cX4_init 9 = .ok (.putfield 9, 3) := by decide +kernel
theorem dX4_init_12 : decode cX4_init 12 = .ok (.aload_n 0, 1) := by decide +kernel
theorem dX4_init_13 : decode cX4_init 13 = .ok (.bipush 12, 2) := by decide +kernel
theorem dX4_init_15 : decode cX4_init 15 = .ok (.newarray .boolean, 2) := by decide +kernel
theorem dX4_init_17 : decode cX4_init 17 = .ok (.putfield 15, 3) := by decide +kernel
theorem dX4_init_20 : decode cX4_init 20 = .ok (.aload_n 0, 1) := by decide +kernel
theorem dX4_init_21 : decode cX4_init 21 = .ok (.bipush 12, 2) := by decide +kernel
theorem dX4_init_23 : decode cX4_init 23 = .ok (.iconst 2, 1) := by decide +kernel
theorem dX4_init_24 : decode cX4_init 24 = .ok (.multianewarray 19 2, 4) := by decide +kernel
theorem dX4_init_28 : decode cX4_init 28 = .ok (.putfield 21, 3) := by decide +kernel
theorem dX4_init_31 : decode cX4_init 31 = .ok (.return_, 1) := by decide +kernel
theorem dX4_add_0 : decode cX4_add 0 = .ok (.aload_n 0, 1) := by decide +kernel
theorem dX4_add_1 : decode cX4_add 1 = .ok (.getfield 24, 3) := by decide +kernel
theorem dX4_add_4 : decode cX4_add 4 = .ok (.istore_n 2, 1) := by decide +kernel
theorem dX4_add_5 : decode cX4_add 5 = .ok (.aload_n 0, 1) := by decide +kernel
theorem dX4_add_6 : decode cX4_add 6 = .ok (.getfield 9, 3) := by decide +kernel
theorem dX4_add_9 : decode cX4_add 9 = .ok (.iload_n 2, 1) := by decide +kernel
theorem dX4_add_10 : decode cX4_add 10 = .ok (.iload_n 1, 1) := by decide +kernel
theorem dX4_add_11 : decode cX4_add 11 = .ok (.iastore, 1) := by decide +kernel
theorem dX4_add_12 : decode cX4_add 12 = .ok (.aload_n 0, 1) := by decide +kernel
theorem dX4_add_13 : decode cX4_add 13 = .ok (.dup, 1) := by decide +kernel
theorem dX4_add_14 : decode cX4_add 14 = .ok (.getfield 24, 3) := by decide +kernel
theorem dX4_add_17 : decode cX4_add 17 = .ok (.iconst 1, 1) := by decide +kernel
theorem dX4_add_18 : decode cX4_add 18 = .ok (.iadd, 1) := by decide +kernel
theorem dX4_add_19 : decode cX4_add 19 = .ok (.putfield 24, 3) := by decide +kernel
theorem dX4_add_22 : decode cX4_add 22 = .ok (.iload_n 2, 1) := by decide +kernel
theorem dX4_add_23 : decode cX4_add 23 = .ok (.ireturn, 1) := by decide +kernel
theorem dX4_isOpposed_0 : decode cX4_isOpposed 0 = .ok (.iconst 0, 1) := by decide +kernel
theorem dX4_isOpposed_1 : decode cX4_isOpposed 1 = .ok (.istore_n 2, 1) := by decide +kernel
theorem dX4_isOpposed_2 : decode cX4_isOpposed 2 = .ok (.iload_n 2, 1) := by decide +kernel
theorem dX4_isOpposed_3 : decode cX4_isOpposed 3 = .ok (.iconst 2, 1) := by decide +kernel
theorem dX4_isOpposed_4 : decode cX4_isOpposed 4 = .ok (.if_icmp .ge 30, 3) := by decide +kernel
theorem dX4_isOpposed_7 : decode cX4_isOpposed 7 = .ok (.aload_n 0, 1) := by decide +kernel
theorem dX4_isOpposed_8 : decode cX4_isOpposed 8 = .ok (.getfield 21, 3) := by decide +kernel
theorem dX4_isOpposed_11 : decode cX4_isOpposed 11 = .ok (.iload_n 1, 1) := by decide +kernel
theorem dX4_isOpposed_12 : decode cX4_isOpposed 12 = .ok (.aaload, 1) := by decide +kernel
theorem dX4_isOpposed_13 : decode cX4_isOpposed 13 = .ok (.iload_n 2, 1) := by decide +kernel
theorem dX4_isOpposed_14 : decode cX4_isOpposed 14 = .ok (.iaload, 1) := by decide +kernel
theorem dX4_isOpposed_15 : decode cX4_isOpposed 15 = .ok (.istore_n 3, 1) := by decide +kernel
theorem dX4_isOpposed_16 : decode cX4_isOpposed 16 = .ok (.iload_n 3, 1) := by decide +kernel
theorem dX4_isOpposed_17 : decode cX4_isOpposed 17 = .ok (.iconst 1, 1) := by decide +kernel
theorem dX4_isOpposed_18 : decode cX4_isOpposed 18 = .ok (.if_icmp .eq 8, 3) := by decide +kernel
theorem dX4_isOpposed_21 : decode cX4_isOpposed 21 = .ok (.iload_n 3, 1) := by decide +kernel
theorem dX4_isOpposed_22 : decode cX4_isOpposed 22 = .ok (.iconst 2, 1) := by decide +kernel
theorem dX4_isOpposed_23 : decode cX4_isOpposed 23 = .ok (.if_icmp .ne 5, 3) := by decide +kernel
theorem dX4_isOpposed_26 : decode cX4_isOpposed 26 = .ok (.iconst 1, 1) := by decide +kernel
theorem dX4_isOpposed_27 : decode cX4_isOpposed 27 = .ok (.ireturn, 1) := by decide +kernel
theorem dX4_isOpposed_28 : decode cX4_isOpposed 28 = .ok (.iinc 2 1, 3) := by decide +kernel
theorem dX4_isOpposed_31 : decode cX4_isOpposed 31 = .ok (.goto (-29), 3) := by decide +kernel
theorem dX4_isOpposed_34 : decode cX4_isOpposed 34 = .ok (.iconst 0, 1) := by decide +kernel
theorem dX4_isOpposed_35 : decode cX4_isOpposed 35 = .ok (.ireturn, 1) := by decide +kernel
theorem dX5_init_0 : decode cX5_init 0 = .ok (.aload_n 0, 1) := by decide +kernel
theorem dX5_init_1 : decode cX5_init 1 = .ok (.invokespecial 3, 3) := by decide +kernel
theorem dX5_init_4 : decode cX5_init 4 = .ok (.aload_n 0, 1) := by decide +kernel
theorem dX5_init_5 : decode cX5_init 5 = .ok (.bipush 40, 2) := by decide +kernel
theorem dX5_init_7 : decode cX5_init 7 = .ok (.newarray .int, 2) := by decide +kernel
theorem dX5_init_9 : decode cX5_init 9 = .ok (.putfield 9, 3) := by decide +kernel
theorem dX5_init_12 : decode cX5_init 12 = .ok (.aload_n 0, 1) := by decide +kernel
theorem dX5_init_13 : decode cX5_init 13 = .ok (.bipush 40, 2) := by decide +kernel
theorem dX5_init_15 : decode cX5_init 15 = .ok (.newarray .int, 2) := by decide +kernel
theorem dX5_init_17 : decode cX5_init 17 = .ok (.putfield 15, 3) := by decide +kernel
theorem dX5_init_20 : decode cX5_init 20 = .ok (.aload_n 0, 1) := by decide +kernel
theorem dX5_init_21 : decode cX5_init 21 = .ok (.bipush 40, 2) := by decide +kernel
theorem dX5_init_23 : decode cX5_init 23 = .ok (.newarray .int, 2) := by decide +kernel
theorem dX5_init_25 : decode cX5_init 25 = .ok (.putfield 18, 3) := by decide +kernel
theorem dX5_init_28 : decode cX5_init 28 = .ok (.return_, 1) := by decide +kernel
theorem dX5_add_0 : decode cX5_add 0 = .ok (.aload_n 0, 1) := by decide +kernel
theorem dX5_add_1 : decode cX5_add 1 = .ok (.getfield 21, 3) := by decide +kernel
theorem dX5_add_4 : decode cX5_add 4 = .ok (.istore 4, 2) := by decide +kernel
theorem dX5_add_6 : decode cX5_add 6 = .ok (.aload_n 0, 1) := by decide +kernel
theorem dX5_add_7 : decode cX5_add 7 = .ok (.getfield 9, 3) := by decide +kernel
theorem dX5_add_10 : decode cX5_add 10 = .ok (.iload 4, 2) := by decide +kernel
theorem dX5_add_12 : decode cX5_add 12 = .ok (.iload_n 1, 1) := by decide +kernel
theorem dX5_add_13 : decode cX5_add 13 = .ok (.iastore, 1) := by decide +kernel
theorem dX5_add_14 : decode cX5_add 14 = .ok (.aload_n 0, 1) := by decide +kernel
theorem dX5_add_15 : decode cX5_add 15 = .ok (.getfield 15, 3) := by decide +kernel
theorem dX5_add_18 : decode cX5_add 18 = .ok (.iload 4, 2) := by decide +kernel
theorem dX5_add_20 : decode cX5_add 20 = .ok (.iload_n 2, 1) := by decide +kernel
theorem dX5_add_21 : decode cX5_add 21 = .ok (.iastore, 1) := by decide +kernel
theorem dX5_add_22 : decode cX5_add 22 = .ok (.aload_n 0, 1) := by decide +kernel
theorem dX5_add_23 : decode cX5_add 23 = .ok (.getfield 18, 3) := by decide +kernel
theorem dX5_add_26 : decode cX5_add 26 = .ok (.iload 4, 2) := by decide +kernel
theorem dX5_add_28 : decode cX5_add 28 = .ok (.iload_n 3, 1) := by decide +kernel
theorem dX5_add_29 : decode cX5_add 29 = .ok (.iastore, 1) := by decide +kernel
theorem dX5_add_30 : decode cX5_add 30 = .ok (.aload_n 0, 1) := by decide +kernel
theorem dX5_add_31 : decode cX5_add 31 = .ok (.dup, 1) := by decide +kernel
theorem dX5_add_32 : decode cX5_add 32 = .ok (.getfield 21, 3) := by decide +kernel
theorem dX5_add_35 : decode cX5_add 35 = .ok (.iconst 1, 1) := by decide +kernel
theorem dX5_add_36 : decode cX5_add 36 = .ok (.iadd, 1) := by decide +kernel
theorem dX5_add_37 : decode cX5_add 37 = .ok (.putfield 21, 3) := by decide +kernel
theorem dX5_add_40 : decode cX5_add 40 = .ok (.iload 4, 2) := by decide +kernel
theorem dX5_add_42 : decode cX5_add 42 = .ok (.ireturn, 1) := by decide +kernel
theorem dX6_init_0 : decode cX6_init 0 = .ok (.aload_n 0, 1) := by decide +kernel
theorem dX6_init_1 : decode cX6_init 1 = .ok (.invokespecial 3, 3) := by decide +kernel
theorem dX6_init_4 : decode cX6_init 4 = .ok (.aload_n 0, 1) := by decide +kernel
theorem dX6_init_5 : decode cX6_init 5 = .ok (.bipush 8, 2) := by decide +kernel
theorem dX6_init_7 : decode cX6_init 7 = .ok (.newarray .int, 2) := by decide +kernel
theorem dX6_init_9 : decode cX6_init 9 = .ok (.putfield 9, 3) := by decide +kernel
theorem dX6_init_12 : decode cX6_init 12 = .ok (.aload_n 0, 1) := by decide +kernel
theorem dX6_init_13 : decode cX6_init 13 = .ok (.bipush 8, 2) := by decide +kernel
theorem dX6_init_15 : decode cX6_init 15 = .ok (.newarray .int, 2) := by decide +kernel
theorem dX6_init_17 : decode cX6_init 17 = .ok (.putfield 15, 3) := by decide +kernel
theorem dX6_init_20 : decode cX6_init 20 = .ok (.aload_n 0, 1) := by decide +kernel
theorem dX6_init_21 : decode cX6_init 21 = .ok (.bipush 8, 2) := by decide +kernel
theorem dX6_init_23 : decode cX6_init 23 = .ok (.bipush 8, 2) := by decide +kernel
theorem dX6_init_25 : decode cX6_init 25 = .ok (.multianewarray 18 2, 4) := by decide +kernel
theorem dX6_init_29 : decode cX6_init 29 = .ok (.putfield 20, 3) := by decide +kernel
theorem dX6_init_32 : decode cX6_init 32 = .ok (.aload_n 0, 1) := by decide +kernel
theorem dX6_init_33 : decode cX6_init 33 = .ok (.bipush 8, 2) := by decide +kernel
theorem dX6_init_35 : decode cX6_init 35 = .ok (.newarray .int, 2) := by decide +kernel
theorem dX6_init_37 : decode cX6_init 37 = .ok (.putfield 23, 3) := by decide +kernel
theorem dX6_init_40 : decode cX6_init 40 = .ok (.return_, 1) := by decide +kernel
theorem dX6_isDone_0 : decode cX6_isDone 0 = .ok (.aload_n 0, 1) := by decide +kernel
theorem dX6_isDone_1 : decode cX6_isDone 1 = .ok (.getfield 9, 3) := by decide +kernel
theorem dX6_isDone_4 : decode cX6_isDone 4 = .ok (.iload_n 1, 1) := by decide +kernel
theorem dX6_isDone_5 : decode cX6_isDone 5 = .ok (.iaload, 1) := by decide +kernel
theorem dX6_isDone_6 : decode cX6_isDone 6 = .ok (.bipush 6, 2) := by decide +kernel
theorem dX6_isDone_8 : decode cX6_isDone 8 = .ok (.if_icmp .lt 7, 3) := by decide +kernel
theorem dX6_isDone_11 : decode cX6_isDone 11 = .ok (.iconst 1, 1) := by decide +kernel
theorem dX6_isDone_12 : decode cX6_isDone 12 = .ok (.goto 4, 3) := by decide +kernel
theorem dX6_isDone_15 : decode cX6_isDone 15 = .ok (.iconst 0, 1) := by decide +kernel
theorem dX6_isDone_16 : decode cX6_isDone 16 = .ok (.ireturn, 1) := by decide +kernel
theorem dX6_turn_0 : decode cX6_turn 0 = .ok (.aload_n 0, 1) := by decide +kernel
theorem dX6_turn_1 : decode cX6_turn 1 = .ok (.getfield 9, 3) := by decide +kernel
theorem dX6_turn_4 : decode cX6_turn 4 = .ok (.iload_n 1, 1) := by decide +kernel
theorem dX6_turn_5 : decode cX6_turn 5 = .ok (.iaload, 1) := by decide +kernel
theorem dX6_turn_6 : decode cX6_turn 6 = .ok (.iconst 2, 1) := by decide +kernel
theorem dX6_turn_7 : decode cX6_turn 7 = .ok (.irem, 1) := by decide +kernel
theorem dX6_turn_8 : decode cX6_turn 8 = .ok (.ireturn, 1) := by decide +kernel
theorem dX6_isStruck_0 : decode cX6_isStruck 0 = .ok (.aload_n 0, 1) := by decide +kernel
theorem dX6_isStruck_1 : decode cX6_isStruck 1 = .ok (.getfield 15, 3) := by decide +kernel
theorem dX6_isStruck_4 : decode cX6_isStruck 4 = .ok (.iload_n 1, 1) := by decide +kernel
theorem dX6_isStruck_5 : decode cX6_isStruck 5 = .ok (.iaload, 1) := by decide +kernel
theorem dX6_isStruck_6 : decode cX6_isStruck 6 = .ok (.iload_n 2, 1) := by decide +kernel
theorem dX6_isStruck_7 : decode cX6_isStruck 7 = .ok (.ishr, 1) := by decide +kernel
theorem dX6_isStruck_8 : decode cX6_isStruck 8 = .ok (.iconst 1, 1) := by decide +kernel
theorem dX6_isStruck_9 : decode cX6_isStruck 9 = .ok (.iand, 1) := by decide +kernel
theorem dX6_isStruck_10 : decode cX6_isStruck 10 = .ok (.iconst 1, 1) := by decide +kernel
theorem dX6_isStruck_11 : decode cX6_isStruck 11 = .ok (.if_icmp .ne 7, 3) := by decide +kernel
theorem dX6_isStruck_14 : decode cX6_isStruck 14 = .ok (.iconst 1, 1) := by decide +kernel
theorem dX6_isStruck_15 : decode cX6_isStruck 15 = .ok (.goto 4, 3) := by decide +kernel
theorem dX6_isStruck_18 : decode cX6_isStruck 18 = .ok (.iconst 0, 1) := by decide +kernel
theorem dX6_isStruck_19 : decode cX6_isStruck 19 = .ok (.ireturn, 1) := by decide +kernel
theorem dX6_addStrike_0 : decode cX6_addStrike 0 = .ok (.aload_n 0, 1) := by decide +kernel
theorem dX6_addStrike_1 : decode cX6_addStrike 1 = .ok (.getfield 15, 3) := by decide +kernel
theorem dX6_addStrike_4 : decode cX6_addStrike 4 = .ok (.iload_n 1, 1) := by decide +kernel
theorem dX6_addStrike_5 : decode cX6_addStrike 5 = .ok (.dup2, 1) := by decide +kernel
theorem dX6_addStrike_6 : decode cX6_addStrike 6 = .ok (.iaload, 1) := by decide +kernel
theorem dX6_addStrike_7 : decode cX6_addStrike 7 = .ok (.iconst 1, 1) := by decide +kernel
theorem dX6_addStrike_8 : decode cX6_addStrike 8 = .ok (.iload_n 2, 1) := by decide +kernel
theorem dX6_addStrike_9 : decode cX6_addStrike 9 = .ok (.ishl, 1) := by decide +kernel
theorem dX6_addStrike_10 : decode cX6_addStrike 10 = .ok (.ior, 1) := by decide +kernel
theorem dX6_addStrike_11 : decode cX6_addStrike 11 = .ok (.iastore, 1) := by decide +kernel
theorem dX6_addStrike_12 : decode cX6_addStrike 12 = .ok (.aload_n 0, 1) := by decide +kernel
theorem dX6_addStrike_13 : decode cX6_addStrike 13 = .ok (.getfield 9, 3) := by decide +kernel
theorem dX6_addStrike_16 : decode cX6_addStrike 16 = .ok (.iload_n 1, 1) := by decide +kernel
theorem dX6_addStrike_17 : decode cX6_addStrike 17 = .ok (.dup2, 1) := by decide +kernel
theorem dX6_addStrike_18 : decode cX6_addStrike 18 = .ok (.iaload, 1) := by decide +kernel
theorem dX6_addStrike_19 : decode cX6_addStrike 19 = .ok (.iconst 1, 1) := by decide +kernel
theorem dX6_addStrike_20 : decode cX6_addStrike 20 = .ok (.iadd, 1) := by decide +kernel
theorem dX6_addStrike_21 : decode cX6_addStrike 21 = .ok (.iastore, 1) := by decide +kernel
theorem dX6_addStrike_22 : decode cX6_addStrike 22 = .ok (.aload_n 0, 1) := by decide +kernel
theorem dX6_addStrike_23 : decode cX6_addStrike 23 = .ok (.iload_n 1, 1) := by decide +kernel
theorem dX6_addStrike_24 : decode cX6_addStrike 24 = .ok (.invokevirtual 26, 3) := by decide +kernel
theorem dX6_addStrike_27 : decode cX6_addStrike 27 = .ok (.ifCond .eq 8, 3) := by decide +kernel
theorem dX6_addStrike_30 : decode cX6_addStrike 30 = .ok (.aload_n 0, 1) := by decide +kernel
theorem dX6_addStrike_31 : decode cX6_addStrike 31 = .ok (.iload_n 1, 1) := by decide +kernel
theorem dX6_addStrike_32 : decode cX6_addStrike 32 = .ok (.invokevirtual 30, 3) := by decide +kernel
theorem dX6_addStrike_35 : decode cX6_addStrike 35 = .ok (.return_, 1) := by decide +kernel
theorem dX6_fillPlaces_0 : decode cX6_fillPlaces 0 = .ok (.iconst 0, 1) := by decide +kernel
theorem dX6_fillPlaces_1 : decode cX6_fillPlaces 1 = .ok (.istore_n 2, 1) := by decide +kernel
theorem dX6_fillPlaces_2 : decode cX6_fillPlaces 2 = .ok (.iconst 0, 1) := by decide +kernel
theorem dX6_fillPlaces_3 : decode cX6_fillPlaces 3 = .ok (.istore_n 3, 1) := by decide +kernel
theorem dX6_fillPlaces_4 : decode cX6_fillPlaces 4 = .ok (.iload_n 3, 1) := by decide +kernel
theorem dX6_fillPlaces_5 : decode cX6_fillPlaces 5 = .ok (.bipush 14, 2) := by decide +kernel
theorem dX6_fillPlaces_7 : decode cX6_fillPlaces 7 = .ok (.if_icmp .ge 36, 3) := by decide +kernel
theorem dX6_fillPlaces_10 : decode cX6_fillPlaces 10 = .ok (.iload_n 2, 1) := by decide +kernel
theorem dX6_fillPlaces_11 : decode cX6_fillPlaces 11 = .ok (.bipush 8, 2) := by decide +kernel
theorem dX6_fillPlaces_13 : decode cX6_fillPlaces 13 = .ok (.if_icmp .ge 30, 3) := by decide +kernel
theorem dX6_fillPlaces_16 : decode cX6_fillPlaces 16 = .ok (.aload_n 0, 1) := by decide +kernel
theorem dX6_fillPlaces_17 : decode cX6_fillPlaces 17 = .ok (.iload_n 1, 1) := by decide +kernel
theorem dX6_fillPlaces_18 : decode cX6_fillPlaces 18 = .ok (.iload_n 3, 1) := by decide +kernel
theorem dX6_fillPlaces_19 : decode cX6_fillPlaces 19 = .ok (.invokevirtual 34, 3) := by decide +kernel
theorem dX6_fillPlaces_22 : decode cX6_fillPlaces 22 = .ok (.ifCond .ne 15, 3) := by decide +kernel
theorem dX6_fillPlaces_25 : decode cX6_fillPlaces 25 = .ok (.aload_n 0, 1) := by decide +kernel
theorem dX6_fillPlaces_26 : decode cX6_fillPlaces 26 = .ok (.getfield 20, 3) := by decide +kernel
theorem dX6_fillPlaces_29 : decode cX6_fillPlaces 29 = .ok (.iload_n 1, 1) := by decide +kernel
theorem dX6_fillPlaces_30 : decode cX6_fillPlaces 30 = .ok (.aaload, 1) := by decide +kernel
theorem dX6_fillPlaces_31 : decode cX6_fillPlaces 31 = .ok (.iload_n 2, 1) := by decide +kernel
theorem dX6_fillPlaces_32 : decode cX6_fillPlaces 32 = .ok (.iload_n 3, 1) := by decide +kernel
theorem dX6_fillPlaces_33 : decode cX6_fillPlaces 33 = .ok (.iastore, 1) := by decide +kernel
theorem dX6_fillPlaces_34 : decode cX6_fillPlaces 34 = .ok (.iinc 2 1, 3) := by decide +kernel
theorem dX6_fillPlaces_37 : decode cX6_fillPlaces 37 = .ok (.iinc 3 1, 3) := by decide +kernel
theorem dX6_fillPlaces_40 : decode cX6_fillPlaces 40 = .ok (.goto (-36), 3) := by decide +kernel
theorem dX6_fillPlaces_43 : decode cX6_fillPlaces 43 = .ok (.return_, 1) := by decide +kernel
theorem dX6_inSeat_0 : decode cX6_inSeat 0 = .ok (.aload_n 0, 1) := by decide +kernel
theorem dX6_inSeat_1 : decode cX6_inSeat 1 = .ok (.iload_n 1, 1) := by decide +kernel
theorem dX6_inSeat_2 : decode cX6_inSeat 2 = .ok (.invokevirtual 26, 3) := by decide +kernel
theorem dX6_inSeat_5 : decode cX6_inSeat 5 = .ok (.ifCond .eq 14, 3) := by decide +kernel
theorem dX6_inSeat_8 : decode cX6_inSeat 8 = .ok (.aload_n 0, 1) := by decide +kernel
theorem dX6_inSeat_9 : decode cX6_inSeat 9 = .ok (.getfield 20, 3) := by decide +kernel
theorem dX6_inSeat_12 : decode cX6_inSeat 12 = .ok (.iload_n 1, 1) := by decide +kernel
theorem dX6_inSeat_13 : decode cX6_inSeat 13 = .ok (.aaload, 1) := by decide +kernel
theorem dX6_inSeat_14 : decode cX6_inSeat 14 = .ok (.iload_n 2, 1) := by decide +kernel
theorem dX6_inSeat_15 : decode cX6_inSeat 15 = .ok (.iaload, 1) := by decide +kernel
theorem dX6_inSeat_16 : decode cX6_inSeat 16 = .ok (.goto 4, 3) := by decide +kernel
theorem dX6_inSeat_19 : decode cX6_inSeat 19 = .ok (.iconst (-1), 1) := by decide +kernel
theorem dX6_inSeat_20 : decode cX6_inSeat 20 = .ok (.ireturn, 1) := by decide +kernel
theorem dX6_nextAlternate_0 : decode cX6_nextAlternate 0 = .ok (.aload_n 0, 1) := by decide +kernel
theorem dX6_nextAlternate_1 : decode cX6_nextAlternate 1 = .ok (.iload_n 1, 1) := by decide +kernel
theorem dX6_nextAlternate_2 : decode cX6_nextAlternate 2 = .ok (.invokevirtual 26, 3) := by decide +kernel
theorem dX6_nextAlternate_5 : decode cX6_nextAlternate 5 = .ok (.ifCond .eq 13, 3) := by decide +kernel
theorem dX6_nextAlternate_8 : decode cX6_nextAlternate 8 = .ok (.aload_n 0, 1) := by decide +kernel
theorem dX6_nextAlternate_9 : decode cX6_nextAlternate 9 = .ok (.getfield 23, 3) := by decide +kernel
theorem dX6_nextAlternate_12 : decode cX6_nextAlternate 12 = .ok (.iload_n 1, 1) := by decide +kernel
theorem dX6_nextAlternate_13 : decode cX6_nextAlternate 13 = .ok (.iaload, 1) := by decide +kernel
theorem dX6_nextAlternate_14 : decode cX6_nextAlternate 14 = .ok (.iconst 2, 1) := by decide +kernel
theorem dX6_nextAlternate_15 : decode cX6_nextAlternate 15 = .ok (.if_icmp .lt 5, 3) := by decide +kernel
theorem dX6_nextAlternate_18 : decode cX6_nextAlternate 18 = .ok (.iconst (-1), 1) := by decide +kernel
theorem dX6_nextAlternate_19 : decode cX6_nextAlternate 19 = .ok (.ireturn, 1) := by decide +kernel
theorem dX6_nextAlternate_20 : decode cX6_nextAlternate 20 = .ok (.aload_n 0, 1) := by decide +kernel
theorem dX6_nextAlternate_21 : decode cX6_nextAlternate 21 = .ok (.getfield 20, 3) := by decide +kernel
theorem dX6_nextAlternate_24 : decode cX6_nextAlternate 24 = .ok (.iload_n 1, 1) := by decide +kernel
theorem dX6_nextAlternate_25 : decode cX6_nextAlternate 25 = .ok (.aaload, 1) := by decide +kernel
theorem dX6_nextAlternate_26 : decode cX6_nextAlternate 26 = .ok (.bipush 6, 2) := by decide +kernel
theorem dX6_nextAlternate_28 : decode cX6_nextAlternate 28 = .ok (.aload_n 0, 1) := by decide +kernel
theorem dX6_nextAlternate_29 : decode cX6_nextAlternate 29 = .ok (.getfield 23, 3) := by decide +kernel
theorem dX6_nextAlternate_32 : decode cX6_nextAlternate 32 = .ok (.iload_n 1, 1) := by decide +kernel
theorem dX6_nextAlternate_33 : decode cX6_nextAlternate 33 = .ok (.iaload, 1) := by decide +kernel
theorem dX6_nextAlternate_34 : decode cX6_nextAlternate 34 = .ok (.iadd, 1) := by decide +kernel
theorem dX6_nextAlternate_35 : decode cX6_nextAlternate 35 = .ok (.iaload, 1) := by decide +kernel
theorem dX6_nextAlternate_36 : decode cX6_nextAlternate 36 = .ok (.ireturn, 1) := by decide +kernel
theorem dX6_placeOf_0 : decode cX6_placeOf 0 = .ok (.iconst 0, 1) := by decide +kernel
theorem dX6_placeOf_1 : decode cX6_placeOf 1 = .ok (.istore_n 3, 1) := by decide +kernel
theorem dX6_placeOf_2 : decode cX6_placeOf 2 = .ok (.iload_n 3, 1) := by decide +kernel
theorem dX6_placeOf_3 : decode cX6_placeOf 3 = .ok (.bipush 6, 2) := by decide +kernel
theorem dX6_placeOf_5 : decode cX6_placeOf 5 = .ok (.if_icmp .ge 21, 3) := by decide +kernel
theorem dX6_placeOf_8 : decode cX6_placeOf 8 = .ok (.aload_n 0, 1) := by decide +kernel
theorem dX6_placeOf_9 : decode cX6_placeOf 9 = .ok (.iload_n 1, 1) := by decide +kernel
theorem dX6_placeOf_10 : decode cX6_placeOf 10 = .ok (.iload_n 3, 1) := by decide +kernel
theorem dX6_placeOf_11 : decode cX6_placeOf 11 = .ok (.invokevirtual 38, 3) := by decide +kernel
theorem dX6_placeOf_14 : decode cX6_placeOf 14 = .ok (.iload_n 2, 1) := by decide +kernel
theorem dX6_placeOf_15 : decode cX6_placeOf 15 = .ok (.if_icmp .ne 5, 3) := by decide +kernel
theorem dX6_placeOf_18 : decode cX6_placeOf 18 = .ok (.iload_n 3, 1) := by decide +kernel
theorem dX6_placeOf_19 : decode cX6_placeOf 19 = .ok (.ireturn, 1) := by decide +kernel
theorem dX6_placeOf_20 : decode cX6_placeOf 20 = .ok (.iinc 3 1, 3) := by decide +kernel
theorem dX6_placeOf_23 : decode cX6_placeOf 23 = .ok (.goto (-21), 3) := by decide +kernel
theorem dX6_placeOf_26 : decode cX6_placeOf 26 = .ok (.iconst (-1), 1) := by decide +kernel
theorem dX6_placeOf_27 : decode cX6_placeOf 27 = .ok (.ireturn, 1) := by decide +kernel
theorem dX6_reseat_0 : decode cX6_reseat 0 = .ok (.aload_n 0, 1) := by decide +kernel
theorem dX6_reseat_1 : decode cX6_reseat 1 = .ok (.getfield 20, 3) := by decide +kernel
theorem dX6_reseat_4 : decode cX6_reseat 4 = .ok (.iload_n 1, 1) := by decide +kernel
theorem dX6_reseat_5 : decode cX6_reseat 5 = .ok (.aaload, 1) := by decide +kernel
theorem dX6_reseat_6 : decode cX6_reseat 6 = .ok (.iload_n 2, 1) := by decide +kernel
theorem dX6_reseat_7 : decode cX6_reseat 7 = .ok (.iload_n 3, 1) := by decide +kernel
theorem dX6_reseat_8 : decode cX6_reseat 8 = .ok (.iastore, 1) := by decide +kernel
theorem dX6_reseat_9 : decode cX6_reseat 9 = .ok (.aload_n 0, 1) := by decide +kernel
theorem dX6_reseat_10 : decode cX6_reseat 10 = .ok (.getfield 23, 3) := by decide +kernel
theorem dX6_reseat_13 : decode cX6_reseat 13 = .ok (.iload_n 1, 1) := by decide +kernel
theorem dX6_reseat_14 : decode cX6_reseat 14 = .ok (.dup2, 1) := by decide +kernel
theorem dX6_reseat_15 : decode cX6_reseat 15 = .ok (.iaload, 1) := by decide +kernel
theorem dX6_reseat_16 : decode cX6_reseat 16 = .ok (.iconst 1, 1) := by decide +kernel
theorem dX6_reseat_17 : decode cX6_reseat 17 = .ok (.iadd, 1) := by decide +kernel
theorem dX6_reseat_18 : decode cX6_reseat 18 = .ok (.iastore, 1) := by decide +kernel
theorem dX6_reseat_19 : decode cX6_reseat 19 = .ok (.return_, 1) := by decide +kernel
theorem dX7_init_0 : decode cX7_init 0 = .ok (.aload_n 0, 1) := by decide +kernel
theorem dX7_init_1 : decode cX7_init 1 = .ok (.invokespecial 3, 3) := by decide +kernel
theorem dX7_init_4 : decode cX7_init 4 = .ok (.aload_n 0, 1) := by decide +kernel
theorem dX7_init_5 : decode cX7_init 5 = .ok (.sipush 512, 3) := by decide +kernel
theorem dX7_init_8 : decode cX7_init 8 = .ok (.newarray .int, 2) := by decide +kernel
theorem dX7_init_10 : decode cX7_init 10 = .ok (.putfield 9, 3) := by decide +kernel
theorem dX7_init_13 : decode cX7_init 13 = .ok (.aload_n 0, 1) := by decide +kernel
theorem dX7_init_14 : decode cX7_init 14 = .ok (.sipush 512, 3) := by decide +kernel
theorem dX7_init_17 : decode cX7_init 17 = .ok (.newarray .int, 2) := by decide +kernel
theorem dX7_init_19 : decode cX7_init 19 = .ok (.putfield 15, 3) := by decide +kernel
theorem dX7_init_22 : decode cX7_init 22 = .ok (.aload_n 0, 1) := by decide +kernel
theorem dX7_init_23 : decode cX7_init 23 = .ok (.sipush 512, 3) := by decide +kernel
theorem dX7_init_26 : decode cX7_init 26 = .ok (.newarray .boolean, 2) := by decide +kernel
theorem dX7_init_28 : decode cX7_init 28 = .ok (.putfield 18, 3) := by decide +kernel
theorem dX7_init_31 : decode cX7_init 31 = .ok (.return_, 1) := by decide +kernel
theorem dX7_isSealed_0 : decode cX7_isSealed 0 = .ok (.aload_n 0, 1) := by decide +kernel
theorem dX7_isSealed_1 : decode cX7_isSealed 1 = .ok (.getfield 22, 3) := by decide +kernel
theorem dX7_isSealed_4 : decode cX7_isSealed 4 = .ok (.iconst 1, 1) := by decide +kernel
theorem dX7_isSealed_5 : decode cX7_isSealed 5 = .ok (.isub, 1) := by decide +kernel
theorem dX7_isSealed_6 : decode cX7_isSealed 6 = .ok (.istore_n 3, 1) := by decide +kernel
theorem dX7_isSealed_7 : decode cX7_isSealed 7 = .ok (.iload_n 3, 1) := by decide +kernel
theorem dX7_isSealed_8 : decode cX7_isSealed 8 = .ok (.ifCond .lt 36, 3) := by decide +kernel
theorem dX7_isSealed_11 : decode cX7_isSealed 11 = .ok (.aload_n 0, 1) := by decide +kernel
theorem dX7_isSealed_12 : decode cX7_isSealed 12 = .ok (.getfield 9, 3) := by decide +kernel
theorem dX7_isSealed_15 : decode cX7_isSealed 15 = .ok (.iload_n 3, 1) := by decide +kernel
theorem dX7_isSealed_16 : decode cX7_isSealed 16 = .ok (.iaload, 1) := by decide +kernel
theorem dX7_isSealed_17 : decode cX7_isSealed 17 = .ok (.iload_n 1, 1) := by decide +kernel
theorem dX7_isSealed_18 : decode cX7_isSealed 18 = .ok (.if_icmp .ne 20, 3) := by decide +kernel
theorem dX7_isSealed_21 : decode cX7_isSealed 21 = .ok (.aload_n 0, 1) := by decide +kernel
theorem dX7_isSealed_22 : decode cX7_isSealed 22 = .ok (.getfield 15, 3) := by decide +kernel
theorem dX7_isSealed_25 : decode cX7_isSealed 25 = .ok (.iload_n 3, 1) := by decide +kernel
theorem dX7_isSealed_26 : decode cX7_isSealed 26 = .ok (.iaload, 1) := by decide +kernel
theorem dX7_isSealed_27 : decode cX7_isSealed 27 = .ok (.iload_n 2, 1) := by decide +kernel
theorem dX7_isSealed_28 : decode cX7_isSealed 28 = .ok (.if_icmp .gt 10, 3) := by decide +kernel
theorem dX7_isSealed_31 : decode cX7_isSealed 31 = .ok (.aload_n 0, 1) := by decide +kernel
theorem dX7_isSealed_32 : decode cX7_isSealed 32 = .ok (.getfield 18, 3) := by decide +kernel
theorem dX7_isSealed_35 : decode cX7_isSealed 35 = .ok (.iload_n 3, 1) := by decide +kernel
theorem dX7_isSealed_36 : decode cX7_isSealed 36 = .ok (.baload, 1) := by decide +kernel
theorem dX7_isSealed_37 : decode cX7_isSealed 37 = .ok (.ireturn, 1) := by decide +kernel
theorem dX7_isSealed_38 : decode cX7_isSealed 38 = .ok (.iinc 3 (-1), 3) := by decide +kernel
theorem dX7_isSealed_41 : decode cX7_isSealed 41 = .ok (.goto (-34), 3) := by decide +kernel
theorem dX7_isSealed_44 : decode cX7_isSealed 44 = .ok (.iconst 0, 1) := by decide +kernel
theorem dX7_isSealed_45 : decode cX7_isSealed 45 = .ok (.ireturn, 1) := by decide +kernel
theorem dX7_add_0 : decode cX7_add 0 = .ok (.aload_n 0, 1) := by decide +kernel
theorem dX7_add_1 : decode cX7_add 1 = .ok (.getfield 22, 3) := by decide +kernel
theorem dX7_add_4 : decode cX7_add 4 = .ok (.sipush 512, 3) := by decide +kernel
theorem dX7_add_7 : decode cX7_add 7 = .ok (.if_icmp .ge 43, 3) := by decide +kernel
theorem dX7_add_10 : decode cX7_add 10 = .ok (.aload_n 0, 1) := by decide +kernel
theorem dX7_add_11 : decode cX7_add 11 = .ok (.getfield 9, 3) := by decide +kernel
theorem dX7_add_14 : decode cX7_add 14 = .ok (.aload_n 0, 1) := by decide +kernel
theorem dX7_add_15 : decode cX7_add 15 = .ok (.getfield 22, 3) := by decide +kernel
theorem dX7_add_18 : decode cX7_add 18 = .ok (.iload_n 1, 1) := by decide +kernel
theorem dX7_add_19 : decode cX7_add 19 = .ok (.iastore, 1) := by decide +kernel
theorem dX7_add_20 : decode cX7_add 20 = .ok (.aload_n 0, 1) := by decide +kernel
theorem dX7_add_21 : decode cX7_add 21 = .ok (.getfield 15, 3) := by decide +kernel
theorem dX7_add_24 : decode cX7_add 24 = .ok (.aload_n 0, 1) := by decide +kernel
theorem dX7_add_25 : decode cX7_add 25 = .ok (.getfield 22, 3) := by decide +kernel
theorem dX7_add_28 : decode cX7_add 28 = .ok (.iload_n 2, 1) := by decide +kernel
theorem dX7_add_29 : decode cX7_add 29 = .ok (.iastore, 1) := by decide +kernel
theorem dX7_add_30 : decode cX7_add 30 = .ok (.aload_n 0, 1) := by decide +kernel
theorem dX7_add_31 : decode cX7_add 31 = .ok (.getfield 18, 3) := by decide +kernel
theorem dX7_add_34 : decode cX7_add 34 = .ok (.aload_n 0, 1) := by decide +kernel
theorem dX7_add_35 : decode cX7_add 35 = .ok (.getfield 22, 3) := by decide +kernel
theorem dX7_add_38 : decode cX7_add 38 = .ok (.iload_n 3, 1) := by decide +kernel
theorem dX7_add_39 : decode cX7_add 39 = .ok (.bastore, 1) := by decide +kernel
theorem dX7_add_40 : decode cX7_add 40 = .ok (.aload_n 0, 1) := by decide +kernel
theorem dX7_add_41 : decode cX7_add 41 = .ok (.dup, 1) := by decide +kernel
theorem dX7_add_42 : decode cX7_add 42 = .ok (.getfield 22, 3) := by decide +kernel
theorem dX7_add_45 : decode cX7_add 45 = .ok (.iconst 1, 1) := by decide +kernel
theorem dX7_add_46 : decode cX7_add 46 = .ok (.iadd, 1) := by decide +kernel
theorem dX7_add_47 : decode cX7_add 47 = .ok (.putfield 22, 3) := by decide +kernel
theorem dX7_add_50 : decode cX7_add 50 = .ok (.return_, 1) := by decide +kernel
theorem dX8_init_0 : decode cX8_init 0 = .ok (.aload_n 0, 1) := by decide +kernel
theorem dX8_init_1 : decode cX8_init 1 = .ok (.invokespecial 3, 3) := by decide +kernel
theorem dX8_init_4 : decode cX8_init 4 = .ok (.aload_n 0, 1) := by decide +kernel
theorem dX8_init_5 : decode cX8_init 5 = .ok (.new 9, 3) := by decide +kernel
theorem dX8_init_8 : decode cX8_init 8 = .ok (.dup, 1) := by decide +kernel
theorem dX8_init_9 : decode cX8_init 9 = .ok (.invokespecial 11, 3) := by decide +kernel
theorem dX8_init_12 : decode cX8_init 12 = .ok (.putfield 12, 3) := by decide +kernel
theorem dX8_init_15 : decode cX8_init 15 = .ok (.aload_n 0, 1) := by decide +kernel
theorem dX8_init_16 : decode cX8_init 16 = .ok (.new 16, 3) := by decide +kernel
theorem dX8_init_19 : decode cX8_init 19 = .ok (.dup, 1) := by decide +kernel
theorem dX8_init_20 : decode cX8_init 20 = .ok (.invokespecial 18, 3) := by decide +kernel
theorem dX8_init_23 : decode cX8_init 23 = .ok (.putfield 19, 3) := by decide +kernel
theorem dX8_init_26 : decode cX8_init 26 = .ok (.aload_n 0, 1) := by decide +kernel
theorem dX8_init_27 : decode cX8_init 27 = .ok (.new 23, 3) := by decide +kernel
theorem dX8_init_30 : decode cX8_init 30 = .ok (.dup, 1) := by decide +kernel
theorem dX8_init_31 : decode cX8_init 31 = .ok (.invokespecial 25, 3) := by decide +kernel
theorem dX8_init_34 : decode cX8_init 34 = .ok (.putfield 26, 3) := by decide +kernel
theorem dX8_init_37 : decode cX8_init 37 = .ok (.aload_n 0, 1) := by decide +kernel
theorem dX8_init_38 : decode cX8_init 38 = .ok (.new 30, 3) := by decide +kernel
theorem dX8_init_41 : decode cX8_init 41 = .ok (.dup, 1) := by decide +kernel
theorem dX8_init_42 : decode cX8_init 42 = .ok (.invokespecial 32, 3) := by decide +kernel
theorem dX8_init_45 : decode cX8_init 45 = .ok (.putfield 33, 3) := by decide +kernel
theorem dX8_init_48 : decode cX8_init 48 = .ok (.aload_n 0, 1) := by decide +kernel
theorem dX8_init_49 : decode cX8_init 49 = .ok (.new 37, 3) := by decide +kernel
theorem dX8_init_52 : decode cX8_init 52 = .ok (.dup, 1) := by decide +kernel
theorem dX8_init_53 : decode cX8_init 53 = .ok (.invokespecial 39, 3) := by decide +kernel
theorem dX8_init_56 : decode cX8_init 56 = .ok (.putfield 40, 3) := by decide +kernel
theorem dX8_init_59 : decode cX8_init 59 = .ok (.aload_n 0, 1) := by decide +kernel
theorem dX8_init_60 : decode cX8_init 60 = .ok (.new 44, 3) := by decide +kernel
theorem dX8_init_63 : decode cX8_init 63 = .ok (.dup, 1) := by decide +kernel
theorem dX8_init_64 : decode cX8_init 64 = .ok (.invokespecial 46, 3) := by decide +kernel
theorem dX8_init_67 : decode cX8_init 67 = .ok (.putfield 47, 3) := by decide +kernel
theorem dX8_init_70 : decode cX8_init 70 = .ok (.aload_n 0, 1) := by decide +kernel
theorem dX8_init_71 : decode cX8_init 71 = .ok (.new 51, 3) := by decide +kernel
theorem dX8_init_74 : decode cX8_init 74 = .ok (.dup, 1) := by decide +kernel
theorem dX8_init_75 : decode cX8_init 75 = .ok (.invokespecial 53, 3) := by decide +kernel
theorem dX8_init_78 : decode cX8_init 78 = .ok (.putfield 54, 3) := by decide +kernel
theorem dX8_init_81 : decode cX8_init 81 = .ok (.aload_n 0, 1) := by decide +kernel
theorem dX8_init_82 : decode cX8_init 82 = .ok (.new 58, 3) := by decide +kernel
theorem dX8_init_85 : decode cX8_init 85 = .ok (.dup, 1) := by decide +kernel
theorem dX8_init_86 : decode cX8_init 86 = .ok (.invokespecial 60, 3) := by decide +kernel
theorem dX8_init_89 : decode cX8_init 89 = .ok (.putfield 61, 3) := by decide +kernel
theorem dX8_init_92 : decode cX8_init 92 = .ok (.return_, 1) := by decide +kernel
theorem dX8_pass_0 : decode cX8_pass 0 = .ok (.aload_n 0, 1) := by decide +kernel
theorem dX8_pass_1 : decode cX8_pass 1 = .ok (.iload_n 1, 1) := by decide +kernel
theorem dX8_pass_2 : decode cX8_pass 2 = .ok (.invokevirtual 65, 3) := by decide +kernel
theorem dX8_pass_5 : decode cX8_pass 5 = .ok (.aload_n 0, 1) := by decide +kernel
theorem dX8_pass_6 : decode cX8_pass 6 = .ok (.getfield 12, 3) := by decide +kernel
theorem dX8_pass_9 : decode cX8_pass 9 = .ok (.getfield 69, 3) := by decide +kernel
theorem dX8_pass_12 : decode cX8_pass 12 = .ok (.iload_n 1, 1) := by decide +kernel
theorem dX8_pass_13 : decode cX8_pass 13 = .ok (.iadd, 1) := by decide +kernel
theorem dX8_pass_14 : decode cX8_pass 14 = .ok (.sipush 900, 3) := by decide +kernel
theorem dX8_pass_17 : decode cX8_pass 17 = .ok (.if_icmp .le 13, 3) := by decide +kernel
theorem dX8_pass_20 : decode cX8_pass 20 = .ok (.new 73, 3) := by decide +kernel
theorem dX8_pass_23 : decode cX8_pass 23 = .ok (.dup, 1) := by decide +kernel
theorem dX8_pass_24 : decode cX8_pass 24 = .ok (.ldc 75, 2) := by decide +kernel
theorem dX8_pass_26 : decode cX8_pass 26 = .ok (.invokespecial 77, 3) := by decide +kernel
theorem dX8_pass_29 : decode cX8_pass 29 = .ok (.athrow, 1) := by decide +kernel
theorem dX8_pass_30 : decode cX8_pass 30 = .ok (.aload_n 0, 1) := by decide +kernel
theorem dX8_pass_31 : decode cX8_pass 31 = .ok (.getfield 12, 3) := by decide +kernel
theorem dX8_pass_34 : decode cX8_pass 34 = .ok (.dup, 1) := by decide +kernel
theorem dX8_pass_35 : decode cX8_pass 35 = .ok (.getfield 69, 3) := by decide +kernel
theorem dX8_pass_38 : decode cX8_pass 38 = .ok (.iload_n 1, 1) := by decide +kernel
theorem dX8_pass_39 : decode cX8_pass 39 = .ok (.iadd, 1) := by decide +kernel
theorem dX8_pass_40 : decode cX8_pass 40 = .ok (.putfield 69, 3) := by decide +kernel
theorem dX8_pass_43 : decode cX8_pass 43 = .ok (.aload_n 0, 1) := by decide +kernel
theorem dX8_pass_44 : decode cX8_pass 44 = .ok (.getfield 12, 3) := by decide +kernel
theorem dX8_pass_47 : decode cX8_pass 47 = .ok (.getfield 69, 3) := by decide +kernel
theorem dX8_pass_50 : decode cX8_pass 50 = .ok (.ireturn, 1) := by decide +kernel
theorem dX8_holiday_0 : decode cX8_holiday 0 = .ok (.iload_n 1, 1) := by decide +kernel
theorem dX8_holiday_1 : decode cX8_holiday 1 = .ok (.ifCond .lt 10, 3) := by decide +kernel
theorem dX8_holiday_4 : decode cX8_holiday 4 = .ok (.iload_n 1, 1) := by decide +kernel
theorem dX8_holiday_5 : decode cX8_holiday 5 = .ok (.sipush 1000, 3) := by decide +kernel
theorem dX8_holiday_8 : decode cX8_holiday 8 = .ok (.if_icmp .le 13, 3) := by decide +kernel
theorem dX8_holiday_11 : decode cX8_holiday 11 = .ok (.new 80, 3) := by decide +kernel
theorem dX8_holiday_14 : decode cX8_holiday 14 = .ok (.dup, 1) := by decide +kernel
theorem dX8_holiday_15 : decode cX8_holiday 15 = .ok (.ldc 82, 2) := by decide +kernel
theorem dX8_holiday_17 : decode cX8_holiday 17 = .ok (.invokespecial 84, 3) := by decide +kernel
theorem dX8_holiday_20 : decode cX8_holiday 20 = .ok (.athrow, 1) := by decide +kernel
theorem dX8_holiday_21 : decode cX8_holiday 21 = .ok (.iload_n 1, 1) := by decide +kernel
theorem dX8_holiday_22 : decode cX8_holiday 22 = .ok (.aload_n 0, 1) := by decide +kernel
theorem dX8_holiday_23 : decode cX8_holiday 23 = .ok (.getfield 12, 3) := by decide +kernel
theorem dX8_holiday_26 : decode cX8_holiday 26 = .ok (.getfield 69, 3) := by decide +kernel
theorem dX8_holiday_29 : decode cX8_holiday 29 = .ok (.if_icmp .le 26, 3) := by decide +kernel
theorem dX8_holiday_32 : decode cX8_holiday 32 = .ok (.aload_n 0, 1) := by decide +kernel
theorem dX8_holiday_33 : decode cX8_holiday 33 = .ok (.getfield 12, 3) := by decide +kernel
theorem dX8_holiday_36 : decode cX8_holiday 36 = .ok (.iload_n 1, 1) := by decide +kernel
theorem dX8_holiday_37 : decode cX8_holiday 37 = .ok (.invokevirtual 85, 3) := by decide +kernel
theorem dX8_holiday_40 : decode cX8_holiday 40 = .ok (.ifCond .ne 15, 3) := by decide +kernel
theorem dX8_holiday_43 : decode cX8_holiday 43 = .ok (.aload_n 0, 1) := by decide +kernel
theorem dX8_holiday_44 : decode cX8_holiday 44 = .ok (.getfield 12, 3) := by decide +kernel
theorem dX8_holiday_47 : decode cX8_holiday 47 = .ok (.getfield 89, 3) := by decide +kernel
theorem dX8_holiday_50 : decode cX8_holiday 50 = .ok (.bipush 30, 2) := by decide +kernel
theorem dX8_holiday_52 : decode cX8_holiday 52 = .ok (.if_icmp .lt 13, 3) := by decide +kernel
theorem dX8_holiday_55 : decode cX8_holiday 55 = .ok (.new 73, 3) := by decide +kernel
theorem dX8_holiday_58 : decode cX8_holiday 58 = .ok (.dup, 1) := by decide +kernel
theorem dX8_holiday_59 : decode cX8_holiday 59 = .ok (.ldc 92, 2) := by decide +kernel
theorem dX8_holiday_61 : decode cX8_holiday 61 = .ok (.invokespecial 77, 3) := by decide +kernel
theorem dX8_holiday_64 : decode cX8_holiday 64 = .ok (.athrow, 1) := by decide +kernel
theorem dX8_holiday_65 : decode cX8_holiday 65 = .ok (.aload_n 0, 1) := by decide +kernel
theorem dX8_holiday_66 : decode cX8_holiday 66 = .ok (.getfield 12, 3) := by decide +kernel
theorem dX8_holiday_69 : decode cX8_holiday 69 = .ok (.iload_n 1, 1) := by decide +kernel
theorem dX8_holiday_70 : decode cX8_holiday 70 = .ok (.invokevirtual 94, 3) := by decide +kernel
theorem dX8_holiday_73 : decode cX8_holiday 73 = .ok (.istore_n 2, 1) := by decide +kernel
theorem dX8_holiday_74 : decode cX8_holiday 74 = .ok (.aload_n 0, 1) := by decide +kernel
theorem dX8_holiday_75 : decode cX8_holiday 75 = .ok (.getfield 12, 3) := by decide +kernel
theorem dX8_holiday_78 : decode cX8_holiday 78 = .ok (.iload_n 1, 1) := by decide +kernel
theorem dX8_holiday_79 : decode cX8_holiday 79 = .ok (.invokevirtual 97, 3) := by decide +kernel
theorem dX8_holiday_82 : decode cX8_holiday 82 = .ok (.iload_n 2, 1) := by decide +kernel
theorem dX8_holiday_83 : decode cX8_holiday 83 = .ok (.ifCond .ne 7, 3) := by decide +kernel
theorem dX8_holiday_86 : decode cX8_holiday 86 = .ok (.iconst 1, 1) := by decide +kernel
theorem dX8_holiday_87 : decode cX8_holiday 87 = .ok (.goto 4, 3) := by decide +kernel
theorem dX8_holiday_90 : decode cX8_holiday 90 = .ok (.iconst 0, 1) := by decide +kernel
theorem dX8_holiday_91 : decode cX8_holiday 91 = .ok (.ireturn, 1) := by decide +kernel
theorem dX8_setRule_0 : decode cX8_setRule 0 = .ok (.iload_n 1, 1) := by decide +kernel
theorem dX8_setRule_1 : decode cX8_setRule 1 = .ok (.ifCond .lt 8, 3) := by decide +kernel
theorem dX8_setRule_4 : decode cX8_setRule 4 = .ok (.iload_n 1, 1) := by decide +kernel
theorem dX8_setRule_5 : decode cX8_setRule 5 = .ok (.iconst 5, 1) := by decide +kernel
theorem dX8_setRule_6 : decode cX8_setRule 6 = .ok (.if_icmp .lt 13, 3) := by decide +kernel
theorem dX8_setRule_9 : decode cX8_setRule 9 = .ok (.new 100, 3) := by decide +kernel
theorem dX8_setRule_12 : decode cX8_setRule 12 = .ok (.dup, 1) := by decide +kernel
theorem dX8_setRule_13 : decode cX8_setRule 13 = .ok (.ldc 102, 2) := by decide +kernel
theorem dX8_setRule_15 : decode cX8_setRule 15 = .ok (.invokespecial 104, 3) := by decide +kernel
theorem dX8_setRule_18 : decode cX8_setRule 18 = .ok (.athrow, 1) := by decide +kernel
theorem dX8_setRule_19 : decode cX8_setRule 19 = .ok (.aload_n 0, 1) := by decide +kernel
theorem dX8_setRule_20 : decode cX8_setRule 20 = .ok (.iload_n 2, 1) := by decide +kernel
theorem dX8_setRule_21 : decode cX8_setRule 21 = .ok (.invokevirtual 65, 3) := by decide +kernel
theorem dX8_setRule_24 : decode cX8_setRule 24 = .ok (.aload_n 0, 1) := by decide +kernel
theorem dX8_setRule_25 : decode cX8_setRule 25 = .ok (.getfield 12, 3) := by decide +kernel
theorem dX8_setRule_28 : decode cX8_setRule 28 = .ok (.getfield 105, 3) := by decide +kernel
theorem dX8_setRule_31 : decode cX8_setRule 31 = .ok (.iload_n 1, 1) := by decide +kernel
theorem dX8_setRule_32 : decode cX8_setRule 32 = .ok (.iaload, 1) := by decide +kernel
theorem dX8_setRule_33 : decode cX8_setRule 33 = .ok (.istore 4, 2) := by decide +kernel
theorem dX8_setRule_35 : decode cX8_setRule 35 = .ok (.aload_n 0, 1) := by decide +kernel
theorem dX8_setRule_36 : decode cX8_setRule 36 = .ok (.getfield 12, 3) := by decide +kernel
theorem dX8_setRule_39 : decode cX8_setRule 39 = .ok (.getfield 105, 3) := by decide +kernel
theorem dX8_setRule_42 : decode cX8_setRule 42 = .ok (.iload_n 1, 1) := by decide +kernel
theorem dX8_setRule_43 : decode cX8_setRule 43 = .ok (.iload_n 2, 1) := by decide +kernel
theorem dX8_setRule_44 : decode cX8_setRule 44 = .ok (.iastore, 1) := by decide +kernel
theorem dX8_setRule_45 : decode cX8_setRule 45 = .ok (.aload_n 0, 1) := by decide +kernel
theorem dX8_setRule_46 : decode cX8_setRule 46 = .ok (.getfield 12, 3) := by decide +kernel
theorem dX8_setRule_49 : decode cX8_setRule 49 = .ok (.getfield 109, 3) := by decide +kernel
theorem dX8_setRule_52 : decode cX8_setRule 52 = .ok (.iload_n 1, 1) := by decide +kernel
theorem dX8_setRule_53 : decode cX8_setRule 53 = .ok (.iload_n 3, 1) := by decide +kernel
theorem dX8_setRule_54 : decode cX8_setRule 54 = .ok (.bastore, 1) := by decide +kernel
theorem dX8_setRule_55 : decode cX8_setRule 55 = .ok (.iload 4, 2) := by decide +kernel
theorem dX8_setRule_57 : decode cX8_setRule 57 = .ok (.ireturn, 1) := by decide +kernel
theorem dX8_open_0 : decode cX8_open 0 = .ok (.iload_n 1, 1) := by decide +kernel
theorem dX8_open_1 : decode cX8_open 1 = .ok (.ifCond .lt 8, 3) := by decide +kernel
theorem dX8_open_4 : decode cX8_open 4 = .ok (.iload_n 1, 1) := by decide +kernel
theorem dX8_open_5 : decode cX8_open 5 = .ok (.iconst 3, 1) := by decide +kernel
theorem dX8_open_6 : decode cX8_open 6 = .ok (.if_icmp .lt 13, 3) := by decide +kernel
theorem dX8_open_9 : decode cX8_open 9 = .ok (.new 100, 3) := by decide +kernel
theorem dX8_open_12 : decode cX8_open 12 = .ok (.dup, 1) := by decide +kernel
theorem dX8_open_13 : decode cX8_open 13 = .ok (.ldc 113, 2) := by decide +kernel
theorem dX8_open_15 : decode cX8_open 15 = .ok (.invokespecial 104, 3) := by decide +kernel
theorem dX8_open_18 : decode cX8_open 18 = .ok (.athrow, 1) := by decide +kernel
theorem dX8_open_19 : decode cX8_open 19 = .ok (.aload_n 0, 1) := by decide +kernel
theorem dX8_open_20 : decode cX8_open 20 = .ok (.getfield 19, 3) := by decide +kernel
theorem dX8_open_23 : decode cX8_open 23 = .ok (.getfield 115, 3) := by decide +kernel
theorem dX8_open_26 : decode cX8_open 26 = .ok (.bipush 8, 2) := by decide +kernel
theorem dX8_open_28 : decode cX8_open 28 = .ok (.if_icmp .lt 13, 3) := by decide +kernel
theorem dX8_open_31 : decode cX8_open 31 = .ok (.new 73, 3) := by decide +kernel
theorem dX8_open_34 : decode cX8_open 34 = .ok (.dup, 1) := by decide +kernel
theorem dX8_open_35 : decode cX8_open 35 = .ok (.ldc 118, 2) := by decide +kernel
theorem dX8_open_37 : decode cX8_open 37 = .ok (.invokespecial 77, 3) := by decide +kernel
theorem dX8_open_40 : decode cX8_open 40 = .ok (.athrow, 1) := by decide +kernel
theorem dX8_open_41 : decode cX8_open 41 = .ok (.aload_n 0, 1) := by decide +kernel
theorem dX8_open_42 : decode cX8_open 42 = .ok (.getfield 19, 3) := by decide +kernel
theorem dX8_open_45 : decode cX8_open 45 = .ok (.iload_n 1, 1) := by decide +kernel
theorem dX8_open_46 : decode cX8_open 46 = .ok (.invokevirtual 120, 3) := by decide +kernel
theorem dX8_open_49 : decode cX8_open 49 = .ok (.ireturn, 1) := by decide +kernel
theorem dX8_join_0 : decode cX8_join 0 = .ok (.aload_n 0, 1) := by decide +kernel
theorem dX8_join_1 : decode cX8_join 1 = .ok (.iload_n 1, 1) := by decide +kernel
theorem dX8_join_2 : decode cX8_join 2 = .ok (.invokevirtual 124, 3) := by decide +kernel
theorem dX8_join_5 : decode cX8_join 5 = .ok (.aload_n 0, 1) := by decide +kernel
theorem dX8_join_6 : decode cX8_join 6 = .ok (.iload_n 2, 1) := by decide +kernel
theorem dX8_join_7 : decode cX8_join 7 = .ok (.invokevirtual 127, 3) := by decide +kernel
theorem dX8_join_10 : decode cX8_join 10 = .ok (.aload_n 0, 1) := by decide +kernel
theorem dX8_join_11 : decode cX8_join 11 = .ok (.iload_n 3, 1) := by decide +kernel
theorem dX8_join_12 : decode cX8_join 12 = .ok (.invokevirtual 130, 3) := by decide +kernel
theorem dX8_join_15 : decode cX8_join 15 = .ok (.aload_n 0, 1) := by decide +kernel
theorem dX8_join_16 : decode cX8_join 16 = .ok (.getfield 19, 3) := by decide +kernel
theorem dX8_join_19 : decode cX8_join 19 = .ok (.iload_n 1, 1) := by decide +kernel
theorem dX8_join_20 : decode cX8_join 20 = .ok (.iload_n 2, 1) := by decide +kernel
theorem dX8_join_21 : decode cX8_join 21 = .ok (.invokevirtual 133, 3) := by decide +kernel
theorem dX8_join_24 : decode cX8_join 24 = .ok (.ifCond .eq 13, 3) := by decide +kernel
theorem dX8_join_27 : decode cX8_join 27 = .ok (.new 73, 3) := by decide +kernel
theorem dX8_join_30 : decode cX8_join 30 = .ok (.dup, 1) := by decide +kernel
theorem dX8_join_31 : decode cX8_join 31 = .ok (.ldc 137, 2) := by decide +kernel
theorem dX8_join_33 : decode cX8_join 33 = .ok (.invokespecial 77, 3) := by decide +kernel
theorem dX8_join_36 : decode cX8_join 36 = .ok (.athrow, 1) := by decide +kernel
theorem dX8_join_37 : decode cX8_join 37 = .ok (.aload_n 0, 1) := by decide +kernel
theorem dX8_join_38 : decode cX8_join 38 = .ok (.getfield 19, 3) := by decide +kernel
theorem dX8_join_41 : decode cX8_join 41 = .ok (.iload_n 1, 1) := by decide +kernel
theorem dX8_join_42 : decode cX8_join 42 = .ok (.iload_n 2, 1) := by decide +kernel
theorem dX8_join_43 : decode cX8_join 43 = .ok (.iload_n 3, 1) := by decide +kernel
theorem dX8_join_44 : decode cX8_join 44 = .ok (.aload_n 0, 1) := by decide +kernel
theorem dX8_join_45 : decode cX8_join 45 = .ok (.getfield 12, 3) := by decide +kernel
theorem dX8_join_48 : decode cX8_join 48 = .ok (.getfield 69, 3) := by decide +kernel
theorem dX8_join_51 : decode cX8_join 51 = .ok (.invokevirtual 139, 3) := by decide +kernel
theorem dX8_join_54 : decode cX8_join 54 = .ok (.aload_n 0, 1) := by decide +kernel
theorem dX8_join_55 : decode cX8_join 55 = .ok (.getfield 19, 3) := by decide +kernel
theorem dX8_join_58 : decode cX8_join 58 = .ok (.getfield 143, 3) := by decide +kernel
theorem dX8_join_61 : decode cX8_join 61 = .ok (.iload_n 1, 1) := by decide +kernel
theorem dX8_join_62 : decode cX8_join 62 = .ok (.iaload, 1) := by decide +kernel
theorem dX8_join_63 : decode cX8_join 63 = .ok (.ireturn, 1) := by decide +kernel
theorem dX8_lead_0 : decode cX8_lead 0 = .ok (.aload_n 0, 1) := by decide +kernel
theorem dX8_lead_1 : decode cX8_lead 1 = .ok (.iload_n 1, 1) := by decide +kernel
theorem dX8_lead_2 : decode cX8_lead 2 = .ok (.invokevirtual 124, 3) := by decide +kernel
theorem dX8_lead_5 : decode cX8_lead 5 = .ok (.iload_n 2, 1) := by decide +kernel
theorem dX8_lead_6 : decode cX8_lead 6 = .ok (.iconst (-1), 1) := by decide +kernel
theorem dX8_lead_7 : decode cX8_lead 7 = .ok (.if_icmp .eq 47, 3) := by decide +kernel
theorem dX8_lead_10 : decode cX8_lead 10 = .ok (.aload_n 0, 1) := by decide +kernel
theorem dX8_lead_11 : decode cX8_lead 11 = .ok (.iload_n 2, 1) := by decide +kernel
theorem dX8_lead_12 : decode cX8_lead 12 = .ok (.invokevirtual 124, 3) := by decide +kernel
theorem dX8_lead_15 : decode cX8_lead 15 = .ok (.iload_n 2, 1) := by decide +kernel
theorem dX8_lead_16 : decode cX8_lead 16 = .ok (.iload_n 1, 1) := by decide +kernel
theorem dX8_lead_17 : decode cX8_lead 17 = .ok (.if_icmp .eq 27, 3) := by decide +kernel
theorem dX8_lead_20 : decode cX8_lead 20 = .ok (.aload_n 0, 1) := by decide +kernel
theorem dX8_lead_21 : decode cX8_lead 21 = .ok (.getfield 19, 3) := by decide +kernel
theorem dX8_lead_24 : decode cX8_lead 24 = .ok (.iload_n 1, 1) := by decide +kernel
theorem dX8_lead_25 : decode cX8_lead 25 = .ok (.invokevirtual 146, 3) := by decide +kernel
theorem dX8_lead_28 : decode cX8_lead 28 = .ok (.ifCond .ne 16, 3) := by decide +kernel
theorem dX8_lead_31 : decode cX8_lead 31 = .ok (.aload_n 0, 1) := by decide +kernel
theorem dX8_lead_32 : decode cX8_lead 32 = .ok (.getfield 19, 3) := by decide +kernel
theorem dX8_lead_35 : decode cX8_lead 35 = .ok (.getfield 149, 3) := by decide +kernel
theorem dX8_lead_38 : decode cX8_lead 38 = .ok (.iload_n 2, 1) := by decide +kernel
theorem dX8_lead_39 : decode cX8_lead 39 = .ok (.iaload, 1) := by decide +kernel
theorem dX8_lead_40 : decode cX8_lead 40 = .ok (.iconst (-1), 1) := by decide +kernel
theorem dX8_lead_41 : decode cX8_lead 41 = .ok (.if_icmp .eq 13, 3) := by decide +kernel
theorem dX8_lead_44 : decode cX8_lead 44 = .ok (.new 73, 3) := by decide +kernel
theorem dX8_lead_47 : decode cX8_lead 47 = .ok (.dup, 1) := by decide +kernel
theorem dX8_lead_48 : decode cX8_lead 48 = .ok (.ldc 152, 2) := by decide +kernel
theorem dX8_lead_50 : decode cX8_lead 50 = .ok (.invokespecial 77, 3) := by decide +kernel
theorem dX8_lead_53 : decode cX8_lead 53 = .ok (.athrow, 1) := by decide +kernel
theorem dX8_lead_54 : decode cX8_lead 54 = .ok (.aload_n 0, 1) := by decide +kernel
theorem dX8_lead_55 : decode cX8_lead 55 = .ok (.getfield 19, 3) := by decide +kernel
theorem dX8_lead_58 : decode cX8_lead 58 = .ok (.getfield 149, 3) := by decide +kernel
theorem dX8_lead_61 : decode cX8_lead 61 = .ok (.iload_n 1, 1) := by decide +kernel
theorem dX8_lead_62 : decode cX8_lead 62 = .ok (.iaload, 1) := by decide +kernel
theorem dX8_lead_63 : decode cX8_lead 63 = .ok (.istore_n 3, 1) := by decide +kernel
theorem dX8_lead_64 : decode cX8_lead 64 = .ok (.aload_n 0, 1) := by decide +kernel
theorem dX8_lead_65 : decode cX8_lead 65 = .ok (.getfield 19, 3) := by decide +kernel
theorem dX8_lead_68 : decode cX8_lead 68 = .ok (.getfield 149, 3) := by decide +kernel
theorem dX8_lead_71 : decode cX8_lead 71 = .ok (.iload_n 1, 1) := by decide +kernel
theorem dX8_lead_72 : decode cX8_lead 72 = .ok (.iload_n 2, 1) := by decide +kernel
theorem dX8_lead_73 : decode cX8_lead 73 = .ok (.iastore, 1) := by decide +kernel
theorem dX8_lead_74 : decode cX8_lead 74 = .ok (.iload_n 3, 1) := by decide +kernel
theorem dX8_lead_75 : decode cX8_lead 75 = .ok (.ireturn, 1) := by decide +kernel
theorem dX8_claim_0 : decode cX8_claim 0 = .ok (.aload_n 0, 1) := by decide +kernel
theorem dX8_claim_1 : decode cX8_claim 1 = .ok (.iload_n 1, 1) := by decide +kernel
theorem dX8_claim_2 : decode cX8_claim 2 = .ok (.invokevirtual 124, 3) := by decide +kernel
theorem dX8_claim_5 : decode cX8_claim 5 = .ok (.aload_n 0, 1) := by decide +kernel
theorem dX8_claim_6 : decode cX8_claim 6 = .ok (.iload_n 2, 1) := by decide +kernel
theorem dX8_claim_7 : decode cX8_claim 7 = .ok (.invokevirtual 127, 3) := by decide +kernel
theorem dX8_claim_10 : decode cX8_claim 10 = .ok (.aload_n 0, 1) := by decide +kernel
theorem dX8_claim_11 : decode cX8_claim 11 = .ok (.iload_n 3, 1) := by decide +kernel
theorem dX8_claim_12 : decode cX8_claim 12 = .ok (.invokevirtual 127, 3) := by decide +kernel
theorem dX8_claim_15 : decode cX8_claim 15 = .ok (.aload_n 0, 1) := by decide +kernel
theorem dX8_claim_16 : decode cX8_claim 16 = .ok (.iload 4, 2) := by decide +kernel
theorem dX8_claim_18 : decode cX8_claim 18 = .ok (.ldc 154, 2) := by decide +kernel
theorem dX8_claim_20 : decode cX8_claim 20 = .ok (.invokevirtual 155, 3) := by decide +kernel
theorem dX8_claim_23 : decode cX8_claim 23 = .ok (.aload_n 0, 1) := by decide +kernel
theorem dX8_claim_24 : decode cX8_claim 24 = .ok (.getfield 19, 3) := by decide +kernel
theorem dX8_claim_27 : decode cX8_claim 27 = .ok (.iload_n 1, 1) := by decide +kernel
theorem dX8_claim_28 : decode cX8_claim 28 = .ok (.iload_n 2, 1) := by decide +kernel
theorem dX8_claim_29 : decode cX8_claim 29 = .ok (.iload_n 3, 1) := by decide +kernel
theorem dX8_claim_30 : decode cX8_claim 30 = .ok (.invokevirtual 159, 3) := by decide +kernel
theorem dX8_claim_33 : decode cX8_claim 33 = .ok (.ifCond .eq 15, 3) := by decide +kernel
theorem dX8_claim_36 : decode cX8_claim 36 = .ok (.aload_n 0, 1) := by decide +kernel
theorem dX8_claim_37 : decode cX8_claim 37 = .ok (.getfield 26, 3) := by decide +kernel
theorem dX8_claim_40 : decode cX8_claim 40 = .ok (.getfield 163, 3) := by decide +kernel
theorem dX8_claim_43 : decode cX8_claim 43 = .ok (.bipush 24, 2) := by decide +kernel
theorem dX8_claim_45 : decode cX8_claim 45 = .ok (.if_icmp .lt 13, 3) := by decide +kernel
theorem dX8_claim_48 : decode cX8_claim 48 = .ok (.new 73, 3) := by decide +kernel
theorem dX8_claim_51 : decode cX8_claim 51 = .ok (.dup, 1) := by decide +kernel
theorem dX8_claim_52 : decode cX8_claim 52 = .ok (.ldc 164, 2) := by decide +kernel
theorem dX8_claim_54 : decode cX8_claim 54 = .ok (.invokespecial 77, 3) := by decide +kernel
theorem dX8_claim_57 : decode cX8_claim 57 = .ok (.athrow, 1) := by decide +kernel
theorem dX8_claim_58 : decode cX8_claim 58 = .ok (.aload_n 0, 1) := by decide +kernel
theorem dX8_claim_59 : decode cX8_claim 59 = .ok (.getfield 26, 3) := by decide +kernel
theorem dX8_claim_62 : decode cX8_claim 62 = .ok (.iload_n 1, 1) := by decide +kernel
theorem dX8_claim_63 : decode cX8_claim 63 = .ok (.iload_n 2, 1) := by decide +kernel
theorem dX8_claim_64 : decode cX8_claim 64 = .ok (.iload_n 3, 1) := by decide +kernel
theorem dX8_claim_65 : decode cX8_claim 65 = .ok (.iload 4, 2) := by decide +kernel
theorem dX8_claim_67 : decode cX8_claim 67 = .ok (.invokevirtual 166, 3) := by decide +kernel
theorem dX8_claim_70 : decode cX8_claim 70 = .ok (.ireturn, 1) := by decide +kernel
theorem dX8_sever_0 : decode cX8_sever 0 = .ok (.aload_n 0, 1) := by decide +kernel
theorem dX8_sever_1 : decode cX8_sever 1 = .ok (.iload_n 1, 1) := by decide +kernel
theorem dX8_sever_2 : decode cX8_sever 2 = .ok (.invokevirtual 169, 3) := by decide +kernel
theorem dX8_sever_5 : decode cX8_sever 5 = .ok (.aload_n 0, 1) := by decide +kernel
theorem dX8_sever_6 : decode cX8_sever 6 = .ok (.getfield 26, 3) := by decide +kernel
theorem dX8_sever_9 : decode cX8_sever 9 = .ok (.iload_n 1, 1) := by decide +kernel
theorem dX8_sever_10 : decode cX8_sever 10 = .ok (.invokevirtual 172, 3) := by decide +kernel
theorem dX8_sever_13 : decode cX8_sever 13 = .ok (.ifCond .ne 15, 3) := by decide +kernel
theorem dX8_sever_16 : decode cX8_sever 16 = .ok (.aload_n 0, 1) := by decide +kernel
theorem dX8_sever_17 : decode cX8_sever 17 = .ok (.getfield 19, 3) := by decide +kernel
theorem dX8_sever_20 : decode cX8_sever 20 = .ok (.getfield 115, 3) := by decide +kernel
theorem dX8_sever_23 : decode cX8_sever 23 = .ok (.bipush 8, 2) := by decide +kernel
theorem dX8_sever_25 : decode cX8_sever 25 = .ok (.if_icmp .lt 13, 3) := by decide +kernel
theorem dX8_sever_28 : decode cX8_sever 28 = .ok (.new 73, 3) := by decide +kernel
theorem dX8_sever_31 : decode cX8_sever 31 = .ok (.dup, 1) := by decide +kernel
theorem dX8_sever_32 : decode cX8_sever 32 = .ok (.ldc 175, 2) := by decide +kernel
theorem dX8_sever_34 : decode cX8_sever 34 = .ok (.invokespecial 77, 3) := by decide +kernel
theorem dX8_sever_37 : decode cX8_sever 37 = .ok (.athrow, 1) := by decide +kernel
theorem dX8_sever_38 : decode cX8_sever 38 = .ok (.aload_n 0, 1) := by decide +kernel
theorem dX8_sever_39 : decode cX8_sever 39 = .ok (.getfield 26, 3) := by decide +kernel
theorem dX8_sever_42 : decode cX8_sever 42 = .ok (.getfield 177, 3) := by decide +kernel
theorem dX8_sever_45 : decode cX8_sever 45 = .ok (.iload_n 1, 1) := by decide +kernel
theorem dX8_sever_46 : decode cX8_sever 46 = .ok (.iaload, 1) := by decide +kernel
theorem dX8_sever_47 : decode cX8_sever 47 = .ok (.istore_n 2, 1) := by decide +kernel
theorem dX8_sever_48 : decode cX8_sever 48 = .ok (.aload_n 0, 1) := by decide +kernel
theorem dX8_sever_49 : decode cX8_sever 49 = .ok (.getfield 26, 3) := by decide +kernel
theorem dX8_sever_52 : decode cX8_sever 52 = .ok (.getfield 180, 3) := by decide +kernel
theorem dX8_sever_55 : decode cX8_sever 55 = .ok (.iload_n 1, 1) := by decide +kernel
theorem dX8_sever_56 : decode cX8_sever 56 = .ok (.iaload, 1) := by decide +kernel
theorem dX8_sever_57 : decode cX8_sever 57 = .ok (.istore_n 3, 1) := by decide +kernel
theorem dX8_sever_58 : decode cX8_sever 58 = .ok (.aload_n 0, 1) := by decide +kernel
theorem dX8_sever_59 : decode cX8_sever 59 = .ok (.getfield 26, 3) := by decide +kernel
theorem dX8_sever_62 : decode cX8_sever 62 = .ok (.getfield 183, 3) := by decide +kernel
theorem dX8_sever_65 : decode cX8_sever 65 = .ok (.iload_n 1, 1) := by decide +kernel
theorem dX8_sever_66 : decode cX8_sever 66 = .ok (.iaload, 1) := by decide +kernel
theorem dX8_sever_67 : decode cX8_sever 67 = .ok (.istore 4, 2) := by decide +kernel
theorem dX8_sever_69 : decode cX8_sever 69 = .ok (.aload_n 0, 1) := by decide +kernel
theorem dX8_sever_70 : decode cX8_sever 70 = .ok (.getfield 19, 3) := by decide +kernel
theorem dX8_sever_73 : decode cX8_sever 73 = .ok (.aload_n 0, 1) := by decide +kernel
theorem dX8_sever_74 : decode cX8_sever 74 = .ok (.getfield 19, 3) := by decide +kernel
theorem dX8_sever_77 : decode cX8_sever 77 = .ok (.getfield 186, 3) := by decide +kernel
theorem dX8_sever_80 : decode cX8_sever 80 = .ok (.iload_n 2, 1) := by decide +kernel
theorem dX8_sever_81 : decode cX8_sever 81 = .ok (.iaload, 1) := by decide +kernel
theorem dX8_sever_82 : decode cX8_sever 82 = .ok (.invokevirtual 120, 3) := by decide +kernel
theorem dX8_sever_85 : decode cX8_sever 85 = .ok (.istore 5, 2) := by decide +kernel
theorem dX8_sever_87 : decode cX8_sever 87 = .ok (.aload_n 0, 1) := by decide +kernel
theorem dX8_sever_88 : decode cX8_sever 88 = .ok (.getfield 19, 3) := by decide +kernel
theorem dX8_sever_91 : decode cX8_sever 91 = .ok (.iload 5, 2) := by decide +kernel
theorem dX8_sever_93 : decode cX8_sever 93 = .ok (.iload_n 3, 1) := by decide +kernel
theorem dX8_sever_94 : decode cX8_sever 94 = .ok (.aload_n 0, 1) := by decide +kernel
theorem dX8_sever_95 : decode cX8_sever 95 = .ok (.getfield 19, 3) := by decide +kernel
theorem dX8_sever_98 : decode cX8_sever 98 = .ok (.getfield 189, 3) := by decide +kernel
theorem dX8_sever_101 : decode cX8_sever 101 = .ok (.iload_n 2, 1) := by decide +kernel
theorem dX8_sever_102 : decode cX8_sever 102 = .ok (.aaload, 1) := by decide +kernel
theorem dX8_sever_103 : decode cX8_sever 103 = .ok (.iload_n 3, 1) := by decide +kernel
theorem dX8_sever_104 : decode cX8_sever 104 = .ok (.iaload, 1) := by decide +kernel
theorem dX8_sever_105 : decode cX8_sever 105 = .ok (.aload_n 0, 1) := by decide +kernel
theorem dX8_sever_106 : decode cX8_sever 106 = .ok (.getfield 12, 3) := by decide +kernel
theorem dX8_sever_109 : decode cX8_sever 109 = .ok (.getfield 69, 3) := by decide +kernel
theorem dX8_sever_112 : decode cX8_sever 112 = .ok (.invokevirtual 139, 3) := by decide +kernel
theorem dX8_sever_115 : decode cX8_sever 115 = .ok (.aload_n 0, 1) := by decide +kernel
theorem dX8_sever_116 : decode cX8_sever 116 = .ok (.getfield 19, 3) := by decide +kernel
theorem dX8_sever_119 : decode cX8_sever 119 = .ok (.iload 5, 2) := by decide +kernel
theorem dX8_sever_121 : decode cX8_sever 121 = .ok (.iload 4, 2) := by decide +kernel
theorem dX8_sever_123 : decode cX8_sever 123 = .ok (.aload_n 0, 1) := by decide +kernel
theorem dX8_sever_124 : decode cX8_sever 124 = .ok (.getfield 19, 3) := by decide +kernel
theorem dX8_sever_127 : decode cX8_sever 127 = .ok (.getfield 189, 3) := by decide +kernel
theorem dX8_sever_130 : decode cX8_sever 130 = .ok (.iload_n 2, 1) := by decide +kernel
theorem dX8_sever_131 : decode cX8_sever 131 = .ok (.aaload, 1) := by decide +kernel
theorem dX8_sever_132 : decode cX8_sever 132 = .ok (.iload 4, 2) := by decide +kernel
theorem dX8_sever_134 : decode cX8_sever 134 = .ok (.iaload, 1) := by decide +kernel
theorem dX8_sever_135 : decode cX8_sever 135 = .ok (.aload_n 0, 1) := by decide +kernel
theorem dX8_sever_136 : decode cX8_sever 136 = .ok (.getfield 12, 3) := by decide +kernel
theorem dX8_sever_139 : decode cX8_sever 139 = .ok (.getfield 69, 3) := by decide +kernel
theorem dX8_sever_142 : decode cX8_sever 142 = .ok (.invokevirtual 139, 3) := by decide +kernel
theorem dX8_sever_145 : decode cX8_sever 145 = .ok (.aload_n 0, 1) := by decide +kernel
theorem dX8_sever_146 : decode cX8_sever 146 = .ok (.getfield 26, 3) := by decide +kernel
theorem dX8_sever_149 : decode cX8_sever 149 = .ok (.getfield 177, 3) := by decide +kernel
theorem dX8_sever_152 : decode cX8_sever 152 = .ok (.iload_n 1, 1) := by decide +kernel
theorem dX8_sever_153 : decode cX8_sever 153 = .ok (.iload 5, 2) := by decide +kernel
theorem dX8_sever_155 : decode cX8_sever 155 = .ok (.iastore, 1) := by decide +kernel
theorem dX8_sever_156 : decode cX8_sever 156 = .ok (.iload 5, 2) := by decide +kernel
theorem dX8_sever_158 : decode cX8_sever 158 = .ok (.ireturn, 1) := by decide +kernel
theorem dX8_serve_0 : decode cX8_serve 0 = .ok (.aload_n 0, 1) := by decide +kernel
theorem dX8_serve_1 : decode cX8_serve 1 = .ok (.iload_n 1, 1) := by decide +kernel
theorem dX8_serve_2 : decode cX8_serve 2 = .ok (.invokevirtual 169, 3) := by decide +kernel
theorem dX8_serve_5 : decode cX8_serve 5 = .ok (.iload_n 2, 1) := by decide +kernel
theorem dX8_serve_6 : decode cX8_serve 6 = .ok (.ifCond .lt 8, 3) := by decide +kernel
theorem dX8_serve_9 : decode cX8_serve 9 = .ok (.iload_n 2, 1) := by decide +kernel
theorem dX8_serve_10 : decode cX8_serve 10 = .ok (.iconst 3, 1) := by decide +kernel
theorem dX8_serve_11 : decode cX8_serve 11 = .ok (.if_icmp .lt 13, 3) := by decide +kernel
theorem dX8_serve_14 : decode cX8_serve 14 = .ok (.new 100, 3) := by decide +kernel
theorem dX8_serve_17 : decode cX8_serve 17 = .ok (.dup, 1) := by decide +kernel
theorem dX8_serve_18 : decode cX8_serve 18 = .ok (.ldc 193, 2) := by decide +kernel
theorem dX8_serve_20 : decode cX8_serve 20 = .ok (.invokespecial 104, 3) := by decide +kernel
theorem dX8_serve_23 : decode cX8_serve 23 = .ok (.athrow, 1) := by decide +kernel
theorem dX8_serve_24 : decode cX8_serve 24 = .ok (.aload_n 0, 1) := by decide +kernel
theorem dX8_serve_25 : decode cX8_serve 25 = .ok (.aload_n 0, 1) := by decide +kernel
theorem dX8_serve_26 : decode cX8_serve 26 = .ok (.getfield 26, 3) := by decide +kernel
theorem dX8_serve_29 : decode cX8_serve 29 = .ok (.getfield 195, 3) := by decide +kernel
theorem dX8_serve_32 : decode cX8_serve 32 = .ok (.iload_n 1, 1) := by decide +kernel
theorem dX8_serve_33 : decode cX8_serve 33 = .ok (.iaload, 1) := by decide +kernel
theorem dX8_serve_34 : decode cX8_serve 34 = .ok (.ifCond .ne 15, 3) := by decide +kernel
theorem dX8_serve_37 : decode cX8_serve 37 = .ok (.aload_n 0, 1) := by decide +kernel
theorem dX8_serve_38 : decode cX8_serve 38 = .ok (.iload_n 1, 1) := by decide +kernel
theorem dX8_serve_39 : decode cX8_serve 39 = .ok (.invokevirtual 198, 3) := by decide +kernel
theorem dX8_serve_42 : decode cX8_serve 42 = .ok (.ifCond .ne 7, 3) := by decide +kernel
theorem dX8_serve_45 : decode cX8_serve 45 = .ok (.iconst 1, 1) := by decide +kernel
theorem dX8_serve_46 : decode cX8_serve 46 = .ok (.goto 4, 3) := by decide +kernel
theorem dX8_serve_49 : decode cX8_serve 49 = .ok (.iconst 0, 1) := by decide +kernel
theorem dX8_serve_50 : decode cX8_serve 50 = .ok (.invokevirtual 201, 3) := by decide +kernel
theorem dX8_serve_53 : decode cX8_serve 53 = .ok (.aload_n 0, 1) := by decide +kernel
theorem dX8_serve_54 : decode cX8_serve 54 = .ok (.iconst 0, 1) := by decide +kernel
theorem dX8_serve_55 : decode cX8_serve 55 = .ok (.iload_n 1, 1) := by decide +kernel
theorem dX8_serve_56 : decode cX8_serve 56 = .ok (.iload_n 2, 1) := by decide +kernel
theorem dX8_serve_57 : decode cX8_serve 57 = .ok (.iconst 0, 1) := by decide +kernel
theorem dX8_serve_58 : decode cX8_serve 58 = .ok (.invokevirtual 205, 3) := by decide +kernel
theorem dX8_serve_61 : decode cX8_serve 61 = .ok (.istore_n 3, 1) := by decide +kernel
theorem dX8_serve_62 : decode cX8_serve 62 = .ok (.aload_n 0, 1) := by decide +kernel
theorem dX8_serve_63 : decode cX8_serve 63 = .ok (.getfield 33, 3) := by decide +kernel
theorem dX8_serve_66 : decode cX8_serve 66 = .ok (.getfield 208, 3) := by decide +kernel
theorem dX8_serve_69 : decode cX8_serve 69 = .ok (.iload_n 3, 1) := by decide +kernel
theorem dX8_serve_70 : decode cX8_serve 70 = .ok (.dup2, 1) := by decide +kernel
theorem dX8_serve_71 : decode cX8_serve 71 = .ok (.iaload, 1) := by decide +kernel
theorem dX8_serve_72 : decode cX8_serve 72 = .ok (.getstatic 211, 3) := by decide +kernel
theorem dX8_serve_75 : decode cX8_serve 75 = .ok (.iload_n 2, 1) := by decide +kernel
theorem dX8_serve_76 : decode cX8_serve 76 = .ok (.iaload, 1) := by decide +kernel
theorem dX8_serve_77 : decode cX8_serve 77 = .ok (.iadd, 1) := by decide +kernel
theorem dX8_serve_78 : decode cX8_serve 78 = .ok (.iastore, 1) := by decide +kernel
theorem dX8_serve_79 : decode cX8_serve 79 = .ok (.iload_n 3, 1) := by decide +kernel
theorem dX8_serve_80 : decode cX8_serve 80 = .ok (.ireturn, 1) := by decide +kernel
theorem dX8_answer_0 : decode cX8_answer 0 = .ok (.aload_n 0, 1) := by decide +kernel
theorem dX8_answer_1 : decode cX8_answer 1 = .ok (.iload_n 1, 1) := by decide +kernel
theorem dX8_answer_2 : decode cX8_answer 2 = .ok (.invokevirtual 169, 3) := by decide +kernel
theorem dX8_answer_5 : decode cX8_answer 5 = .ok (.aload_n 0, 1) := by decide +kernel
theorem dX8_answer_6 : decode cX8_answer 6 = .ok (.aload_n 0, 1) := by decide +kernel
theorem dX8_answer_7 : decode cX8_answer 7 = .ok (.iload_n 1, 1) := by decide +kernel
theorem dX8_answer_8 : decode cX8_answer 8 = .ok (.invokevirtual 214, 3) := by decide +kernel
theorem dX8_answer_11 : decode cX8_answer 11 = .ok (.ifCond .eq 22, 3) := by decide +kernel
theorem dX8_answer_14 : decode cX8_answer 14 = .ok (.aload_n 0, 1) := by decide +kernel
theorem dX8_answer_15 : decode cX8_answer 15 = .ok (.aload_n 0, 1) := by decide +kernel
theorem dX8_answer_16 : decode cX8_answer 16 = .ok (.getfield 33, 3) := by decide +kernel
theorem dX8_answer_19 : decode cX8_answer 19 = .ok (.iload_n 1, 1) := by decide +kernel
theorem dX8_answer_20 : decode cX8_answer 20 = .ok (.invokevirtual 217, 3) := by decide +kernel
theorem dX8_answer_23 : decode cX8_answer 23 = .ok (.invokevirtual 220, 3) := by decide +kernel
theorem dX8_answer_26 : decode cX8_answer 26 = .ok (.ifCond .ne 7, 3) := by decide +kernel
theorem dX8_answer_29 : decode cX8_answer 29 = .ok (.iconst 1, 1) := by decide +kernel
theorem dX8_answer_30 : decode cX8_answer 30 = .ok (.goto 4, 3) := by decide +kernel
theorem dX8_answer_33 : decode cX8_answer 33 = .ok (.iconst 0, 1) := by decide +kernel
theorem dX8_answer_34 : decode cX8_answer 34 = .ok (.invokevirtual 201, 3) := by decide +kernel
theorem dX8_answer_37 : decode cX8_answer 37 = .ok (.aload_n 0, 1) := by decide +kernel
theorem dX8_answer_38 : decode cX8_answer 38 = .ok (.iconst 1, 1) := by decide +kernel
theorem dX8_answer_39 : decode cX8_answer 39 = .ok (.iload_n 1, 1) := by decide +kernel
theorem dX8_answer_40 : decode cX8_answer 40 = .ok (.iconst 0, 1) := by decide +kernel
theorem dX8_answer_41 : decode cX8_answer 41 = .ok (.iconst 0, 1) := by decide +kernel
theorem dX8_answer_42 : decode cX8_answer 42 = .ok (.invokevirtual 205, 3) := by decide +kernel
theorem dX8_answer_45 : decode cX8_answer 45 = .ok (.ireturn, 1) := by decide +kernel
theorem dX8_motion_0 : decode cX8_motion 0 = .ok (.aload_n 0, 1) := by decide +kernel
theorem dX8_motion_1 : decode cX8_motion 1 = .ok (.iload_n 1, 1) := by decide +kernel
theorem dX8_motion_2 : decode cX8_motion 2 = .ok (.invokevirtual 169, 3) := by decide +kernel
theorem dX8_motion_5 : decode cX8_motion 5 = .ok (.aload_n 0, 1) := by decide +kernel
theorem dX8_motion_6 : decode cX8_motion 6 = .ok (.aload_n 0, 1) := by decide +kernel
theorem dX8_motion_7 : decode cX8_motion 7 = .ok (.iload_n 1, 1) := by decide +kernel
theorem dX8_motion_8 : decode cX8_motion 8 = .ok (.invokevirtual 214, 3) := by decide +kernel
theorem dX8_motion_11 : decode cX8_motion 11 = .ok (.ifCond .eq 22, 3) := by decide +kernel
theorem dX8_motion_14 : decode cX8_motion 14 = .ok (.aload_n 0, 1) := by decide +kernel
theorem dX8_motion_15 : decode cX8_motion 15 = .ok (.aload_n 0, 1) := by decide +kernel
theorem dX8_motion_16 : decode cX8_motion 16 = .ok (.getfield 33, 3) := by decide +kernel
theorem dX8_motion_19 : decode cX8_motion 19 = .ok (.iload_n 1, 1) := by decide +kernel
theorem dX8_motion_20 : decode cX8_motion 20 = .ok (.invokevirtual 217, 3) := by decide +kernel
theorem dX8_motion_23 : decode cX8_motion 23 = .ok (.invokevirtual 220, 3) := by decide +kernel
theorem dX8_motion_26 : decode cX8_motion 26 = .ok (.ifCond .ne 7, 3) := by decide +kernel
theorem dX8_motion_29 : decode cX8_motion 29 = .ok (.iconst 1, 1) := by decide +kernel
theorem dX8_motion_30 : decode cX8_motion 30 = .ok (.goto 4, 3) := by decide +kernel
theorem dX8_motion_33 : decode cX8_motion 33 = .ok (.iconst 0, 1) := by decide +kernel
theorem dX8_motion_34 : decode cX8_motion 34 = .ok (.invokevirtual 201, 3) := by decide +kernel
theorem dX8_motion_37 : decode cX8_motion 37 = .ok (.aload_n 0, 1) := by decide +kernel
theorem dX8_motion_38 : decode cX8_motion 38 = .ok (.iconst 2, 1) := by decide +kernel
theorem dX8_motion_39 : decode cX8_motion 39 = .ok (.iload_n 1, 1) := by decide +kernel
theorem dX8_motion_40 : decode cX8_motion 40 = .ok (.iconst 0, 1) := by decide +kernel
theorem dX8_motion_41 : decode cX8_motion 41 = .ok (.iconst 0, 1) := by decide +kernel
theorem dX8_motion_42 : decode cX8_motion 42 = .ok (.invokevirtual 205, 3) := by decide +kernel
theorem dX8_motion_45 : decode cX8_motion 45 = .ok (.ireturn, 1) := by decide +kernel
theorem dX8_respond_0 : decode cX8_respond 0 = .ok (.aload_n 0, 1) := by decide +kernel
theorem dX8_respond_1 : decode cX8_respond 1 = .ok (.iload_n 1, 1) := by decide +kernel
theorem dX8_respond_2 : decode cX8_respond 2 = .ok (.invokevirtual 223, 3) := by decide +kernel
theorem dX8_respond_5 : decode cX8_respond 5 = .ok (.aload_n 0, 1) := by decide +kernel
theorem dX8_respond_6 : decode cX8_respond 6 = .ok (.aload_n 0, 1) := by decide +kernel
theorem dX8_respond_7 : decode cX8_respond 7 = .ok (.iload_n 1, 1) := by decide +kernel
theorem dX8_respond_8 : decode cX8_respond 8 = .ok (.invokevirtual 226, 3) := by decide +kernel
theorem dX8_respond_11 : decode cX8_respond 11 = .ok (.ifCond .eq 23, 3) := by decide +kernel
theorem dX8_respond_14 : decode cX8_respond 14 = .ok (.aload_n 0, 1) := by decide +kernel
theorem dX8_respond_15 : decode cX8_respond 15 = .ok (.iload_n 1, 1) := by decide +kernel
theorem dX8_respond_16 : decode cX8_respond 16 = .ok (.invokevirtual 229, 3) := by decide +kernel
theorem dX8_respond_19 : decode cX8_respond 19 = .ok (.ifCond .ne 15, 3) := by decide +kernel
theorem dX8_respond_22 : decode cX8_respond 22 = .ok (.aload_n 0, 1) := by decide +kernel
theorem dX8_respond_23 : decode cX8_respond 23 = .ok (.iload_n 1, 1) := by decide +kernel
theorem dX8_respond_24 : decode cX8_respond 24 = .ok (.invokevirtual 220, 3) := by decide +kernel
theorem dX8_respond_27 : decode cX8_respond 27 = .ok (.ifCond .ne 7, 3) := by decide +kernel
theorem dX8_respond_30 : decode cX8_respond 30 = .ok (.iconst 1, 1) := by decide +kernel
theorem dX8_respond_31 : decode cX8_respond 31 = .ok (.goto 4, 3) := by decide +kernel
theorem dX8_respond_34 : decode cX8_respond 34 = .ok (.iconst 0, 1) := by decide +kernel
theorem dX8_respond_35 : decode cX8_respond 35 = .ok (.invokevirtual 201, 3) := by decide +kernel
theorem dX8_respond_38 : decode cX8_respond 38 = .ok (.aload_n 0, 1) := by decide +kernel
theorem dX8_respond_39 : decode cX8_respond 39 = .ok (.iconst 3, 1) := by decide +kernel
theorem dX8_respond_40 : decode cX8_respond 40 = .ok (.aload_n 0, 1) := by decide +kernel
theorem dX8_respond_41 : decode cX8_respond 41 = .ok (.getfield 33, 3) := by decide +kernel
theorem dX8_respond_44 : decode cX8_respond 44 = .ok (.getfield 232, 3) := by decide +kernel
theorem dX8_respond_47 : decode cX8_respond 47 = .ok (.iload_n 1, 1) := by decide +kernel
theorem dX8_respond_48 : decode cX8_respond 48 = .ok (.iaload, 1) := by decide +kernel
theorem dX8_respond_49 : decode cX8_respond 49 = .ok (.iload_n 1, 1) := by decide +kernel
theorem dX8_respond_50 : decode cX8_respond 50 = .ok (.iconst 0, 1) := by decide +kernel
theorem dX8_respond_51 : decode cX8_respond 51 = .ok (.invokevirtual 205, 3) := by decide +kernel
theorem dX8_respond_54 : decode cX8_respond 54 = .ok (.ireturn, 1) := by decide +kernel
theorem dX8_ruling_0 : decode cX8_ruling 0 = .ok (.aload_n 0, 1) := by decide +kernel
theorem dX8_ruling_1 : decode cX8_ruling 1 = .ok (.iload_n 1, 1) := by decide +kernel
theorem dX8_ruling_2 : decode cX8_ruling 2 = .ok (.invokevirtual 223, 3) := by decide +kernel
theorem dX8_ruling_5 : decode cX8_ruling 5 = .ok (.aload_n 0, 1) := by decide +kernel
theorem dX8_ruling_6 : decode cX8_ruling 6 = .ok (.getfield 33, 3) := by decide +kernel
theorem dX8_ruling_9 : decode cX8_ruling 9 = .ok (.getfield 232, 3) := by decide +kernel
theorem dX8_ruling_12 : decode cX8_ruling 12 = .ok (.iload_n 1, 1) := by decide +kernel
theorem dX8_ruling_13 : decode cX8_ruling 13 = .ok (.iaload, 1) := by decide +kernel
theorem dX8_ruling_14 : decode cX8_ruling 14 = .ok (.istore_n 3, 1) := by decide +kernel
theorem dX8_ruling_15 : decode cX8_ruling 15 = .ok (.iload_n 2, 1) := by decide +kernel
theorem dX8_ruling_16 : decode cX8_ruling 16 = .ok (.iconst (-1), 1) := by decide +kernel
theorem dX8_ruling_17 : decode cX8_ruling 17 = .ok (.if_icmp .lt 16, 3) := by decide +kernel
theorem dX8_ruling_20 : decode cX8_ruling 20 = .ok (.iload_n 2, 1) := by decide +kernel
theorem dX8_ruling_21 : decode cX8_ruling 21 = .ok (.aload_n 0, 1) := by decide +kernel
theorem dX8_ruling_22 : decode cX8_ruling 22 = .ok (.getfield 26, 3) := by decide +kernel
theorem dX8_ruling_25 : decode cX8_ruling 25 = .ok (.getfield 235, 3) := by decide +kernel
theorem dX8_ruling_28 : decode cX8_ruling 28 = .ok (.iload_n 3, 1) := by decide +kernel
theorem dX8_ruling_29 : decode cX8_ruling 29 = .ok (.iaload, 1) := by decide +kernel
theorem dX8_ruling_30 : decode cX8_ruling 30 = .ok (.if_icmp .lt 13, 3) := by decide +kernel
theorem dX8_ruling_33 : decode cX8_ruling 33 = .ok (.new 80, 3) := by decide +kernel
theorem dX8_ruling_36 : decode cX8_ruling 36 = .ok (.dup, 1) := by decide +kernel
theorem dX8_ruling_37 : decode cX8_ruling 37 = .ok (.ldc 238, 2) := by decide +kernel
theorem dX8_ruling_39 : decode cX8_ruling 39 = .ok (.invokespecial 84, 3) := by decide +kernel
theorem dX8_ruling_42 : decode cX8_ruling 42 = .ok (.athrow, 1) := by decide +kernel
theorem dX8_ruling_43 : decode cX8_ruling 43 = .ok (.aload_n 0, 1) := by decide +kernel
theorem dX8_ruling_44 : decode cX8_ruling 44 = .ok (.aload_n 0, 1) := by decide +kernel
theorem dX8_ruling_45 : decode cX8_ruling 45 = .ok (.iload_n 1, 1) := by decide +kernel
theorem dX8_ruling_46 : decode cX8_ruling 46 = .ok (.invokevirtual 226, 3) := by decide +kernel
theorem dX8_ruling_49 : decode cX8_ruling 49 = .ok (.ifCond .eq 35, 3) := by decide +kernel
theorem dX8_ruling_52 : decode cX8_ruling 52 = .ok (.aload_n 0, 1) := by decide +kernel
theorem dX8_ruling_53 : decode cX8_ruling 53 = .ok (.getfield 26, 3) := by decide +kernel
theorem dX8_ruling_56 : decode cX8_ruling 56 = .ok (.getfield 195, 3) := by decide +kernel
theorem dX8_ruling_59 : decode cX8_ruling 59 = .ok (.iload_n 3, 1) := by decide +kernel
theorem dX8_ruling_60 : decode cX8_ruling 60 = .ok (.iaload, 1) := by decide +kernel
theorem dX8_ruling_61 : decode cX8_ruling 61 = .ok (.ifCond .ne 23, 3) := by decide +kernel
theorem dX8_ruling_64 : decode cX8_ruling 64 = .ok (.aload_n 0, 1) := by decide +kernel
theorem dX8_ruling_65 : decode cX8_ruling 65 = .ok (.iload_n 1, 1) := by decide +kernel
theorem dX8_ruling_66 : decode cX8_ruling 66 = .ok (.invokevirtual 229, 3) := by decide +kernel
theorem dX8_ruling_69 : decode cX8_ruling 69 = .ok (.ifCond .ne 11, 3) := by decide +kernel
theorem dX8_ruling_72 : decode cX8_ruling 72 = .ok (.aload_n 0, 1) := by decide +kernel
theorem dX8_ruling_73 : decode cX8_ruling 73 = .ok (.iload_n 1, 1) := by decide +kernel
theorem dX8_ruling_74 : decode cX8_ruling 74 = .ok (.invokevirtual 220, 3) := by decide +kernel
theorem dX8_ruling_77 : decode cX8_ruling 77 = .ok (.ifCond .eq 7, 3) := by decide +kernel
theorem dX8_ruling_80 : decode cX8_ruling 80 = .ok (.iconst 1, 1) := by decide +kernel
theorem dX8_ruling_81 : decode cX8_ruling 81 = .ok (.goto 4, 3) := by decide +kernel
theorem dX8_ruling_84 : decode cX8_ruling 84 = .ok (.iconst 0, 1) := by decide +kernel
theorem dX8_ruling_85 : decode cX8_ruling 85 = .ok (.invokevirtual 201, 3) := by decide +kernel
theorem dX8_ruling_88 : decode cX8_ruling 88 = .ok (.aload_n 0, 1) := by decide +kernel
theorem dX8_ruling_89 : decode cX8_ruling 89 = .ok (.iconst 4, 1) := by decide +kernel
theorem dX8_ruling_90 : decode cX8_ruling 90 = .ok (.iload_n 3, 1) := by decide +kernel
theorem dX8_ruling_91 : decode cX8_ruling 91 = .ok (.iload_n 2, 1) := by decide +kernel
theorem dX8_ruling_92 : decode cX8_ruling 92 = .ok (.iload_n 1, 1) := by decide +kernel
theorem dX8_ruling_93 : decode cX8_ruling 93 = .ok (.invokevirtual 205, 3) := by decide +kernel
theorem dX8_ruling_96 : decode cX8_ruling 96 = .ok (.istore 4, 2) := by decide +kernel
theorem dX8_ruling_98 : decode cX8_ruling 98 = .ok (.aload_n 0, 1) := by decide +kernel
theorem dX8_ruling_99 : decode cX8_ruling 99 = .ok (.getfield 33, 3) := by decide +kernel
theorem dX8_ruling_102 : decode cX8_ruling 102 = .ok (.getfield 240, 3) := by decide +kernel
theorem dX8_ruling_105 : decode cX8_ruling 105 = .ok (.iload_n 1, 1) := by decide +kernel
theorem dX8_ruling_106 : decode cX8_ruling 106 = .ok (.iconst 1, 1) := by decide +kernel
theorem dX8_ruling_107 : decode cX8_ruling 107 = .ok (.bastore, 1) := by decide +kernel
theorem dX8_ruling_108 : decode cX8_ruling 108 = .ok (.iload_n 2, 1) := by decide +kernel
theorem dX8_ruling_109 : decode cX8_ruling 109 = .ok (.ifCond .ne 16, 3) := by decide +kernel
theorem dX8_ruling_112 : decode cX8_ruling 112 = .ok (.aload_n 0, 1) := by decide +kernel
theorem dX8_ruling_113 : decode cX8_ruling 113 = .ok (.getfield 26, 3) := by decide +kernel
theorem dX8_ruling_116 : decode cX8_ruling 116 = .ok (.getfield 195, 3) := by decide +kernel
theorem dX8_ruling_119 : decode cX8_ruling 119 = .ok (.iload_n 3, 1) := by decide +kernel
theorem dX8_ruling_120 : decode cX8_ruling 120 = .ok (.iconst 1, 1) := by decide +kernel
theorem dX8_ruling_121 : decode cX8_ruling 121 = .ok (.iastore, 1) := by decide +kernel
theorem dX8_ruling_122 : decode cX8_ruling 122 = .ok (.goto 18, 3) := by decide +kernel
theorem dX8_ruling_125 : decode cX8_ruling 125 = .ok (.iload_n 2, 1) := by decide +kernel
theorem dX8_ruling_126 : decode cX8_ruling 126 = .ok (.iconst (-1), 1) := by decide +kernel
theorem dX8_ruling_127 : decode cX8_ruling 127 = .ok (.if_icmp .eq 13, 3) := by decide +kernel
theorem dX8_ruling_130 : decode cX8_ruling 130 = .ok (.aload_n 0, 1) := by decide +kernel
theorem dX8_ruling_131 : decode cX8_ruling 131 = .ok (.getfield 26, 3) := by decide +kernel
theorem dX8_ruling_134 : decode cX8_ruling 134 = .ok (.getfield 235, 3) := by decide +kernel
theorem dX8_ruling_137 : decode cX8_ruling 137 = .ok (.iload_n 3, 1) := by decide +kernel
theorem dX8_ruling_138 : decode cX8_ruling 138 = .ok (.iload_n 2, 1) := by decide +kernel
theorem dX8_ruling_139 : decode cX8_ruling 139 = .ok (.iastore, 1) := by decide +kernel
theorem dX8_ruling_140 : decode cX8_ruling 140 = .ok (.iload 4, 2) := by decide +kernel
theorem dX8_ruling_142 : decode cX8_ruling 142 = .ok (.ireturn, 1) := by decide +kernel
theorem dX8_judge_0 : decode cX8_judge 0 = .ok (.aload_n 0, 1) := by decide +kernel
theorem dX8_judge_1 : decode cX8_judge 1 = .ok (.iload_n 1, 1) := by decide +kernel
theorem dX8_judge_2 : decode cX8_judge 2 = .ok (.invokevirtual 169, 3) := by decide +kernel
theorem dX8_judge_5 : decode cX8_judge 5 = .ok (.iload_n 2, 1) := by decide +kernel
theorem dX8_judge_6 : decode cX8_judge 6 = .ok (.iconst (-1), 1) := by decide +kernel
theorem dX8_judge_7 : decode cX8_judge 7 = .ok (.if_icmp .lt 16, 3) := by decide +kernel
theorem dX8_judge_10 : decode cX8_judge 10 = .ok (.iload_n 2, 1) := by decide +kernel
theorem dX8_judge_11 : decode cX8_judge 11 = .ok (.aload_n 0, 1) := by decide +kernel
theorem dX8_judge_12 : decode cX8_judge 12 = .ok (.getfield 26, 3) := by decide +kernel
theorem dX8_judge_15 : decode cX8_judge 15 = .ok (.getfield 235, 3) := by decide +kernel
theorem dX8_judge_18 : decode cX8_judge 18 = .ok (.iload_n 1, 1) := by decide +kernel
theorem dX8_judge_19 : decode cX8_judge 19 = .ok (.iaload, 1) := by decide +kernel
theorem dX8_judge_20 : decode cX8_judge 20 = .ok (.if_icmp .le 13, 3) := by decide +kernel
theorem dX8_judge_23 : decode cX8_judge 23 = .ok (.new 80, 3) := by decide +kernel
theorem dX8_judge_26 : decode cX8_judge 26 = .ok (.dup, 1) := by decide +kernel
theorem dX8_judge_27 : decode cX8_judge 27 = .ok (.ldc 238, 2) := by decide +kernel
theorem dX8_judge_29 : decode cX8_judge 29 = .ok (.invokespecial 84, 3) := by decide +kernel
theorem dX8_judge_32 : decode cX8_judge 32 = .ok (.athrow, 1) := by decide +kernel
theorem dX8_judge_33 : decode cX8_judge 33 = .ok (.iload_n 2, 1) := by decide +kernel
theorem dX8_judge_34 : decode cX8_judge 34 = .ok (.iconst (-1), 1) := by decide +kernel
theorem dX8_judge_35 : decode cX8_judge 35 = .ok (.if_icmp .ne 7, 3) := by decide +kernel
theorem dX8_judge_38 : decode cX8_judge 38 = .ok (.iconst 1, 1) := by decide +kernel
theorem dX8_judge_39 : decode cX8_judge 39 = .ok (.goto 4, 3) := by decide +kernel
theorem dX8_judge_42 : decode cX8_judge 42 = .ok (.iconst 0, 1) := by decide +kernel
theorem dX8_judge_43 : decode cX8_judge 43 = .ok (.istore_n 3, 1) := by decide +kernel
theorem dX8_judge_44 : decode cX8_judge 44 = .ok (.iload_n 3, 1) := by decide +kernel
theorem dX8_judge_45 : decode cX8_judge 45 = .ok (.ifCond .eq 50, 3) := by decide +kernel
theorem dX8_judge_48 : decode cX8_judge 48 = .ok (.aload_n 0, 1) := by decide +kernel
theorem dX8_judge_49 : decode cX8_judge 49 = .ok (.aload_n 0, 1) := by decide +kernel
theorem dX8_judge_50 : decode cX8_judge 50 = .ok (.iload_n 1, 1) := by decide +kernel
theorem dX8_judge_51 : decode cX8_judge 51 = .ok (.invokevirtual 214, 3) := by decide +kernel
theorem dX8_judge_54 : decode cX8_judge 54 = .ok (.ifCond .eq 34, 3) := by decide +kernel
theorem dX8_judge_57 : decode cX8_judge 57 = .ok (.aload_n 0, 1) := by decide +kernel
theorem dX8_judge_58 : decode cX8_judge 58 = .ok (.aload_n 0, 1) := by decide +kernel
theorem dX8_judge_59 : decode cX8_judge 59 = .ok (.getfield 33, 3) := by decide +kernel
theorem dX8_judge_62 : decode cX8_judge 62 = .ok (.iload_n 1, 1) := by decide +kernel
theorem dX8_judge_63 : decode cX8_judge 63 = .ok (.invokevirtual 217, 3) := by decide +kernel
theorem dX8_judge_66 : decode cX8_judge 66 = .ok (.invokevirtual 220, 3) := by decide +kernel
theorem dX8_judge_69 : decode cX8_judge 69 = .ok (.ifCond .eq 19, 3) := by decide +kernel
theorem dX8_judge_72 : decode cX8_judge 72 = .ok (.aload_n 0, 1) := by decide +kernel
theorem dX8_judge_73 : decode cX8_judge 73 = .ok (.getfield 26, 3) := by decide +kernel
theorem dX8_judge_76 : decode cX8_judge 76 = .ok (.getfield 243, 3) := by decide +kernel
theorem dX8_judge_79 : decode cX8_judge 79 = .ok (.iload_n 1, 1) := by decide +kernel
theorem dX8_judge_80 : decode cX8_judge 80 = .ok (.iaload, 1) := by decide +kernel
theorem dX8_judge_81 : decode cX8_judge 81 = .ok (.ifCond .eq 7, 3) := by decide +kernel
theorem dX8_judge_84 : decode cX8_judge 84 = .ok (.iconst 1, 1) := by decide +kernel
theorem dX8_judge_85 : decode cX8_judge 85 = .ok (.goto 4, 3) := by decide +kernel
theorem dX8_judge_88 : decode cX8_judge 88 = .ok (.iconst 0, 1) := by decide +kernel
theorem dX8_judge_89 : decode cX8_judge 89 = .ok (.invokevirtual 201, 3) := by decide +kernel
theorem dX8_judge_92 : decode cX8_judge 92 = .ok (.goto 44, 3) := by decide +kernel
theorem dX8_judge_95 : decode cX8_judge 95 = .ok (.aload_n 0, 1) := by decide +kernel
theorem dX8_judge_96 : decode cX8_judge 96 = .ok (.aload_n 0, 1) := by decide +kernel
theorem dX8_judge_97 : decode cX8_judge 97 = .ok (.getfield 26, 3) := by decide +kernel
theorem dX8_judge_100 : decode cX8_judge 100 = .ok (.getfield 195, 3) := by decide +kernel
theorem dX8_judge_103 : decode cX8_judge 103 = .ok (.iload_n 1, 1) := by decide +kernel
theorem dX8_judge_104 : decode cX8_judge 104 = .ok (.iaload, 1) := by decide +kernel
theorem dX8_judge_105 : decode cX8_judge 105 = .ok (.ifCond .ne 27, 3) := by decide +kernel
theorem dX8_judge_108 : decode cX8_judge 108 = .ok (.aload_n 0, 1) := by decide +kernel
theorem dX8_judge_109 : decode cX8_judge 109 = .ok (.iload_n 1, 1) := by decide +kernel
theorem dX8_judge_110 : decode cX8_judge 110 = .ok (.invokevirtual 246, 3) := by decide +kernel
theorem dX8_judge_113 : decode cX8_judge 113 = .ok (.ifCond .eq 19, 3) := by decide +kernel
theorem dX8_judge_116 : decode cX8_judge 116 = .ok (.aload_n 0, 1) := by decide +kernel
theorem dX8_judge_117 : decode cX8_judge 117 = .ok (.getfield 26, 3) := by decide +kernel
theorem dX8_judge_120 : decode cX8_judge 120 = .ok (.iload_n 1, 1) := by decide +kernel
theorem dX8_judge_121 : decode cX8_judge 121 = .ok (.iload_n 2, 1) := by decide +kernel
theorem dX8_judge_122 : decode cX8_judge 122 = .ok (.invokevirtual 249, 3) := by decide +kernel
theorem dX8_judge_125 : decode cX8_judge 125 = .ok (.ifCond .ne 7, 3) := by decide +kernel
theorem dX8_judge_128 : decode cX8_judge 128 = .ok (.iconst 1, 1) := by decide +kernel
theorem dX8_judge_129 : decode cX8_judge 129 = .ok (.goto 4, 3) := by decide +kernel
theorem dX8_judge_132 : decode cX8_judge 132 = .ok (.iconst 0, 1) := by decide +kernel
theorem dX8_judge_133 : decode cX8_judge 133 = .ok (.invokevirtual 201, 3) := by decide +kernel
theorem dX8_judge_136 : decode cX8_judge 136 = .ok (.iload_n 3, 1) := by decide +kernel
theorem dX8_judge_137 : decode cX8_judge 137 = .ok (.ifCond .eq 14, 3) := by decide +kernel
theorem dX8_judge_140 : decode cX8_judge 140 = .ok (.aload_n 0, 1) := by decide +kernel
theorem dX8_judge_141 : decode cX8_judge 141 = .ok (.getfield 26, 3) := by decide +kernel
theorem dX8_judge_144 : decode cX8_judge 144 = .ok (.iload_n 1, 1) := by decide +kernel
theorem dX8_judge_145 : decode cX8_judge 145 = .ok (.invokevirtual 252, 3) := by decide +kernel
theorem dX8_judge_148 : decode cX8_judge 148 = .ok (.goto 4, 3) := by decide +kernel
theorem dX8_judge_151 : decode cX8_judge 151 = .ok (.iload_n 2, 1) := by decide +kernel
theorem dX8_judge_152 : decode cX8_judge 152 = .ok (.istore 4, 2) := by decide +kernel
theorem dX8_judge_154 : decode cX8_judge 154 = .ok (.aload_n 0, 1) := by decide +kernel
theorem dX8_judge_155 : decode cX8_judge 155 = .ok (.iconst 5, 1) := by decide +kernel
theorem dX8_judge_156 : decode cX8_judge 156 = .ok (.iload_n 1, 1) := by decide +kernel
theorem dX8_judge_157 : decode cX8_judge 157 = .ok (.iload 4, 2) := by decide +kernel
theorem dX8_judge_159 : decode cX8_judge 159 = .ok (.iconst 0, 1) := by decide +kernel
theorem dX8_judge_160 : decode cX8_judge 160 = .ok (.invokevirtual 205, 3) := by decide +kernel
theorem dX8_judge_163 : decode cX8_judge 163 = .ok (.istore 5, 2) := by decide +kernel
theorem dX8_judge_165 : decode cX8_judge 165 = .ok (.iload 4, 2) := by decide +kernel
theorem dX8_judge_167 : decode cX8_judge 167 = .ok (.ifCond .ne 16, 3) := by decide +kernel
theorem dX8_judge_170 : decode cX8_judge 170 = .ok (.aload_n 0, 1) := by decide +kernel
theorem dX8_judge_171 : decode cX8_judge 171 = .ok (.getfield 26, 3) := by decide +kernel
theorem dX8_judge_174 : decode cX8_judge 174 = .ok (.getfield 195, 3) := by decide +kernel
theorem dX8_judge_177 : decode cX8_judge 177 = .ok (.iload_n 1, 1) := by decide +kernel
theorem dX8_judge_178 : decode cX8_judge 178 = .ok (.iconst 1, 1) := by decide +kernel
theorem dX8_judge_179 : decode cX8_judge 179 = .ok (.iastore, 1) := by decide +kernel
theorem dX8_judge_180 : decode cX8_judge 180 = .ok (.goto 24, 3) := by decide +kernel
theorem dX8_judge_183 : decode cX8_judge 183 = .ok (.aload_n 0, 1) := by decide +kernel
theorem dX8_judge_184 : decode cX8_judge 184 = .ok (.getfield 26, 3) := by decide +kernel
theorem dX8_judge_187 : decode cX8_judge 187 = .ok (.getfield 195, 3) := by decide +kernel
theorem dX8_judge_190 : decode cX8_judge 190 = .ok (.iload_n 1, 1) := by decide +kernel
theorem dX8_judge_191 : decode cX8_judge 191 = .ok (.iconst 2, 1) := by decide +kernel
theorem dX8_judge_192 : decode cX8_judge 192 = .ok (.iastore, 1) := by decide +kernel
theorem dX8_judge_193 : decode cX8_judge 193 = .ok (.aload_n 0, 1) := by decide +kernel
theorem dX8_judge_194 : decode cX8_judge 194 = .ok (.getfield 26, 3) := by decide +kernel
theorem dX8_judge_197 : decode cX8_judge 197 = .ok (.getfield 235, 3) := by decide +kernel
theorem dX8_judge_200 : decode cX8_judge 200 = .ok (.iload_n 1, 1) := by decide +kernel
theorem dX8_judge_201 : decode cX8_judge 201 = .ok (.iload 4, 2) := by decide +kernel
theorem dX8_judge_203 : decode cX8_judge 203 = .ok (.iastore, 1) := by decide +kernel
theorem dX8_judge_204 : decode cX8_judge 204 = .ok (.iload 5, 2) := by decide +kernel
theorem dX8_judge_206 : decode cX8_judge 206 = .ok (.ireturn, 1) := by decide +kernel
theorem dX8_vacate_0 : decode cX8_vacate 0 = .ok (.aload_n 0, 1) := by decide +kernel
theorem dX8_vacate_1 : decode cX8_vacate 1 = .ok (.iload_n 1, 1) := by decide +kernel
theorem dX8_vacate_2 : decode cX8_vacate 2 = .ok (.invokevirtual 169, 3) := by decide +kernel
theorem dX8_vacate_5 : decode cX8_vacate 5 = .ok (.aload_n 0, 1) := by decide +kernel
theorem dX8_vacate_6 : decode cX8_vacate 6 = .ok (.getfield 33, 3) := by decide +kernel
theorem dX8_vacate_9 : decode cX8_vacate 9 = .ok (.iload_n 1, 1) := by decide +kernel
theorem dX8_vacate_10 : decode cX8_vacate 10 = .ok (.invokevirtual 255, 3) := by decide +kernel
theorem dX8_vacate_13 : decode cX8_vacate 13 = .ok (.istore_n 2, 1) := by decide +kernel
theorem dX8_vacate_14 : decode cX8_vacate 14 = .ok (.aload_n 0, 1) := by decide +kernel
theorem dX8_vacate_15 : decode cX8_vacate 15 = .ok (.iload_n 2, 1) := by decide +kernel
theorem dX8_vacate_16 : decode cX8_vacate 16 = .ok (.iconst (-1), 1) := by decide +kernel
theorem dX8_vacate_17 : decode cX8_vacate 17 = .ok (.if_icmp .eq 15, 3) := by decide +kernel
theorem dX8_vacate_20 : decode cX8_vacate 20 = .ok (.aload_n 0, 1) := by decide +kernel
theorem dX8_vacate_21 : decode cX8_vacate 21 = .ok (.iload_n 2, 1) := by decide +kernel
theorem dX8_vacate_22 : decode cX8_vacate 22 = .ok (.invokevirtual 258, 3) := by decide +kernel
theorem dX8_vacate_25 : decode cX8_vacate 25 = .ok (.ifCond .eq 7, 3) := by decide +kernel
theorem dX8_vacate_28 : decode cX8_vacate 28 = .ok (.iconst 1, 1) := by decide +kernel
theorem dX8_vacate_29 : decode cX8_vacate 29 = .ok (.goto 4, 3) := by decide +kernel
theorem dX8_vacate_32 : decode cX8_vacate 32 = .ok (.iconst 0, 1) := by decide +kernel
theorem dX8_vacate_33 : decode cX8_vacate 33 = .ok (.invokevirtual 201, 3) := by decide +kernel
theorem dX8_vacate_36 : decode cX8_vacate 36 = .ok (.aload_n 0, 1) := by decide +kernel
theorem dX8_vacate_37 : decode cX8_vacate 37 = .ok (.bipush 6, 2) := by decide +kernel
theorem dX8_vacate_39 : decode cX8_vacate 39 = .ok (.iload_n 1, 1) := by decide +kernel
theorem dX8_vacate_40 : decode cX8_vacate 40 = .ok (.iload_n 2, 1) := by decide +kernel
theorem dX8_vacate_41 : decode cX8_vacate 41 = .ok (.iconst 0, 1) := by decide +kernel
theorem dX8_vacate_42 : decode cX8_vacate 42 = .ok (.invokevirtual 205, 3) := by decide +kernel
theorem dX8_vacate_45 : decode cX8_vacate 45 = .ok (.istore_n 3, 1) := by decide +kernel
theorem dX8_vacate_46 : decode cX8_vacate 46 = .ok (.aload_n 0, 1) := by decide +kernel
theorem dX8_vacate_47 : decode cX8_vacate 47 = .ok (.getfield 33, 3) := by decide +kernel
theorem dX8_vacate_50 : decode cX8_vacate 50 = .ok (.getfield 261, 3) := by decide +kernel
theorem dX8_vacate_53 : decode cX8_vacate 53 = .ok (.iload_n 2, 1) := by decide +kernel
theorem dX8_vacate_54 : decode cX8_vacate 54 = .ok (.iconst 1, 1) := by decide +kernel
theorem dX8_vacate_55 : decode cX8_vacate 55 = .ok (.bastore, 1) := by decide +kernel
theorem dX8_vacate_56 : decode cX8_vacate 56 = .ok (.aload_n 0, 1) := by decide +kernel
theorem dX8_vacate_57 : decode cX8_vacate 57 = .ok (.getfield 26, 3) := by decide +kernel
theorem dX8_vacate_60 : decode cX8_vacate 60 = .ok (.getfield 195, 3) := by decide +kernel
theorem dX8_vacate_63 : decode cX8_vacate 63 = .ok (.iload_n 1, 1) := by decide +kernel
theorem dX8_vacate_64 : decode cX8_vacate 64 = .ok (.iconst 0, 1) := by decide +kernel
theorem dX8_vacate_65 : decode cX8_vacate 65 = .ok (.iastore, 1) := by decide +kernel
theorem dX8_vacate_66 : decode cX8_vacate 66 = .ok (.aload_n 0, 1) := by decide +kernel
theorem dX8_vacate_67 : decode cX8_vacate 67 = .ok (.getfield 26, 3) := by decide +kernel
theorem dX8_vacate_70 : decode cX8_vacate 70 = .ok (.getfield 235, 3) := by decide +kernel
theorem dX8_vacate_73 : decode cX8_vacate 73 = .ok (.iload_n 1, 1) := by decide +kernel
theorem dX8_vacate_74 : decode cX8_vacate 74 = .ok (.aload_n 0, 1) := by decide +kernel
theorem dX8_vacate_75 : decode cX8_vacate 75 = .ok (.getfield 33, 3) := by decide +kernel
theorem dX8_vacate_78 : decode cX8_vacate 78 = .ok (.getfield 264, 3) := by decide +kernel
theorem dX8_vacate_81 : decode cX8_vacate 81 = .ok (.iload_n 2, 1) := by decide +kernel
theorem dX8_vacate_82 : decode cX8_vacate 82 = .ok (.iaload, 1) := by decide +kernel
theorem dX8_vacate_83 : decode cX8_vacate 83 = .ok (.iastore, 1) := by decide +kernel
theorem dX8_vacate_84 : decode cX8_vacate 84 = .ok (.iload_n 3, 1) := by decide +kernel
theorem dX8_vacate_85 : decode cX8_vacate 85 = .ok (.ireturn, 1) := by decide +kernel
theorem dX8_appeal_0 : decode cX8_appeal 0 = .ok (.aload_n 0, 1) := by decide +kernel
theorem dX8_appeal_1 : decode cX8_appeal 1 = .ok (.iload_n 1, 1) := by decide +kernel
theorem dX8_appeal_2 : decode cX8_appeal 2 = .ok (.invokevirtual 169, 3) := by decide +kernel
theorem dX8_appeal_5 : decode cX8_appeal 5 = .ok (.aload_n 0, 1) := by decide +kernel
theorem dX8_appeal_6 : decode cX8_appeal 6 = .ok (.aload_n 0, 1) := by decide +kernel
theorem dX8_appeal_7 : decode cX8_appeal 7 = .ok (.getfield 26, 3) := by decide +kernel
theorem dX8_appeal_10 : decode cX8_appeal 10 = .ok (.getfield 195, 3) := by decide +kernel
theorem dX8_appeal_13 : decode cX8_appeal 13 = .ok (.iload_n 1, 1) := by decide +kernel
theorem dX8_appeal_14 : decode cX8_appeal 14 = .ok (.iaload, 1) := by decide +kernel
theorem dX8_appeal_15 : decode cX8_appeal 15 = .ok (.iconst 2, 1) := by decide +kernel
theorem dX8_appeal_16 : decode cX8_appeal 16 = .ok (.if_icmp .ne 46, 3) := by decide +kernel
theorem dX8_appeal_19 : decode cX8_appeal 19 = .ok (.aload_n 0, 1) := by decide +kernel
theorem dX8_appeal_20 : decode cX8_appeal 20 = .ok (.getfield 26, 3) := by decide +kernel
theorem dX8_appeal_23 : decode cX8_appeal 23 = .ok (.getfield 267, 3) := by decide +kernel
theorem dX8_appeal_26 : decode cX8_appeal 26 = .ok (.iload_n 1, 1) := by decide +kernel
theorem dX8_appeal_27 : decode cX8_appeal 27 = .ok (.iaload, 1) := by decide +kernel
theorem dX8_appeal_28 : decode cX8_appeal 28 = .ok (.ifCond .ne 34, 3) := by decide +kernel
theorem dX8_appeal_31 : decode cX8_appeal 31 = .ok (.aload_n 0, 1) := by decide +kernel
theorem dX8_appeal_32 : decode cX8_appeal 32 = .ok (.getfield 33, 3) := by decide +kernel
theorem dX8_appeal_35 : decode cX8_appeal 35 = .ok (.iload_n 1, 1) := by decide +kernel
theorem dX8_appeal_36 : decode cX8_appeal 36 = .ok (.invokevirtual 270, 3) := by decide +kernel
theorem dX8_appeal_39 : decode cX8_appeal 39 = .ok (.iconst 2, 1) := by decide +kernel
theorem dX8_appeal_40 : decode cX8_appeal 40 = .ok (.if_icmp .ge 22, 3) := by decide +kernel
theorem dX8_appeal_43 : decode cX8_appeal 43 = .ok (.aload_n 0, 1) := by decide +kernel
theorem dX8_appeal_44 : decode cX8_appeal 44 = .ok (.aload_n 0, 1) := by decide +kernel
theorem dX8_appeal_45 : decode cX8_appeal 45 = .ok (.getfield 33, 3) := by decide +kernel
theorem dX8_appeal_48 : decode cX8_appeal 48 = .ok (.iload_n 1, 1) := by decide +kernel
theorem dX8_appeal_49 : decode cX8_appeal 49 = .ok (.invokevirtual 273, 3) := by decide +kernel
theorem dX8_appeal_52 : decode cX8_appeal 52 = .ok (.invokevirtual 220, 3) := by decide +kernel
theorem dX8_appeal_55 : decode cX8_appeal 55 = .ok (.ifCond .ne 7, 3) := by decide +kernel
theorem dX8_appeal_58 : decode cX8_appeal 58 = .ok (.iconst 1, 1) := by decide +kernel
theorem dX8_appeal_59 : decode cX8_appeal 59 = .ok (.goto 4, 3) := by decide +kernel
theorem dX8_appeal_62 : decode cX8_appeal 62 = .ok (.iconst 0, 1) := by decide +kernel
theorem dX8_appeal_63 : decode cX8_appeal 63 = .ok (.invokevirtual 201, 3) := by decide +kernel
theorem dX8_appeal_66 : decode cX8_appeal 66 = .ok (.aload_n 0, 1) := by decide +kernel
theorem dX8_appeal_67 : decode cX8_appeal 67 = .ok (.bipush 7, 2) := by decide +kernel
theorem dX8_appeal_69 : decode cX8_appeal 69 = .ok (.iload_n 1, 1) := by decide +kernel
theorem dX8_appeal_70 : decode cX8_appeal 70 = .ok (.iconst 0, 1) := by decide +kernel
theorem dX8_appeal_71 : decode cX8_appeal 71 = .ok (.iconst 0, 1) := by decide +kernel
theorem dX8_appeal_72 : decode cX8_appeal 72 = .ok (.invokevirtual 205, 3) := by decide +kernel
theorem dX8_appeal_75 : decode cX8_appeal 75 = .ok (.istore_n 2, 1) := by decide +kernel
theorem dX8_appeal_76 : decode cX8_appeal 76 = .ok (.aload_n 0, 1) := by decide +kernel
theorem dX8_appeal_77 : decode cX8_appeal 77 = .ok (.getfield 26, 3) := by decide +kernel
theorem dX8_appeal_80 : decode cX8_appeal 80 = .ok (.getfield 195, 3) := by decide +kernel
theorem dX8_appeal_83 : decode cX8_appeal 83 = .ok (.iload_n 1, 1) := by decide +kernel
theorem dX8_appeal_84 : decode cX8_appeal 84 = .ok (.iconst 3, 1) := by decide +kernel
theorem dX8_appeal_85 : decode cX8_appeal 85 = .ok (.iastore, 1) := by decide +kernel
theorem dX8_appeal_86 : decode cX8_appeal 86 = .ok (.iload_n 2, 1) := by decide +kernel
theorem dX8_appeal_87 : decode cX8_appeal 87 = .ok (.ireturn, 1) := by decide +kernel
theorem dX8_decide_0 : decode cX8_decide 0 = .ok (.aload_n 0, 1) := by decide +kernel
theorem dX8_decide_1 : decode cX8_decide 1 = .ok (.iload_n 1, 1) := by decide +kernel
theorem dX8_decide_2 : decode cX8_decide 2 = .ok (.invokevirtual 169, 3) := by decide +kernel
theorem dX8_decide_5 : decode cX8_decide 5 = .ok (.iload_n 2, 1) := by decide +kernel
theorem dX8_decide_6 : decode cX8_decide 6 = .ok (.ifCond .lt 8, 3) := by decide +kernel
theorem dX8_decide_9 : decode cX8_decide 9 = .ok (.iload_n 2, 1) := by decide +kernel
theorem dX8_decide_10 : decode cX8_decide 10 = .ok (.iconst 2, 1) := by decide +kernel
theorem dX8_decide_11 : decode cX8_decide 11 = .ok (.if_icmp .le 14, 3) := by decide +kernel
theorem dX8_decide_14 : decode cX8_decide 14 = .ok (.new 80, 3) := by decide +kernel
theorem dX8_decide_17 : decode cX8_decide 17 = .ok (.dup, 1) := by decide +kernel
theorem dX8_decide_18 : decode cX8_decide 18 = .ok (.ldc_w 276, 3) := by decide +kernel
theorem dX8_decide_21 : decode cX8_decide 21 = .ok (.invokespecial 84, 3) := by decide +kernel
theorem dX8_decide_24 : decode cX8_decide 24 = .ok (.athrow, 1) := by decide +kernel
theorem dX8_decide_25 : decode cX8_decide 25 = .ok (.iload_n 2, 1) := by decide +kernel
theorem dX8_decide_26 : decode cX8_decide 26 = .ok (.iconst 2, 1) := by decide +kernel
theorem dX8_decide_27 : decode cX8_decide 27 = .ok (.if_icmp .ne 31, 3) := by decide +kernel
theorem dX8_decide_30 : decode cX8_decide 30 = .ok (.iload_n 3, 1) := by decide +kernel
theorem dX8_decide_31 : decode cX8_decide 31 = .ok (.ifCond .lt 16, 3) := by decide +kernel
theorem dX8_decide_34 : decode cX8_decide 34 = .ok (.iload_n 3, 1) := by decide +kernel
theorem dX8_decide_35 : decode cX8_decide 35 = .ok (.aload_n 0, 1) := by decide +kernel
theorem dX8_decide_36 : decode cX8_decide 36 = .ok (.getfield 26, 3) := by decide +kernel
theorem dX8_decide_39 : decode cX8_decide 39 = .ok (.getfield 235, 3) := by decide +kernel
theorem dX8_decide_42 : decode cX8_decide 42 = .ok (.iload_n 1, 1) := by decide +kernel
theorem dX8_decide_43 : decode cX8_decide 43 = .ok (.iaload, 1) := by decide +kernel
theorem dX8_decide_44 : decode cX8_decide 44 = .ok (.if_icmp .le 14, 3) := by decide +kernel
theorem dX8_decide_47 : decode cX8_decide 47 = .ok (.new 80, 3) := by decide +kernel
theorem dX8_decide_50 : decode cX8_decide 50 = .ok (.dup, 1) := by decide +kernel
theorem dX8_decide_51 : decode cX8_decide 51 = .ok (.ldc_w 278, 3) := by decide +kernel
theorem dX8_decide_54 : decode cX8_decide 54 = .ok (.invokespecial 84, 3) := by decide +kernel
theorem dX8_decide_57 : decode cX8_decide 57 = .ok (.athrow, 1) := by decide +kernel
theorem dX8_decide_58 : decode cX8_decide 58 = .ok (.aload_n 0, 1) := by decide +kernel
theorem dX8_decide_59 : decode cX8_decide 59 = .ok (.aload_n 0, 1) := by decide +kernel
theorem dX8_decide_60 : decode cX8_decide 60 = .ok (.getfield 26, 3) := by decide +kernel
theorem dX8_decide_63 : decode cX8_decide 63 = .ok (.getfield 195, 3) := by decide +kernel
theorem dX8_decide_66 : decode cX8_decide 66 = .ok (.iload_n 1, 1) := by decide +kernel
theorem dX8_decide_67 : decode cX8_decide 67 = .ok (.iaload, 1) := by decide +kernel
theorem dX8_decide_68 : decode cX8_decide 68 = .ok (.iconst 3, 1) := by decide +kernel
theorem dX8_decide_69 : decode cX8_decide 69 = .ok (.if_icmp .ne 7, 3) := by decide +kernel
theorem dX8_decide_72 : decode cX8_decide 72 = .ok (.iconst 1, 1) := by decide +kernel
theorem dX8_decide_73 : decode cX8_decide 73 = .ok (.goto 4, 3) := by decide +kernel
theorem dX8_decide_76 : decode cX8_decide 76 = .ok (.iconst 0, 1) := by decide +kernel
theorem dX8_decide_77 : decode cX8_decide 77 = .ok (.invokevirtual 201, 3) := by decide +kernel
theorem dX8_decide_80 : decode cX8_decide 80 = .ok (.aload_n 0, 1) := by decide +kernel
theorem dX8_decide_81 : decode cX8_decide 81 = .ok (.getfield 33, 3) := by decide +kernel
theorem dX8_decide_84 : decode cX8_decide 84 = .ok (.iconst 5, 1) := by decide +kernel
theorem dX8_decide_85 : decode cX8_decide 85 = .ok (.iload_n 1, 1) := by decide +kernel
theorem dX8_decide_86 : decode cX8_decide 86 = .ok (.invokevirtual 280, 3) := by decide +kernel
theorem dX8_decide_89 : decode cX8_decide 89 = .ok (.istore 4, 2) := by decide +kernel
theorem dX8_decide_91 : decode cX8_decide 91 = .ok (.aload_n 0, 1) := by decide +kernel
theorem dX8_decide_92 : decode cX8_decide 92 = .ok (.bipush 8, 2) := by decide +kernel
theorem dX8_decide_94 : decode cX8_decide 94 = .ok (.iload_n 1, 1) := by decide +kernel
theorem dX8_decide_95 : decode cX8_decide 95 = .ok (.iload_n 2, 1) := by decide +kernel
theorem dX8_decide_96 : decode cX8_decide 96 = .ok (.iload_n 2, 1) := by decide +kernel
theorem dX8_decide_97 : decode cX8_decide 97 = .ok (.iconst 2, 1) := by decide +kernel
theorem dX8_decide_98 : decode cX8_decide 98 = .ok (.if_icmp .ne 7, 3) := by decide +kernel
theorem dX8_decide_101 : decode cX8_decide 101 = .ok (.iload_n 3, 1) := by decide +kernel
theorem dX8_decide_102 : decode cX8_decide 102 = .ok (.goto 4, 3) := by decide +kernel
theorem dX8_decide_105 : decode cX8_decide 105 = .ok (.iconst 0, 1) := by decide +kernel
theorem dX8_decide_106 : decode cX8_decide 106 = .ok (.invokevirtual 205, 3) := by decide +kernel
theorem dX8_decide_109 : decode cX8_decide 109 = .ok (.istore 5, 2) := by decide +kernel
theorem dX8_decide_111 : decode cX8_decide 111 = .ok (.aload_n 0, 1) := by decide +kernel
theorem dX8_decide_112 : decode cX8_decide 112 = .ok (.getfield 26, 3) := by decide +kernel
theorem dX8_decide_115 : decode cX8_decide 115 = .ok (.getfield 195, 3) := by decide +kernel
theorem dX8_decide_118 : decode cX8_decide 118 = .ok (.iload_n 1, 1) := by decide +kernel
theorem dX8_decide_119 : decode cX8_decide 119 = .ok (.iload_n 2, 1) := by decide +kernel
theorem dX8_decide_120 : decode cX8_decide 120 = .ok (.invokestatic 284, 3) := by decide +kernel
theorem dX8_decide_123 : decode cX8_decide 123 = .ok (.iastore, 1) := by decide +kernel
theorem dX8_decide_124 : decode cX8_decide 124 = .ok (.iload_n 2, 1) := by decide +kernel
theorem dX8_decide_125 : decode cX8_decide 125 = .ok (.iconst 2, 1) := by decide +kernel
theorem dX8_decide_126 : decode cX8_decide 126 = .ok (.if_icmp .ne 38, 3) := by decide +kernel
theorem dX8_decide_129 : decode cX8_decide 129 = .ok (.aload_n 0, 1) := by decide +kernel
theorem dX8_decide_130 : decode cX8_decide 130 = .ok (.getfield 26, 3) := by decide +kernel
theorem dX8_decide_133 : decode cX8_decide 133 = .ok (.getfield 243, 3) := by decide +kernel
theorem dX8_decide_136 : decode cX8_decide 136 = .ok (.iload_n 1, 1) := by decide +kernel
theorem dX8_decide_137 : decode cX8_decide 137 = .ok (.iload_n 3, 1) := by decide +kernel
theorem dX8_decide_138 : decode cX8_decide 138 = .ok (.iastore, 1) := by decide +kernel
theorem dX8_decide_139 : decode cX8_decide 139 = .ok (.iload 4, 2) := by decide +kernel
theorem dX8_decide_141 : decode cX8_decide 141 = .ok (.iconst (-1), 1) := by decide +kernel
theorem dX8_decide_142 : decode cX8_decide 142 = .ok (.if_icmp .eq 22, 3) := by decide +kernel
theorem dX8_decide_145 : decode cX8_decide 145 = .ok (.aload_n 0, 1) := by decide +kernel
theorem dX8_decide_146 : decode cX8_decide 146 = .ok (.getfield 26, 3) := by decide +kernel
theorem dX8_decide_149 : decode cX8_decide 149 = .ok (.getfield 235, 3) := by decide +kernel
theorem dX8_decide_152 : decode cX8_decide 152 = .ok (.iload_n 1, 1) := by decide +kernel
theorem dX8_decide_153 : decode cX8_decide 153 = .ok (.aload_n 0, 1) := by decide +kernel
theorem dX8_decide_154 : decode cX8_decide 154 = .ok (.getfield 33, 3) := by decide +kernel
theorem dX8_decide_157 : decode cX8_decide 157 = .ok (.getfield 264, 3) := by decide +kernel
theorem dX8_decide_160 : decode cX8_decide 160 = .ok (.iload 4, 2) := by decide +kernel
theorem dX8_decide_162 : decode cX8_decide 162 = .ok (.iaload, 1) := by decide +kernel
theorem dX8_decide_163 : decode cX8_decide 163 = .ok (.iastore, 1) := by decide +kernel
theorem dX8_decide_164 : decode cX8_decide 164 = .ok (.iload 5, 2) := by decide +kernel
theorem dX8_decide_166 : decode cX8_decide 166 = .ok (.ireturn, 1) := by decide +kernel
theorem dX8_settle_0 : decode cX8_settle 0 = .ok (.aload_n 0, 1) := by decide +kernel
theorem dX8_settle_1 : decode cX8_settle 1 = .ok (.iload_n 1, 1) := by decide +kernel
theorem dX8_settle_2 : decode cX8_settle 2 = .ok (.invokevirtual 169, 3) := by decide +kernel
theorem dX8_settle_5 : decode cX8_settle 5 = .ok (.aload_n 0, 1) := by decide +kernel
theorem dX8_settle_6 : decode cX8_settle 6 = .ok (.getfield 26, 3) := by decide +kernel
theorem dX8_settle_9 : decode cX8_settle 9 = .ok (.getfield 195, 3) := by decide +kernel
theorem dX8_settle_12 : decode cX8_settle 12 = .ok (.iload_n 1, 1) := by decide +kernel
theorem dX8_settle_13 : decode cX8_settle 13 = .ok (.iaload, 1) := by decide +kernel
theorem dX8_settle_14 : decode cX8_settle 14 = .ok (.istore_n 2, 1) := by decide +kernel
theorem dX8_settle_15 : decode cX8_settle 15 = .ok (.aload_n 0, 1) := by decide +kernel
theorem dX8_settle_16 : decode cX8_settle 16 = .ok (.iload_n 2, 1) := by decide +kernel
theorem dX8_settle_17 : decode cX8_settle 17 = .ok (.ifCond .eq 13, 3) := by decide +kernel
theorem dX8_settle_20 : decode cX8_settle 20 = .ok (.iload_n 2, 1) := by decide +kernel
theorem dX8_settle_21 : decode cX8_settle 21 = .ok (.iconst 2, 1) := by decide +kernel
theorem dX8_settle_22 : decode cX8_settle 22 = .ok (.if_icmp .eq 8, 3) := by decide +kernel
theorem dX8_settle_25 : decode cX8_settle 25 = .ok (.iload_n 2, 1) := by decide +kernel
theorem dX8_settle_26 : decode cX8_settle 26 = .ok (.iconst 3, 1) := by decide +kernel
theorem dX8_settle_27 : decode cX8_settle 27 = .ok (.if_icmp .ne 7, 3) := by decide +kernel
theorem dX8_settle_30 : decode cX8_settle 30 = .ok (.iconst 1, 1) := by decide +kernel
theorem dX8_settle_31 : decode cX8_settle 31 = .ok (.goto 4, 3) := by decide +kernel
theorem dX8_settle_34 : decode cX8_settle 34 = .ok (.iconst 0, 1) := by decide +kernel
theorem dX8_settle_35 : decode cX8_settle 35 = .ok (.invokevirtual 201, 3) := by decide +kernel
theorem dX8_settle_38 : decode cX8_settle 38 = .ok (.aload_n 0, 1) := by decide +kernel
theorem dX8_settle_39 : decode cX8_settle 39 = .ok (.bipush 9, 2) := by decide +kernel
theorem dX8_settle_41 : decode cX8_settle 41 = .ok (.iload_n 1, 1) := by decide +kernel
theorem dX8_settle_42 : decode cX8_settle 42 = .ok (.iconst 0, 1) := by decide +kernel
theorem dX8_settle_43 : decode cX8_settle 43 = .ok (.iconst 0, 1) := by decide +kernel
theorem dX8_settle_44 : decode cX8_settle 44 = .ok (.invokevirtual 205, 3) := by decide +kernel
theorem dX8_settle_47 : decode cX8_settle 47 = .ok (.istore_n 3, 1) := by decide +kernel
theorem dX8_settle_48 : decode cX8_settle 48 = .ok (.aload_n 0, 1) := by decide +kernel
theorem dX8_settle_49 : decode cX8_settle 49 = .ok (.getfield 26, 3) := by decide +kernel
theorem dX8_settle_52 : decode cX8_settle 52 = .ok (.getfield 195, 3) := by decide +kernel
theorem dX8_settle_55 : decode cX8_settle 55 = .ok (.iload_n 1, 1) := by decide +kernel
theorem dX8_settle_56 : decode cX8_settle 56 = .ok (.iconst 4, 1) := by decide +kernel
theorem dX8_settle_57 : decode cX8_settle 57 = .ok (.iastore, 1) := by decide +kernel
theorem dX8_settle_58 : decode cX8_settle 58 = .ok (.iload_n 3, 1) := by decide +kernel
theorem dX8_settle_59 : decode cX8_settle 59 = .ok (.ireturn, 1) := by decide +kernel
theorem dX8_pay_0 : decode cX8_pay 0 = .ok (.aload_n 0, 1) := by decide +kernel
theorem dX8_pay_1 : decode cX8_pay 1 = .ok (.iload_n 1, 1) := by decide +kernel
theorem dX8_pay_2 : decode cX8_pay 2 = .ok (.invokevirtual 169, 3) := by decide +kernel
theorem dX8_pay_5 : decode cX8_pay 5 = .ok (.aload_n 0, 1) := by decide +kernel
theorem dX8_pay_6 : decode cX8_pay 6 = .ok (.iload_n 2, 1) := by decide +kernel
theorem dX8_pay_7 : decode cX8_pay 7 = .ok (.ldc_w 287, 3) := by decide +kernel
theorem dX8_pay_10 : decode cX8_pay 10 = .ok (.invokevirtual 155, 3) := by decide +kernel
theorem dX8_pay_13 : decode cX8_pay 13 = .ok (.aload_n 0, 1) := by decide +kernel
theorem dX8_pay_14 : decode cX8_pay 14 = .ok (.aload_n 0, 1) := by decide +kernel
theorem dX8_pay_15 : decode cX8_pay 15 = .ok (.getfield 26, 3) := by decide +kernel
theorem dX8_pay_18 : decode cX8_pay 18 = .ok (.getfield 195, 3) := by decide +kernel
theorem dX8_pay_21 : decode cX8_pay 21 = .ok (.iload_n 1, 1) := by decide +kernel
theorem dX8_pay_22 : decode cX8_pay 22 = .ok (.iaload, 1) := by decide +kernel
theorem dX8_pay_23 : decode cX8_pay 23 = .ok (.iconst 2, 1) := by decide +kernel
theorem dX8_pay_24 : decode cX8_pay 24 = .ok (.if_icmp .ne 16, 3) := by decide +kernel
theorem dX8_pay_27 : decode cX8_pay 27 = .ok (.iload_n 2, 1) := by decide +kernel
theorem dX8_pay_28 : decode cX8_pay 28 = .ok (.aload_n 0, 1) := by decide +kernel
theorem dX8_pay_29 : decode cX8_pay 29 = .ok (.iload_n 1, 1) := by decide +kernel
theorem dX8_pay_30 : decode cX8_pay 30 = .ok (.invokevirtual 288, 3) := by decide +kernel
theorem dX8_pay_33 : decode cX8_pay 33 = .ok (.if_icmp .gt 7, 3) := by decide +kernel
theorem dX8_pay_36 : decode cX8_pay 36 = .ok (.iconst 1, 1) := by decide +kernel
theorem dX8_pay_37 : decode cX8_pay 37 = .ok (.goto 4, 3) := by decide +kernel
theorem dX8_pay_40 : decode cX8_pay 40 = .ok (.iconst 0, 1) := by decide +kernel
theorem dX8_pay_41 : decode cX8_pay 41 = .ok (.invokevirtual 201, 3) := by decide +kernel
theorem dX8_pay_44 : decode cX8_pay 44 = .ok (.aload_n 0, 1) := by decide +kernel
theorem dX8_pay_45 : decode cX8_pay 45 = .ok (.bipush 10, 2) := by decide +kernel
theorem dX8_pay_47 : decode cX8_pay 47 = .ok (.iload_n 1, 1) := by decide +kernel
theorem dX8_pay_48 : decode cX8_pay 48 = .ok (.iload_n 2, 1) := by decide +kernel
theorem dX8_pay_49 : decode cX8_pay 49 = .ok (.iconst 0, 1) := by decide +kernel
theorem dX8_pay_50 : decode cX8_pay 50 = .ok (.invokevirtual 205, 3) := by decide +kernel
theorem dX8_pay_53 : decode cX8_pay 53 = .ok (.pop, 1) := by decide +kernel
theorem dX8_pay_54 : decode cX8_pay 54 = .ok (.aload_n 0, 1) := by decide +kernel
theorem dX8_pay_55 : decode cX8_pay 55 = .ok (.getfield 26, 3) := by decide +kernel
theorem dX8_pay_58 : decode cX8_pay 58 = .ok (.getfield 267, 3) := by decide +kernel
theorem dX8_pay_61 : decode cX8_pay 61 = .ok (.iload_n 1, 1) := by decide +kernel
theorem dX8_pay_62 : decode cX8_pay 62 = .ok (.dup2, 1) := by decide +kernel
theorem dX8_pay_63 : decode cX8_pay 63 = .ok (.iaload, 1) := by decide +kernel
theorem dX8_pay_64 : decode cX8_pay 64 = .ok (.iload_n 2, 1) := by decide +kernel
theorem dX8_pay_65 : decode cX8_pay 65 = .ok (.iadd, 1) := by decide +kernel
theorem dX8_pay_66 : decode cX8_pay 66 = .ok (.iastore, 1) := by decide +kernel
theorem dX8_pay_67 : decode cX8_pay 67 = .ok (.aload_n 0, 1) := by decide +kernel
theorem dX8_pay_68 : decode cX8_pay 68 = .ok (.iload_n 1, 1) := by decide +kernel
theorem dX8_pay_69 : decode cX8_pay 69 = .ok (.invokevirtual 288, 3) := by decide +kernel
theorem dX8_pay_72 : decode cX8_pay 72 = .ok (.istore_n 3, 1) := by decide +kernel
theorem dX8_pay_73 : decode cX8_pay 73 = .ok (.iload_n 3, 1) := by decide +kernel
theorem dX8_pay_74 : decode cX8_pay 74 = .ok (.ifCond .ne 13, 3) := by decide +kernel
theorem dX8_pay_77 : decode cX8_pay 77 = .ok (.aload_n 0, 1) := by decide +kernel
theorem dX8_pay_78 : decode cX8_pay 78 = .ok (.getfield 26, 3) := by decide +kernel
theorem dX8_pay_81 : decode cX8_pay 81 = .ok (.getfield 195, 3) := by decide +kernel
theorem dX8_pay_84 : decode cX8_pay 84 = .ok (.iload_n 1, 1) := by decide +kernel
theorem dX8_pay_85 : decode cX8_pay 85 = .ok (.iconst 5, 1) := by decide +kernel
theorem dX8_pay_86 : decode cX8_pay 86 = .ok (.iastore, 1) := by decide +kernel
theorem dX8_pay_87 : decode cX8_pay 87 = .ok (.iload_n 3, 1) := by decide +kernel
theorem dX8_pay_88 : decode cX8_pay 88 = .ok (.ireturn, 1) := by decide +kernel
theorem dX8_stay_0 : decode cX8_stay 0 = .ok (.aload_n 0, 1) := by decide +kernel
theorem dX8_stay_1 : decode cX8_stay 1 = .ok (.iload_n 1, 1) := by decide +kernel
theorem dX8_stay_2 : decode cX8_stay 2 = .ok (.invokevirtual 124, 3) := by decide +kernel
theorem dX8_stay_5 : decode cX8_stay 5 = .ok (.aload_n 0, 1) := by decide +kernel
theorem dX8_stay_6 : decode cX8_stay 6 = .ok (.aload_n 0, 1) := by decide +kernel
theorem dX8_stay_7 : decode cX8_stay 7 = .ok (.getfield 12, 3) := by decide +kernel
theorem dX8_stay_10 : decode cX8_stay 10 = .ok (.iload_n 1, 1) := by decide +kernel
theorem dX8_stay_11 : decode cX8_stay 11 = .ok (.invokevirtual 291, 3) := by decide +kernel
theorem dX8_stay_14 : decode cX8_stay 14 = .ok (.iload_n 2, 1) := by decide +kernel
theorem dX8_stay_15 : decode cX8_stay 15 = .ok (.if_icmp .eq 7, 3) := by decide +kernel
theorem dX8_stay_18 : decode cX8_stay 18 = .ok (.iconst 1, 1) := by decide +kernel
theorem dX8_stay_19 : decode cX8_stay 19 = .ok (.goto 4, 3) := by decide +kernel
theorem dX8_stay_22 : decode cX8_stay 22 = .ok (.iconst 0, 1) := by decide +kernel
theorem dX8_stay_23 : decode cX8_stay 23 = .ok (.invokevirtual 201, 3) := by decide +kernel
theorem dX8_stay_26 : decode cX8_stay 26 = .ok (.aload_n 0, 1) := by decide +kernel
theorem dX8_stay_27 : decode cX8_stay 27 = .ok (.iload_n 2, 1) := by decide +kernel
theorem dX8_stay_28 : decode cX8_stay 28 = .ok (.ifCond .eq 8, 3) := by decide +kernel
theorem dX8_stay_31 : decode cX8_stay 31 = .ok (.bipush 11, 2) := by decide +kernel
theorem dX8_stay_33 : decode cX8_stay 33 = .ok (.goto 5, 3) := by decide +kernel
theorem dX8_stay_36 : decode cX8_stay 36 = .ok (.bipush 12, 2) := by decide +kernel
theorem dX8_stay_38 : decode cX8_stay 38 = .ok (.iload_n 1, 1) := by decide +kernel
theorem dX8_stay_39 : decode cX8_stay 39 = .ok (.iconst 0, 1) := by decide +kernel
theorem dX8_stay_40 : decode cX8_stay 40 = .ok (.iconst 0, 1) := by decide +kernel
theorem dX8_stay_41 : decode cX8_stay 41 = .ok (.invokevirtual 205, 3) := by decide +kernel
theorem dX8_stay_44 : decode cX8_stay 44 = .ok (.istore_n 3, 1) := by decide +kernel
theorem dX8_stay_45 : decode cX8_stay 45 = .ok (.aload_n 0, 1) := by decide +kernel
theorem dX8_stay_46 : decode cX8_stay 46 = .ok (.getfield 12, 3) := by decide +kernel
theorem dX8_stay_49 : decode cX8_stay 49 = .ok (.iload_n 1, 1) := by decide +kernel
theorem dX8_stay_50 : decode cX8_stay 50 = .ok (.iload_n 2, 1) := by decide +kernel
theorem dX8_stay_51 : decode cX8_stay 51 = .ok (.invokevirtual 294, 3) := by decide +kernel
theorem dX8_stay_54 : decode cX8_stay 54 = .ok (.iload_n 3, 1) := by decide +kernel
theorem dX8_stay_55 : decode cX8_stay 55 = .ok (.ireturn, 1) := by decide +kernel
theorem dX8_defect_0 : decode cX8_defect 0 = .ok (.aload_n 0, 1) := by decide +kernel
theorem dX8_defect_1 : decode cX8_defect 1 = .ok (.iload_n 1, 1) := by decide +kernel
theorem dX8_defect_2 : decode cX8_defect 2 = .ok (.invokevirtual 298, 3) := by decide +kernel
theorem dX8_defect_5 : decode cX8_defect 5 = .ok (.aload_n 0, 1) := by decide +kernel
theorem dX8_defect_6 : decode cX8_defect 6 = .ok (.getfield 33, 3) := by decide +kernel
theorem dX8_defect_9 : decode cX8_defect 9 = .ok (.getfield 301, 3) := by decide +kernel
theorem dX8_defect_12 : decode cX8_defect 12 = .ok (.iload_n 1, 1) := by decide +kernel
theorem dX8_defect_13 : decode cX8_defect 13 = .ok (.iaload, 1) := by decide +kernel
theorem dX8_defect_14 : decode cX8_defect 14 = .ok (.istore_n 2, 1) := by decide +kernel
theorem dX8_defect_15 : decode cX8_defect 15 = .ok (.iload_n 2, 1) := by decide +kernel
theorem dX8_defect_16 : decode cX8_defect 16 = .ok (.iconst 1, 1) := by decide +kernel
theorem dX8_defect_17 : decode cX8_defect 17 = .ok (.if_icmp .eq 13, 3) := by decide +kernel
theorem dX8_defect_20 : decode cX8_defect 20 = .ok (.iload_n 2, 1) := by decide +kernel
theorem dX8_defect_21 : decode cX8_defect 21 = .ok (.iconst 2, 1) := by decide +kernel
theorem dX8_defect_22 : decode cX8_defect 22 = .ok (.if_icmp .eq 8, 3) := by decide +kernel
theorem dX8_defect_25 : decode cX8_defect 25 = .ok (.iload_n 2, 1) := by decide +kernel
theorem dX8_defect_26 : decode cX8_defect 26 = .ok (.iconst 3, 1) := by decide +kernel
theorem dX8_defect_27 : decode cX8_defect 27 = .ok (.if_icmp .ne 7, 3) := by decide +kernel
theorem dX8_defect_30 : decode cX8_defect 30 = .ok (.iconst 1, 1) := by decide +kernel
theorem dX8_defect_31 : decode cX8_defect 31 = .ok (.goto 4, 3) := by decide +kernel
theorem dX8_defect_34 : decode cX8_defect 34 = .ok (.iconst 0, 1) := by decide +kernel
theorem dX8_defect_35 : decode cX8_defect 35 = .ok (.istore_n 3, 1) := by decide +kernel
theorem dX8_defect_36 : decode cX8_defect 36 = .ok (.iload_n 3, 1) := by decide +kernel
theorem dX8_defect_37 : decode cX8_defect 37 = .ok (.ifCond .eq 14, 3) := by decide +kernel
theorem dX8_defect_40 : decode cX8_defect 40 = .ok (.aload_n 0, 1) := by decide +kernel
theorem dX8_defect_41 : decode cX8_defect 41 = .ok (.getfield 33, 3) := by decide +kernel
theorem dX8_defect_44 : decode cX8_defect 44 = .ok (.iload_n 1, 1) := by decide +kernel
theorem dX8_defect_45 : decode cX8_defect 45 = .ok (.invokevirtual 304, 3) := by decide +kernel
theorem dX8_defect_48 : decode cX8_defect 48 = .ok (.ifCond .eq 14, 3) := by decide +kernel
theorem dX8_defect_51 : decode cX8_defect 51 = .ok (.new 73, 3) := by decide +kernel
theorem dX8_defect_54 : decode cX8_defect 54 = .ok (.dup, 1) := by decide +kernel
theorem dX8_defect_55 : decode cX8_defect 55 = .ok (.ldc_w 307, 3) := by decide +kernel
theorem dX8_defect_58 : decode cX8_defect 58 = .ok (.invokespecial 77, 3) := by decide +kernel
theorem dX8_defect_61 : decode cX8_defect 61 = .ok (.athrow, 1) := by decide +kernel
theorem dX8_defect_62 : decode cX8_defect 62 = .ok (.aload_n 0, 1) := by decide +kernel
theorem dX8_defect_63 : decode cX8_defect 63 = .ok (.getfield 33, 3) := by decide +kernel
theorem dX8_defect_66 : decode cX8_defect 66 = .ok (.getfield 309, 3) := by decide +kernel
theorem dX8_defect_69 : decode cX8_defect 69 = .ok (.iload_n 1, 1) := by decide +kernel
theorem dX8_defect_70 : decode cX8_defect 70 = .ok (.aload_n 0, 1) := by decide +kernel
theorem dX8_defect_71 : decode cX8_defect 71 = .ok (.getfield 12, 3) := by decide +kernel
theorem dX8_defect_74 : decode cX8_defect 74 = .ok (.getfield 69, 3) := by decide +kernel
theorem dX8_defect_77 : decode cX8_defect 77 = .ok (.iastore, 1) := by decide +kernel
theorem dX8_defect_78 : decode cX8_defect 78 = .ok (.aload_n 0, 1) := by decide +kernel
theorem dX8_defect_79 : decode cX8_defect 79 = .ok (.getfield 33, 3) := by decide +kernel
theorem dX8_defect_82 : decode cX8_defect 82 = .ok (.getfield 312, 3) := by decide +kernel
theorem dX8_defect_85 : decode cX8_defect 85 = .ok (.iload_n 1, 1) := by decide +kernel
theorem dX8_defect_86 : decode cX8_defect 86 = .ok (.aload_n 0, 1) := by decide +kernel
theorem dX8_defect_87 : decode cX8_defect 87 = .ok (.getfield 12, 3) := by decide +kernel
theorem dX8_defect_90 : decode cX8_defect 90 = .ok (.getfield 105, 3) := by decide +kernel
theorem dX8_defect_93 : decode cX8_defect 93 = .ok (.iconst 4, 1) := by decide +kernel
theorem dX8_defect_94 : decode cX8_defect 94 = .ok (.iaload, 1) := by decide +kernel
theorem dX8_defect_95 : decode cX8_defect 95 = .ok (.iastore, 1) := by decide +kernel
theorem dX8_defect_96 : decode cX8_defect 96 = .ok (.aload_n 0, 1) := by decide +kernel
theorem dX8_defect_97 : decode cX8_defect 97 = .ok (.getfield 33, 3) := by decide +kernel
theorem dX8_defect_100 : decode cX8_defect 100 = .ok (.getfield 315, 3) := by decide +kernel
theorem dX8_defect_103 : decode cX8_defect 103 = .ok (.iload_n 1, 1) := by decide +kernel
theorem dX8_defect_104 : decode cX8_defect 104 = .ok (.aload_n 0, 1) := by decide +kernel
theorem dX8_defect_105 : decode cX8_defect 105 = .ok (.getfield 12, 3) := by decide +kernel
theorem dX8_defect_108 : decode cX8_defect 108 = .ok (.getfield 109, 3) := by decide +kernel
theorem dX8_defect_111 : decode cX8_defect 111 = .ok (.iconst 4, 1) := by decide +kernel
theorem dX8_defect_112 : decode cX8_defect 112 = .ok (.baload, 1) := by decide +kernel
theorem dX8_defect_113 : decode cX8_defect 113 = .ok (.bastore, 1) := by decide +kernel
theorem dX8_defect_114 : decode cX8_defect 114 = .ok (.aload_n 0, 1) := by decide +kernel
theorem dX8_defect_115 : decode cX8_defect 115 = .ok (.iload_n 1, 1) := by decide +kernel
theorem dX8_defect_116 : decode cX8_defect 116 = .ok (.invokevirtual 318, 3) := by decide +kernel
theorem dX8_defect_119 : decode cX8_defect 119 = .ok (.ireturn, 1) := by decide +kernel
theorem dX8_cure_0 : decode cX8_cure 0 = .ok (.aload_n 0, 1) := by decide +kernel
theorem dX8_cure_1 : decode cX8_cure 1 = .ok (.iload_n 1, 1) := by decide +kernel
theorem dX8_cure_2 : decode cX8_cure 2 = .ok (.invokevirtual 298, 3) := by decide +kernel
theorem dX8_cure_5 : decode cX8_cure 5 = .ok (.aload_n 0, 1) := by decide +kernel
theorem dX8_cure_6 : decode cX8_cure 6 = .ok (.getfield 33, 3) := by decide +kernel
theorem dX8_cure_9 : decode cX8_cure 9 = .ok (.iload_n 1, 1) := by decide +kernel
theorem dX8_cure_10 : decode cX8_cure 10 = .ok (.invokevirtual 304, 3) := by decide +kernel
theorem dX8_cure_13 : decode cX8_cure 13 = .ok (.ifCond .eq 30, 3) := by decide +kernel
theorem dX8_cure_16 : decode cX8_cure 16 = .ok (.aload_n 0, 1) := by decide +kernel
theorem dX8_cure_17 : decode cX8_cure 17 = .ok (.getfield 33, 3) := by decide +kernel
theorem dX8_cure_20 : decode cX8_cure 20 = .ok (.getfield 321, 3) := by decide +kernel
theorem dX8_cure_23 : decode cX8_cure 23 = .ok (.iload_n 1, 1) := by decide +kernel
theorem dX8_cure_24 : decode cX8_cure 24 = .ok (.baload, 1) := by decide +kernel
theorem dX8_cure_25 : decode cX8_cure 25 = .ok (.ifCond .ne 18, 3) := by decide +kernel
theorem dX8_cure_28 : decode cX8_cure 28 = .ok (.aload_n 0, 1) := by decide +kernel
theorem dX8_cure_29 : decode cX8_cure 29 = .ok (.getfield 12, 3) := by decide +kernel
theorem dX8_cure_32 : decode cX8_cure 32 = .ok (.aload_n 0, 1) := by decide +kernel
theorem dX8_cure_33 : decode cX8_cure 33 = .ok (.iload_n 1, 1) := by decide +kernel
theorem dX8_cure_34 : decode cX8_cure 34 = .ok (.invokevirtual 318, 3) := by decide +kernel
theorem dX8_cure_37 : decode cX8_cure 37 = .ok (.invokevirtual 324, 3) := by decide +kernel
theorem dX8_cure_40 : decode cX8_cure 40 = .ok (.ifCond .eq 14, 3) := by decide +kernel
theorem dX8_cure_43 : decode cX8_cure 43 = .ok (.new 73, 3) := by decide +kernel
theorem dX8_cure_46 : decode cX8_cure 46 = .ok (.dup, 1) := by decide +kernel
theorem dX8_cure_47 : decode cX8_cure 47 = .ok (.ldc_w 327, 3) := by decide +kernel
theorem dX8_cure_50 : decode cX8_cure 50 = .ok (.invokespecial 77, 3) := by decide +kernel
theorem dX8_cure_53 : decode cX8_cure 53 = .ok (.athrow, 1) := by decide +kernel
theorem dX8_cure_54 : decode cX8_cure 54 = .ok (.aload_n 0, 1) := by decide +kernel
theorem dX8_cure_55 : decode cX8_cure 55 = .ok (.getfield 33, 3) := by decide +kernel
theorem dX8_cure_58 : decode cX8_cure 58 = .ok (.getfield 321, 3) := by decide +kernel
theorem dX8_cure_61 : decode cX8_cure 61 = .ok (.iload_n 1, 1) := by decide +kernel
theorem dX8_cure_62 : decode cX8_cure 62 = .ok (.iconst 1, 1) := by decide +kernel
theorem dX8_cure_63 : decode cX8_cure 63 = .ok (.bastore, 1) := by decide +kernel
theorem dX8_cure_64 : decode cX8_cure 64 = .ok (.iconst 1, 1) := by decide +kernel
theorem dX8_cure_65 : decode cX8_cure 65 = .ok (.ireturn, 1) := by decide +kernel
theorem dX8_extend_0 : decode cX8_extend 0 = .ok (.iload_n 1, 1) := by decide +kernel
theorem dX8_extend_1 : decode cX8_extend 1 = .ok (.iconst 3, 1) := by decide +kernel
theorem dX8_extend_2 : decode cX8_extend 2 = .ok (.if_icmp .ne 14, 3) := by decide +kernel
theorem dX8_extend_5 : decode cX8_extend 5 = .ok (.new 100, 3) := by decide +kernel
theorem dX8_extend_8 : decode cX8_extend 8 = .ok (.dup, 1) := by decide +kernel
theorem dX8_extend_9 : decode cX8_extend 9 = .ok (.ldc_w 329, 3) := by decide +kernel
theorem dX8_extend_12 : decode cX8_extend 12 = .ok (.invokespecial 104, 3) := by decide +kernel
theorem dX8_extend_15 : decode cX8_extend 15 = .ok (.athrow, 1) := by decide +kernel
theorem dX8_extend_16 : decode cX8_extend 16 = .ok (.aload_n 0, 1) := by decide +kernel
theorem dX8_extend_17 : decode cX8_extend 17 = .ok (.iload_n 1, 1) := by decide +kernel
theorem dX8_extend_18 : decode cX8_extend 18 = .ok (.iload_n 2, 1) := by decide +kernel
theorem dX8_extend_19 : decode cX8_extend 19 = .ok (.invokevirtual 331, 3) := by decide +kernel
theorem dX8_extend_22 : decode cX8_extend 22 = .ok (.aload_n 0, 1) := by decide +kernel
theorem dX8_extend_23 : decode cX8_extend 23 = .ok (.iload_n 3, 1) := by decide +kernel
theorem dX8_extend_24 : decode cX8_extend 24 = .ok (.invokevirtual 65, 3) := by decide +kernel
theorem dX8_extend_27 : decode cX8_extend 27 = .ok (.aload_n 0, 1) := by decide +kernel
theorem dX8_extend_28 : decode cX8_extend 28 = .ok (.iload_n 1, 1) := by decide +kernel
theorem dX8_extend_29 : decode cX8_extend 29 = .ok (.iload_n 2, 1) := by decide +kernel
theorem dX8_extend_30 : decode cX8_extend 30 = .ok (.invokevirtual 334, 3) := by decide +kernel
theorem dX8_extend_33 : decode cX8_extend 33 = .ok (.istore 4, 2) := by decide +kernel
theorem dX8_extend_35 : decode cX8_extend 35 = .ok (.iload 4, 2) := by decide +kernel
theorem dX8_extend_37 : decode cX8_extend 37 = .ok (.iconst (-1), 1) := by decide +kernel
theorem dX8_extend_38 : decode cX8_extend 38 = .ok (.if_icmp .ne 7, 3) := by decide +kernel
theorem dX8_extend_41 : decode cX8_extend 41 = .ok (.iconst (-1), 1) := by decide +kernel
theorem dX8_extend_42 : decode cX8_extend 42 = .ok (.goto 9, 3) := by decide +kernel
theorem dX8_extend_45 : decode cX8_extend 45 = .ok (.aload_n 0, 1) := by decide +kernel
theorem dX8_extend_46 : decode cX8_extend 46 = .ok (.iload 4, 2) := by decide +kernel
theorem dX8_extend_48 : decode cX8_extend 48 = .ok (.invokevirtual 337, 3) := by decide +kernel
theorem dX8_extend_51 : decode cX8_extend 51 = .ok (.istore 5, 2) := by decide +kernel
theorem dX8_extend_53 : decode cX8_extend 53 = .ok (.iload 4, 2) := by decide +kernel
theorem dX8_extend_55 : decode cX8_extend 55 = .ok (.iconst (-1), 1) := by decide +kernel
theorem dX8_extend_56 : decode cX8_extend 56 = .ok (.if_icmp .eq 21, 3) := by decide +kernel
theorem dX8_extend_59 : decode cX8_extend 59 = .ok (.iload 5, 2) := by decide +kernel
theorem dX8_extend_61 : decode cX8_extend 61 = .ok (.iconst (-1), 1) := by decide +kernel
theorem dX8_extend_62 : decode cX8_extend 62 = .ok (.if_icmp .eq 15, 3) := by decide +kernel
theorem dX8_extend_65 : decode cX8_extend 65 = .ok (.aload_n 0, 1) := by decide +kernel
theorem dX8_extend_66 : decode cX8_extend 66 = .ok (.getfield 12, 3) := by decide +kernel
theorem dX8_extend_69 : decode cX8_extend 69 = .ok (.iload 5, 2) := by decide +kernel
theorem dX8_extend_71 : decode cX8_extend 71 = .ok (.invokevirtual 324, 3) := by decide +kernel
theorem dX8_extend_74 : decode cX8_extend 74 = .ok (.ifCond .eq 14, 3) := by decide +kernel
theorem dX8_extend_77 : decode cX8_extend 77 = .ok (.new 73, 3) := by decide +kernel
theorem dX8_extend_80 : decode cX8_extend 80 = .ok (.dup, 1) := by decide +kernel
theorem dX8_extend_81 : decode cX8_extend 81 = .ok (.ldc_w 340, 3) := by decide +kernel
theorem dX8_extend_84 : decode cX8_extend 84 = .ok (.invokespecial 77, 3) := by decide +kernel
theorem dX8_extend_87 : decode cX8_extend 87 = .ok (.athrow, 1) := by decide +kernel
theorem dX8_extend_88 : decode cX8_extend 88 = .ok (.aload_n 0, 1) := by decide +kernel
theorem dX8_extend_89 : decode cX8_extend 89 = .ok (.getfield 33, 3) := by decide +kernel
theorem dX8_extend_92 : decode cX8_extend 92 = .ok (.getfield 208, 3) := by decide +kernel
theorem dX8_extend_95 : decode cX8_extend 95 = .ok (.iload 4, 2) := by decide +kernel
theorem dX8_extend_97 : decode cX8_extend 97 = .ok (.dup2, 1) := by decide +kernel
theorem dX8_extend_98 : decode cX8_extend 98 = .ok (.iaload, 1) := by decide +kernel
theorem dX8_extend_99 : decode cX8_extend 99 = .ok (.iload_n 3, 1) := by decide +kernel
theorem dX8_extend_100 : decode cX8_extend 100 = .ok (.iadd, 1) := by decide +kernel
theorem dX8_extend_101 : decode cX8_extend 101 = .ok (.iastore, 1) := by decide +kernel
theorem dX8_extend_102 : decode cX8_extend 102 = .ok (.aload_n 0, 1) := by decide +kernel
theorem dX8_extend_103 : decode cX8_extend 103 = .ok (.iload 4, 2) := by decide +kernel
theorem dX8_extend_105 : decode cX8_extend 105 = .ok (.invokevirtual 337, 3) := by decide +kernel
theorem dX8_extend_108 : decode cX8_extend 108 = .ok (.ireturn, 1) := by decide +kernel
theorem dX8_hearing_0 : decode cX8_hearing 0 = .ok (.aload_n 0, 1) := by decide +kernel
theorem dX8_hearing_1 : decode cX8_hearing 1 = .ok (.iload_n 1, 1) := by decide +kernel
theorem dX8_hearing_2 : decode cX8_hearing 2 = .ok (.invokevirtual 124, 3) := by decide +kernel
theorem dX8_hearing_5 : decode cX8_hearing 5 = .ok (.iload_n 3, 1) := by decide +kernel
theorem dX8_hearing_6 : decode cX8_hearing 6 = .ok (.ifCond .lt 8, 3) := by decide +kernel
theorem dX8_hearing_9 : decode cX8_hearing 9 = .ok (.iload_n 3, 1) := by decide +kernel
theorem dX8_hearing_10 : decode cX8_hearing 10 = .ok (.iconst 4, 1) := by decide +kernel
theorem dX8_hearing_11 : decode cX8_hearing 11 = .ok (.if_icmp .lt 14, 3) := by decide +kernel
theorem dX8_hearing_14 : decode cX8_hearing 14 = .ok (.new 100, 3) := by decide +kernel
theorem dX8_hearing_17 : decode cX8_hearing 17 = .ok (.dup, 1) := by decide +kernel
theorem dX8_hearing_18 : decode cX8_hearing 18 = .ok (.ldc_w 342, 3) := by decide +kernel
theorem dX8_hearing_21 : decode cX8_hearing 21 = .ok (.invokespecial 104, 3) := by decide +kernel
theorem dX8_hearing_24 : decode cX8_hearing 24 = .ok (.athrow, 1) := by decide +kernel
theorem dX8_hearing_25 : decode cX8_hearing 25 = .ok (.iload_n 2, 1) := by decide +kernel
theorem dX8_hearing_26 : decode cX8_hearing 26 = .ok (.aload_n 0, 1) := by decide +kernel
theorem dX8_hearing_27 : decode cX8_hearing 27 = .ok (.getfield 12, 3) := by decide +kernel
theorem dX8_hearing_30 : decode cX8_hearing 30 = .ok (.getfield 69, 3) := by decide +kernel
theorem dX8_hearing_33 : decode cX8_hearing 33 = .ok (.if_icmp .le 10, 3) := by decide +kernel
theorem dX8_hearing_36 : decode cX8_hearing 36 = .ok (.iload_n 2, 1) := by decide +kernel
theorem dX8_hearing_37 : decode cX8_hearing 37 = .ok (.sipush 990, 3) := by decide +kernel
theorem dX8_hearing_40 : decode cX8_hearing 40 = .ok (.if_icmp .le 13, 3) := by decide +kernel
theorem dX8_hearing_43 : decode cX8_hearing 43 = .ok (.new 80, 3) := by decide +kernel
theorem dX8_hearing_46 : decode cX8_hearing 46 = .ok (.dup, 1) := by decide +kernel
theorem dX8_hearing_47 : decode cX8_hearing 47 = .ok (.ldc 82, 2) := by decide +kernel
theorem dX8_hearing_49 : decode cX8_hearing 49 = .ok (.invokespecial 84, 3) := by decide +kernel
theorem dX8_hearing_52 : decode cX8_hearing 52 = .ok (.athrow, 1) := by decide +kernel
theorem dX8_hearing_53 : decode cX8_hearing 53 = .ok (.aload_n 0, 1) := by decide +kernel
theorem dX8_hearing_54 : decode cX8_hearing 54 = .ok (.getfield 12, 3) := by decide +kernel
theorem dX8_hearing_57 : decode cX8_hearing 57 = .ok (.iload_n 2, 1) := by decide +kernel
theorem dX8_hearing_58 : decode cX8_hearing 58 = .ok (.invokevirtual 94, 3) := by decide +kernel
theorem dX8_hearing_61 : decode cX8_hearing 61 = .ok (.ifCond .ne 26, 3) := by decide +kernel
theorem dX8_hearing_64 : decode cX8_hearing 64 = .ok (.aload_n 0, 1) := by decide +kernel
theorem dX8_hearing_65 : decode cX8_hearing 65 = .ok (.getfield 40, 3) := by decide +kernel
theorem dX8_hearing_68 : decode cX8_hearing 68 = .ok (.getfield 344, 3) := by decide +kernel
theorem dX8_hearing_71 : decode cX8_hearing 71 = .ok (.bipush 40, 2) := by decide +kernel
theorem dX8_hearing_73 : decode cX8_hearing 73 = .ok (.if_icmp .ge 14, 3) := by decide +kernel
theorem dX8_hearing_76 : decode cX8_hearing 76 = .ok (.aload_n 0, 1) := by decide +kernel
theorem dX8_hearing_77 : decode cX8_hearing 77 = .ok (.iconst (-1), 1) := by decide +kernel
theorem dX8_hearing_78 : decode cX8_hearing 78 = .ok (.iload_n 1, 1) := by decide +kernel
theorem dX8_hearing_79 : decode cX8_hearing 79 = .ok (.iload_n 2, 1) := by decide +kernel
theorem dX8_hearing_80 : decode cX8_hearing 80 = .ok (.iload_n 3, 1) := by decide +kernel
theorem dX8_hearing_81 : decode cX8_hearing 81 = .ok (.invokevirtual 345, 3) := by decide +kernel
theorem dX8_hearing_84 : decode cX8_hearing 84 = .ok (.ifCond .eq 14, 3) := by decide +kernel
theorem dX8_hearing_87 : decode cX8_hearing 87 = .ok (.new 73, 3) := by decide +kernel
theorem dX8_hearing_90 : decode cX8_hearing 90 = .ok (.dup, 1) := by decide +kernel
theorem dX8_hearing_91 : decode cX8_hearing 91 = .ok (.ldc_w 349, 3) := by decide +kernel
theorem dX8_hearing_94 : decode cX8_hearing 94 = .ok (.invokespecial 77, 3) := by decide +kernel
theorem dX8_hearing_97 : decode cX8_hearing 97 = .ok (.athrow, 1) := by decide +kernel
theorem dX8_hearing_98 : decode cX8_hearing 98 = .ok (.aload_n 0, 1) := by decide +kernel
theorem dX8_hearing_99 : decode cX8_hearing 99 = .ok (.getfield 40, 3) := by decide +kernel
theorem dX8_hearing_102 : decode cX8_hearing 102 = .ok (.iload_n 1, 1) := by decide +kernel
theorem dX8_hearing_103 : decode cX8_hearing 103 = .ok (.iload_n 2, 1) := by decide +kernel
theorem dX8_hearing_104 : decode cX8_hearing 104 = .ok (.iload_n 3, 1) := by decide +kernel
theorem dX8_hearing_105 : decode cX8_hearing 105 = .ok (.invokevirtual 351, 3) := by decide +kernel
theorem dX8_hearing_108 : decode cX8_hearing 108 = .ok (.ireturn, 1) := by decide +kernel
theorem dX8_continueHearing_0 : decode cX8_continueHearing 0 = .ok (.aload_n 0, 1) := by decide +kernel
theorem dX8_continueHearing_1 : decode cX8_continueHearing 1 = .ok (.iload_n 1, 1) := by decide +kernel
theorem dX8_continueHearing_2 : decode cX8_continueHearing 2 = .ok (.invokevirtual 354, 3) := by decide +kernel
theorem dX8_continueHearing_5 : decode cX8_continueHearing 5 = .ok (.aload_n 0, 1) := by decide +kernel
theorem dX8_continueHearing_6 : decode cX8_continueHearing 6 = .ok (.getfield 40, 3) := by decide +kernel
theorem dX8_continueHearing_9 : decode cX8_continueHearing 9 = .ok (.getfield 357, 3) := by decide +kernel
theorem dX8_continueHearing_12 : decode cX8_continueHearing 12 = .ok (.iload_n 1, 1) := by decide +kernel
theorem dX8_continueHearing_13 : decode cX8_continueHearing 13 = .ok (.iaload, 1) := by decide +kernel
theorem dX8_continueHearing_14 : decode cX8_continueHearing 14 = .ok (.aload_n 0, 1) := by decide +kernel
theorem dX8_continueHearing_15 : decode cX8_continueHearing 15 = .ok (.getfield 12, 3) := by decide +kernel
theorem dX8_continueHearing_18 : decode cX8_continueHearing 18 = .ok (.getfield 69, 3) := by decide +kernel
theorem dX8_continueHearing_21 : decode cX8_continueHearing 21 = .ok (.if_icmp .le 11, 3) := by decide +kernel
theorem dX8_continueHearing_24 : decode cX8_continueHearing 24 = .ok (.aload_n 0, 1) := by decide +kernel
theorem dX8_continueHearing_25 : decode cX8_continueHearing 25 = .ok (.iload_n 1, 1) := by decide +kernel
theorem dX8_continueHearing_26 : decode cX8_continueHearing 26 = .ok (.invokevirtual 360, 3) := by decide +kernel
theorem dX8_continueHearing_29 : decode cX8_continueHearing 29 = .ok (.goto 4, 3) := by decide +kernel
theorem dX8_continueHearing_32 : decode cX8_continueHearing 32 = .ok (.iconst (-1), 1) := by decide +kernel
theorem dX8_continueHearing_33 : decode cX8_continueHearing 33 = .ok (.istore_n 2, 1) := by decide +kernel
theorem dX8_continueHearing_34 : decode cX8_continueHearing 34 = .ok (.iload_n 2, 1) := by decide +kernel
theorem dX8_continueHearing_35 : decode cX8_continueHearing 35 = .ok (.iconst (-1), 1) := by decide +kernel
theorem dX8_continueHearing_36 : decode cX8_continueHearing 36 = .ok (.if_icmp .ne 14, 3) := by decide +kernel
theorem dX8_continueHearing_39 : decode cX8_continueHearing 39 = .ok (.new 73, 3) := by decide +kernel
theorem dX8_continueHearing_42 : decode cX8_continueHearing 42 = .ok (.dup, 1) := by decide +kernel
theorem dX8_continueHearing_43 : decode cX8_continueHearing 43 = .ok (.ldc_w 363, 3) := by decide +kernel
theorem dX8_continueHearing_46 : decode cX8_continueHearing 46 = .ok (.invokespecial 77, 3) := by decide +kernel
theorem dX8_continueHearing_49 : decode cX8_continueHearing 49 = .ok (.athrow, 1) := by decide +kernel
theorem dX8_continueHearing_50 : decode cX8_continueHearing 50 = .ok (.aload_n 0, 1) := by decide +kernel
theorem dX8_continueHearing_51 : decode cX8_continueHearing 51 = .ok (.getfield 40, 3) := by decide +kernel
theorem dX8_continueHearing_54 : decode cX8_continueHearing 54 = .ok (.getfield 357, 3) := by decide +kernel
theorem dX8_continueHearing_57 : decode cX8_continueHearing 57 = .ok (.iload_n 1, 1) := by decide +kernel
theorem dX8_continueHearing_58 : decode cX8_continueHearing 58 = .ok (.iload_n 2, 1) := by decide +kernel
theorem dX8_continueHearing_59 : decode cX8_continueHearing 59 = .ok (.bipush 10, 2) := by decide +kernel
theorem dX8_continueHearing_61 : decode cX8_continueHearing 61 = .ok (.idiv, 1) := by decide +kernel
theorem dX8_continueHearing_62 : decode cX8_continueHearing 62 = .ok (.iastore, 1) := by decide +kernel
theorem dX8_continueHearing_63 : decode cX8_continueHearing 63 = .ok (.aload_n 0, 1) := by decide +kernel
theorem dX8_continueHearing_64 : decode cX8_continueHearing 64 = .ok (.getfield 40, 3) := by decide +kernel
theorem dX8_continueHearing_67 : decode cX8_continueHearing 67 = .ok (.getfield 365, 3) := by decide +kernel
theorem dX8_continueHearing_70 : decode cX8_continueHearing 70 = .ok (.iload_n 1, 1) := by decide +kernel
theorem dX8_continueHearing_71 : decode cX8_continueHearing 71 = .ok (.iload_n 2, 1) := by decide +kernel
theorem dX8_continueHearing_72 : decode cX8_continueHearing 72 = .ok (.bipush 10, 2) := by decide +kernel
theorem dX8_continueHearing_74 : decode cX8_continueHearing 74 = .ok (.irem, 1) := by decide +kernel
theorem dX8_continueHearing_75 : decode cX8_continueHearing 75 = .ok (.iastore, 1) := by decide +kernel
theorem dX8_continueHearing_76 : decode cX8_continueHearing 76 = .ok (.iload_n 2, 1) := by decide +kernel
theorem dX8_continueHearing_77 : decode cX8_continueHearing 77 = .ok (.ireturn, 1) := by decide +kernel
theorem dX8_strike_0 : decode cX8_strike 0 = .ok (.aload_n 0, 1) := by decide +kernel
theorem dX8_strike_1 : decode cX8_strike 1 = .ok (.iload_n 1, 1) := by decide +kernel
theorem dX8_strike_2 : decode cX8_strike 2 = .ok (.invokevirtual 124, 3) := by decide +kernel
theorem dX8_strike_5 : decode cX8_strike 5 = .ok (.aload_n 0, 1) := by decide +kernel
theorem dX8_strike_6 : decode cX8_strike 6 = .ok (.iload_n 2, 1) := by decide +kernel
theorem dX8_strike_7 : decode cX8_strike 7 = .ok (.invokevirtual 130, 3) := by decide +kernel
theorem dX8_strike_10 : decode cX8_strike 10 = .ok (.aload_n 0, 1) := by decide +kernel
theorem dX8_strike_11 : decode cX8_strike 11 = .ok (.iload_n 3, 1) := by decide +kernel
theorem dX8_strike_12 : decode cX8_strike 12 = .ok (.invokevirtual 368, 3) := by decide +kernel
theorem dX8_strike_15 : decode cX8_strike 15 = .ok (.aload_n 0, 1) := by decide +kernel
theorem dX8_strike_16 : decode cX8_strike 16 = .ok (.getfield 47, 3) := by decide +kernel
theorem dX8_strike_19 : decode cX8_strike 19 = .ok (.iload_n 1, 1) := by decide +kernel
theorem dX8_strike_20 : decode cX8_strike 20 = .ok (.invokevirtual 371, 3) := by decide +kernel
theorem dX8_strike_23 : decode cX8_strike 23 = .ok (.ifCond .ne 27, 3) := by decide +kernel
theorem dX8_strike_26 : decode cX8_strike 26 = .ok (.aload_n 0, 1) := by decide +kernel
theorem dX8_strike_27 : decode cX8_strike 27 = .ok (.getfield 47, 3) := by decide +kernel
theorem dX8_strike_30 : decode cX8_strike 30 = .ok (.iload_n 1, 1) := by decide +kernel
theorem dX8_strike_31 : decode cX8_strike 31 = .ok (.invokevirtual 374, 3) := by decide +kernel
theorem dX8_strike_34 : decode cX8_strike 34 = .ok (.iload_n 2, 1) := by decide +kernel
theorem dX8_strike_35 : decode cX8_strike 35 = .ok (.if_icmp .ne 15, 3) := by decide +kernel
theorem dX8_strike_38 : decode cX8_strike 38 = .ok (.aload_n 0, 1) := by decide +kernel
theorem dX8_strike_39 : decode cX8_strike 39 = .ok (.getfield 47, 3) := by decide +kernel
theorem dX8_strike_42 : decode cX8_strike 42 = .ok (.iload_n 1, 1) := by decide +kernel
theorem dX8_strike_43 : decode cX8_strike 43 = .ok (.iload_n 3, 1) := by decide +kernel
theorem dX8_strike_44 : decode cX8_strike 44 = .ok (.invokevirtual 377, 3) := by decide +kernel
theorem dX8_strike_47 : decode cX8_strike 47 = .ok (.ifCond .eq 14, 3) := by decide +kernel
theorem dX8_strike_50 : decode cX8_strike 50 = .ok (.new 73, 3) := by decide +kernel
theorem dX8_strike_53 : decode cX8_strike 53 = .ok (.dup, 1) := by decide +kernel
theorem dX8_strike_54 : decode cX8_strike 54 = .ok (.ldc_w 380, 3) := by decide +kernel
theorem dX8_strike_57 : decode cX8_strike 57 = .ok (.invokespecial 77, 3) := by decide +kernel
theorem dX8_strike_60 : decode cX8_strike 60 = .ok (.athrow, 1) := by decide +kernel
theorem dX8_strike_61 : decode cX8_strike 61 = .ok (.aload_n 0, 1) := by decide +kernel
theorem dX8_strike_62 : decode cX8_strike 62 = .ok (.getfield 47, 3) := by decide +kernel
theorem dX8_strike_65 : decode cX8_strike 65 = .ok (.iload_n 1, 1) := by decide +kernel
theorem dX8_strike_66 : decode cX8_strike 66 = .ok (.iload_n 3, 1) := by decide +kernel
theorem dX8_strike_67 : decode cX8_strike 67 = .ok (.invokevirtual 382, 3) := by decide +kernel
theorem dX8_strike_70 : decode cX8_strike 70 = .ok (.aload_n 0, 1) := by decide +kernel
theorem dX8_strike_71 : decode cX8_strike 71 = .ok (.getfield 47, 3) := by decide +kernel
theorem dX8_strike_74 : decode cX8_strike 74 = .ok (.getfield 385, 3) := by decide +kernel
theorem dX8_strike_77 : decode cX8_strike 77 = .ok (.iload_n 1, 1) := by decide +kernel
theorem dX8_strike_78 : decode cX8_strike 78 = .ok (.iaload, 1) := by decide +kernel
theorem dX8_strike_79 : decode cX8_strike 79 = .ok (.ireturn, 1) := by decide +kernel
theorem dX8_dismiss_0 : decode cX8_dismiss 0 = .ok (.aload_n 0, 1) := by decide +kernel
theorem dX8_dismiss_1 : decode cX8_dismiss 1 = .ok (.iload_n 1, 1) := by decide +kernel
theorem dX8_dismiss_2 : decode cX8_dismiss 2 = .ok (.invokevirtual 124, 3) := by decide +kernel
theorem dX8_dismiss_5 : decode cX8_dismiss 5 = .ok (.aload_n 0, 1) := by decide +kernel
theorem dX8_dismiss_6 : decode cX8_dismiss 6 = .ok (.iload_n 2, 1) := by decide +kernel
theorem dX8_dismiss_7 : decode cX8_dismiss 7 = .ok (.invokevirtual 368, 3) := by decide +kernel
theorem dX8_dismiss_10 : decode cX8_dismiss 10 = .ok (.aload_n 0, 1) := by decide +kernel
theorem dX8_dismiss_11 : decode cX8_dismiss 11 = .ok (.getfield 47, 3) := by decide +kernel
theorem dX8_dismiss_14 : decode cX8_dismiss 14 = .ok (.iload_n 1, 1) := by decide +kernel
theorem dX8_dismiss_15 : decode cX8_dismiss 15 = .ok (.iload_n 2, 1) := by decide +kernel
theorem dX8_dismiss_16 : decode cX8_dismiss 16 = .ok (.invokevirtual 388, 3) := by decide +kernel
theorem dX8_dismiss_19 : decode cX8_dismiss 19 = .ok (.istore_n 3, 1) := by decide +kernel
theorem dX8_dismiss_20 : decode cX8_dismiss 20 = .ok (.aload_n 0, 1) := by decide +kernel
theorem dX8_dismiss_21 : decode cX8_dismiss 21 = .ok (.getfield 47, 3) := by decide +kernel
theorem dX8_dismiss_24 : decode cX8_dismiss 24 = .ok (.iload_n 1, 1) := by decide +kernel
theorem dX8_dismiss_25 : decode cX8_dismiss 25 = .ok (.invokevirtual 391, 3) := by decide +kernel
theorem dX8_dismiss_28 : decode cX8_dismiss 28 = .ok (.istore 4, 2) := by decide +kernel
theorem dX8_dismiss_30 : decode cX8_dismiss 30 = .ok (.iload_n 3, 1) := by decide +kernel
theorem dX8_dismiss_31 : decode cX8_dismiss 31 = .ok (.iconst (-1), 1) := by decide +kernel
theorem dX8_dismiss_32 : decode cX8_dismiss 32 = .ok (.if_icmp .eq 9, 3) := by decide +kernel
theorem dX8_dismiss_35 : decode cX8_dismiss 35 = .ok (.iload 4, 2) := by decide +kernel
theorem dX8_dismiss_37 : decode cX8_dismiss 37 = .ok (.iconst (-1), 1) := by decide +kernel
theorem dX8_dismiss_38 : decode cX8_dismiss 38 = .ok (.if_icmp .ne 14, 3) := by decide +kernel
theorem dX8_dismiss_41 : decode cX8_dismiss 41 = .ok (.new 73, 3) := by decide +kernel
theorem dX8_dismiss_44 : decode cX8_dismiss 44 = .ok (.dup, 1) := by decide +kernel
theorem dX8_dismiss_45 : decode cX8_dismiss 45 = .ok (.ldc_w 394, 3) := by decide +kernel
theorem dX8_dismiss_48 : decode cX8_dismiss 48 = .ok (.invokespecial 77, 3) := by decide +kernel
theorem dX8_dismiss_51 : decode cX8_dismiss 51 = .ok (.athrow, 1) := by decide +kernel
theorem dX8_dismiss_52 : decode cX8_dismiss 52 = .ok (.aload_n 0, 1) := by decide +kernel
theorem dX8_dismiss_53 : decode cX8_dismiss 53 = .ok (.getfield 47, 3) := by decide +kernel
theorem dX8_dismiss_56 : decode cX8_dismiss 56 = .ok (.iload_n 1, 1) := by decide +kernel
theorem dX8_dismiss_57 : decode cX8_dismiss 57 = .ok (.iload_n 3, 1) := by decide +kernel
theorem dX8_dismiss_58 : decode cX8_dismiss 58 = .ok (.iload 4, 2) := by decide +kernel
theorem dX8_dismiss_60 : decode cX8_dismiss 60 = .ok (.invokevirtual 396, 3) := by decide +kernel
theorem dX8_dismiss_63 : decode cX8_dismiss 63 = .ok (.iload 4, 2) := by decide +kernel
theorem dX8_dismiss_65 : decode cX8_dismiss 65 = .ok (.ireturn, 1) := by decide +kernel
theorem dX8_seat_0 : decode cX8_seat 0 = .ok (.aload_n 0, 1) := by decide +kernel
theorem dX8_seat_1 : decode cX8_seat 1 = .ok (.iload_n 1, 1) := by decide +kernel
theorem dX8_seat_2 : decode cX8_seat 2 = .ok (.invokevirtual 124, 3) := by decide +kernel
theorem dX8_seat_5 : decode cX8_seat 5 = .ok (.iload_n 2, 1) := by decide +kernel
theorem dX8_seat_6 : decode cX8_seat 6 = .ok (.ifCond .lt 9, 3) := by decide +kernel
theorem dX8_seat_9 : decode cX8_seat 9 = .ok (.iload_n 2, 1) := by decide +kernel
theorem dX8_seat_10 : decode cX8_seat 10 = .ok (.bipush 6, 2) := by decide +kernel
theorem dX8_seat_12 : decode cX8_seat 12 = .ok (.if_icmp .le 14, 3) := by decide +kernel
theorem dX8_seat_15 : decode cX8_seat 15 = .ok (.new 100, 3) := by decide +kernel
theorem dX8_seat_18 : decode cX8_seat 18 = .ok (.dup, 1) := by decide +kernel
theorem dX8_seat_19 : decode cX8_seat 19 = .ok (.ldc_w 400, 3) := by decide +kernel
theorem dX8_seat_22 : decode cX8_seat 22 = .ok (.invokespecial 104, 3) := by decide +kernel
theorem dX8_seat_25 : decode cX8_seat 25 = .ok (.athrow, 1) := by decide +kernel
theorem dX8_seat_26 : decode cX8_seat 26 = .ok (.iload_n 2, 1) := by decide +kernel
theorem dX8_seat_27 : decode cX8_seat 27 = .ok (.bipush 6, 2) := by decide +kernel
theorem dX8_seat_29 : decode cX8_seat 29 = .ok (.if_icmp .ne 14, 3) := by decide +kernel
theorem dX8_seat_32 : decode cX8_seat 32 = .ok (.aload_n 0, 1) := by decide +kernel
theorem dX8_seat_33 : decode cX8_seat 33 = .ok (.getfield 47, 3) := by decide +kernel
theorem dX8_seat_36 : decode cX8_seat 36 = .ok (.iload_n 1, 1) := by decide +kernel
theorem dX8_seat_37 : decode cX8_seat 37 = .ok (.invokevirtual 391, 3) := by decide +kernel
theorem dX8_seat_40 : decode cX8_seat 40 = .ok (.goto 12, 3) := by decide +kernel
theorem dX8_seat_43 : decode cX8_seat 43 = .ok (.aload_n 0, 1) := by decide +kernel
theorem dX8_seat_44 : decode cX8_seat 44 = .ok (.getfield 47, 3) := by decide +kernel
theorem dX8_seat_47 : decode cX8_seat 47 = .ok (.iload_n 1, 1) := by decide +kernel
theorem dX8_seat_48 : decode cX8_seat 48 = .ok (.iload_n 2, 1) := by decide +kernel
theorem dX8_seat_49 : decode cX8_seat 49 = .ok (.invokevirtual 402, 3) := by decide +kernel
theorem dX8_seat_52 : decode cX8_seat 52 = .ok (.ireturn, 1) := by decide +kernel
theorem dX8_exhibit_0 : decode cX8_exhibit 0 = .ok (.aload_n 0, 1) := by decide +kernel
theorem dX8_exhibit_1 : decode cX8_exhibit 1 = .ok (.iload_n 1, 1) := by decide +kernel
theorem dX8_exhibit_2 : decode cX8_exhibit 2 = .ok (.invokevirtual 124, 3) := by decide +kernel
theorem dX8_exhibit_5 : decode cX8_exhibit 5 = .ok (.aload_n 0, 1) := by decide +kernel
theorem dX8_exhibit_6 : decode cX8_exhibit 6 = .ok (.iload_n 2, 1) := by decide +kernel
theorem dX8_exhibit_7 : decode cX8_exhibit 7 = .ok (.invokevirtual 127, 3) := by decide +kernel
theorem dX8_exhibit_10 : decode cX8_exhibit 10 = .ok (.aload_n 0, 1) := by decide +kernel
theorem dX8_exhibit_11 : decode cX8_exhibit 11 = .ok (.getfield 54, 3) := by decide +kernel
theorem dX8_exhibit_14 : decode cX8_exhibit 14 = .ok (.getfield 405, 3) := by decide +kernel
theorem dX8_exhibit_17 : decode cX8_exhibit 17 = .ok (.bipush 12, 2) := by decide +kernel
theorem dX8_exhibit_19 : decode cX8_exhibit 19 = .ok (.if_icmp .lt 14, 3) := by decide +kernel
theorem dX8_exhibit_22 : decode cX8_exhibit 22 = .ok (.new 73, 3) := by decide +kernel
theorem dX8_exhibit_25 : decode cX8_exhibit 25 = .ok (.dup, 1) := by decide +kernel
theorem dX8_exhibit_26 : decode cX8_exhibit 26 = .ok (.ldc_w 406, 3) := by decide +kernel
theorem dX8_exhibit_29 : decode cX8_exhibit 29 = .ok (.invokespecial 77, 3) := by decide +kernel
theorem dX8_exhibit_32 : decode cX8_exhibit 32 = .ok (.athrow, 1) := by decide +kernel
theorem dX8_exhibit_33 : decode cX8_exhibit 33 = .ok (.aload_n 0, 1) := by decide +kernel
theorem dX8_exhibit_34 : decode cX8_exhibit 34 = .ok (.getfield 54, 3) := by decide +kernel
theorem dX8_exhibit_37 : decode cX8_exhibit 37 = .ok (.iload_n 2, 1) := by decide +kernel
theorem dX8_exhibit_38 : decode cX8_exhibit 38 = .ok (.invokevirtual 408, 3) := by decide +kernel
theorem dX8_exhibit_41 : decode cX8_exhibit 41 = .ok (.ireturn, 1) := by decide +kernel
theorem dX8_hand_0 : decode cX8_hand 0 = .ok (.aload_n 0, 1) := by decide +kernel
theorem dX8_hand_1 : decode cX8_hand 1 = .ok (.iload_n 1, 1) := by decide +kernel
theorem dX8_hand_2 : decode cX8_hand 2 = .ok (.invokevirtual 409, 3) := by decide +kernel
theorem dX8_hand_5 : decode cX8_hand 5 = .ok (.aload_n 0, 1) := by decide +kernel
theorem dX8_hand_6 : decode cX8_hand 6 = .ok (.iload_n 2, 1) := by decide +kernel
theorem dX8_hand_7 : decode cX8_hand 7 = .ok (.invokevirtual 127, 3) := by decide +kernel
theorem dX8_hand_10 : decode cX8_hand 10 = .ok (.aload_n 0, 1) := by decide +kernel
theorem dX8_hand_11 : decode cX8_hand 11 = .ok (.iload_n 3, 1) := by decide +kernel
theorem dX8_hand_12 : decode cX8_hand 12 = .ok (.invokevirtual 127, 3) := by decide +kernel
theorem dX8_hand_15 : decode cX8_hand 15 = .ok (.aload_n 0, 1) := by decide +kernel
theorem dX8_hand_16 : decode cX8_hand 16 = .ok (.getfield 54, 3) := by decide +kernel
theorem dX8_hand_19 : decode cX8_hand 19 = .ok (.getfield 412, 3) := by decide +kernel
theorem dX8_hand_22 : decode cX8_hand 22 = .ok (.iload_n 1, 1) := by decide +kernel
theorem dX8_hand_23 : decode cX8_hand 23 = .ok (.iaload, 1) := by decide +kernel
theorem dX8_hand_24 : decode cX8_hand 24 = .ok (.iload_n 2, 1) := by decide +kernel
theorem dX8_hand_25 : decode cX8_hand 25 = .ok (.if_icmp .eq 13, 3) := by decide +kernel
theorem dX8_hand_28 : decode cX8_hand 28 = .ok (.aload_n 0, 1) := by decide +kernel
theorem dX8_hand_29 : decode cX8_hand 29 = .ok (.getfield 54, 3) := by decide +kernel
theorem dX8_hand_32 : decode cX8_hand 32 = .ok (.getfield 415, 3) := by decide +kernel
theorem dX8_hand_35 : decode cX8_hand 35 = .ok (.iload_n 1, 1) := by decide +kernel
theorem dX8_hand_36 : decode cX8_hand 36 = .ok (.iconst 1, 1) := by decide +kernel
theorem dX8_hand_37 : decode cX8_hand 37 = .ok (.bastore, 1) := by decide +kernel
theorem dX8_hand_38 : decode cX8_hand 38 = .ok (.aload_n 0, 1) := by decide +kernel
theorem dX8_hand_39 : decode cX8_hand 39 = .ok (.getfield 54, 3) := by decide +kernel
theorem dX8_hand_42 : decode cX8_hand 42 = .ok (.getfield 412, 3) := by decide +kernel
theorem dX8_hand_45 : decode cX8_hand 45 = .ok (.iload_n 1, 1) := by decide +kernel
theorem dX8_hand_46 : decode cX8_hand 46 = .ok (.iload_n 3, 1) := by decide +kernel
theorem dX8_hand_47 : decode cX8_hand 47 = .ok (.iastore, 1) := by decide +kernel
theorem dX8_hand_48 : decode cX8_hand 48 = .ok (.aload_n 0, 1) := by decide +kernel
theorem dX8_hand_49 : decode cX8_hand 49 = .ok (.getfield 54, 3) := by decide +kernel
theorem dX8_hand_52 : decode cX8_hand 52 = .ok (.getfield 415, 3) := by decide +kernel
theorem dX8_hand_55 : decode cX8_hand 55 = .ok (.iload_n 1, 1) := by decide +kernel
theorem dX8_hand_56 : decode cX8_hand 56 = .ok (.baload, 1) := by decide +kernel
theorem dX8_hand_57 : decode cX8_hand 57 = .ok (.ifCond .ne 7, 3) := by decide +kernel
theorem dX8_hand_60 : decode cX8_hand 60 = .ok (.iconst 1, 1) := by decide +kernel
theorem dX8_hand_61 : decode cX8_hand 61 = .ok (.goto 4, 3) := by decide +kernel
theorem dX8_hand_64 : decode cX8_hand 64 = .ok (.iconst 0, 1) := by decide +kernel
theorem dX8_hand_65 : decode cX8_hand 65 = .ok (.ireturn, 1) := by decide +kernel
theorem dX8_object_0 : decode cX8_object 0 = .ok (.aload_n 0, 1) := by decide +kernel
theorem dX8_object_1 : decode cX8_object 1 = .ok (.iload_n 1, 1) := by decide +kernel
theorem dX8_object_2 : decode cX8_object 2 = .ok (.invokevirtual 409, 3) := by decide +kernel
theorem dX8_object_5 : decode cX8_object 5 = .ok (.aload_n 0, 1) := by decide +kernel
theorem dX8_object_6 : decode cX8_object 6 = .ok (.iload_n 2, 1) := by decide +kernel
theorem dX8_object_7 : decode cX8_object 7 = .ok (.invokevirtual 130, 3) := by decide +kernel
theorem dX8_object_10 : decode cX8_object 10 = .ok (.aload_n 0, 1) := by decide +kernel
theorem dX8_object_11 : decode cX8_object 11 = .ok (.getfield 54, 3) := by decide +kernel
theorem dX8_object_14 : decode cX8_object 14 = .ok (.getfield 418, 3) := by decide +kernel
theorem dX8_object_17 : decode cX8_object 17 = .ok (.iload_n 1, 1) := by decide +kernel
theorem dX8_object_18 : decode cX8_object 18 = .ok (.aaload, 1) := by decide +kernel
theorem dX8_object_19 : decode cX8_object 19 = .ok (.iload_n 2, 1) := by decide +kernel
theorem dX8_object_20 : decode cX8_object 20 = .ok (.iaload, 1) := by decide +kernel
theorem dX8_object_21 : decode cX8_object 21 = .ok (.ifCond .eq 14, 3) := by decide +kernel
theorem dX8_object_24 : decode cX8_object 24 = .ok (.new 73, 3) := by decide +kernel
theorem dX8_object_27 : decode cX8_object 27 = .ok (.dup, 1) := by decide +kernel
theorem dX8_object_28 : decode cX8_object 28 = .ok (.ldc_w 421, 3) := by decide +kernel
theorem dX8_object_31 : decode cX8_object 31 = .ok (.invokespecial 77, 3) := by decide +kernel
theorem dX8_object_34 : decode cX8_object 34 = .ok (.athrow, 1) := by decide +kernel
theorem dX8_object_35 : decode cX8_object 35 = .ok (.aload_n 0, 1) := by decide +kernel
theorem dX8_object_36 : decode cX8_object 36 = .ok (.getfield 54, 3) := by decide +kernel
theorem dX8_object_39 : decode cX8_object 39 = .ok (.getfield 418, 3) := by decide +kernel
theorem dX8_object_42 : decode cX8_object 42 = .ok (.iload_n 1, 1) := by decide +kernel
theorem dX8_object_43 : decode cX8_object 43 = .ok (.aaload, 1) := by decide +kernel
theorem dX8_object_44 : decode cX8_object 44 = .ok (.iload_n 2, 1) := by decide +kernel
theorem dX8_object_45 : decode cX8_object 45 = .ok (.iconst 1, 1) := by decide +kernel
theorem dX8_object_46 : decode cX8_object 46 = .ok (.iastore, 1) := by decide +kernel
theorem dX8_object_47 : decode cX8_object 47 = .ok (.return_, 1) := by decide +kernel
theorem dX8_sustain_0 : decode cX8_sustain 0 = .ok (.aload_n 0, 1) := by decide +kernel
theorem dX8_sustain_1 : decode cX8_sustain 1 = .ok (.iload_n 1, 1) := by decide +kernel
theorem dX8_sustain_2 : decode cX8_sustain 2 = .ok (.invokevirtual 409, 3) := by decide +kernel
theorem dX8_sustain_5 : decode cX8_sustain 5 = .ok (.aload_n 0, 1) := by decide +kernel
theorem dX8_sustain_6 : decode cX8_sustain 6 = .ok (.iload_n 2, 1) := by decide +kernel
theorem dX8_sustain_7 : decode cX8_sustain 7 = .ok (.invokevirtual 130, 3) := by decide +kernel
theorem dX8_sustain_10 : decode cX8_sustain 10 = .ok (.aload_n 0, 1) := by decide +kernel
theorem dX8_sustain_11 : decode cX8_sustain 11 = .ok (.getfield 54, 3) := by decide +kernel
theorem dX8_sustain_14 : decode cX8_sustain 14 = .ok (.getfield 418, 3) := by decide +kernel
theorem dX8_sustain_17 : decode cX8_sustain 17 = .ok (.iload_n 1, 1) := by decide +kernel
theorem dX8_sustain_18 : decode cX8_sustain 18 = .ok (.aaload, 1) := by decide +kernel
theorem dX8_sustain_19 : decode cX8_sustain 19 = .ok (.iload_n 2, 1) := by decide +kernel
theorem dX8_sustain_20 : decode cX8_sustain 20 = .ok (.iaload, 1) := by decide +kernel
theorem dX8_sustain_21 : decode cX8_sustain 21 = .ok (.iconst 1, 1) := by decide +kernel
theorem dX8_sustain_22 : decode cX8_sustain 22 = .ok (.if_icmp .eq 14, 3) := by decide +kernel
theorem dX8_sustain_25 : decode cX8_sustain 25 = .ok (.new 73, 3) := by decide +kernel
theorem dX8_sustain_28 : decode cX8_sustain 28 = .ok (.dup, 1) := by decide +kernel
theorem dX8_sustain_29 : decode cX8_sustain 29 = .ok (.ldc_w 423, 3) := by decide +kernel
theorem dX8_sustain_32 : decode cX8_sustain 32 = .ok (.invokespecial 77, 3) := by decide +kernel
theorem dX8_sustain_35 : decode cX8_sustain 35 = .ok (.athrow, 1) := by decide +kernel
theorem dX8_sustain_36 : decode cX8_sustain 36 = .ok (.aload_n 0, 1) := by decide +kernel
theorem dX8_sustain_37 : decode cX8_sustain 37 = .ok (.getfield 54, 3) := by decide +kernel
theorem dX8_sustain_40 : decode cX8_sustain 40 = .ok (.getfield 418, 3) := by decide +kernel
theorem dX8_sustain_43 : decode cX8_sustain 43 = .ok (.iload_n 1, 1) := by decide +kernel
theorem dX8_sustain_44 : decode cX8_sustain 44 = .ok (.aaload, 1) := by decide +kernel
theorem dX8_sustain_45 : decode cX8_sustain 45 = .ok (.iload_n 2, 1) := by decide +kernel
theorem dX8_sustain_46 : decode cX8_sustain 46 = .ok (.iload_n 3, 1) := by decide +kernel
theorem dX8_sustain_47 : decode cX8_sustain 47 = .ok (.ifCond .eq 7, 3) := by decide +kernel
theorem dX8_sustain_50 : decode cX8_sustain 50 = .ok (.iconst 2, 1) := by decide +kernel
theorem dX8_sustain_51 : decode cX8_sustain 51 = .ok (.goto 4, 3) := by decide +kernel
theorem dX8_sustain_54 : decode cX8_sustain 54 = .ok (.iconst 3, 1) := by decide +kernel
theorem dX8_sustain_55 : decode cX8_sustain 55 = .ok (.iastore, 1) := by decide +kernel
theorem dX8_sustain_56 : decode cX8_sustain 56 = .ok (.return_, 1) := by decide +kernel
theorem dX8_isAdmitted_0 : decode cX8_isAdmitted 0 = .ok (.aload_n 0, 1) := by decide +kernel
theorem dX8_isAdmitted_1 : decode cX8_isAdmitted 1 = .ok (.iload_n 1, 1) := by decide +kernel
theorem dX8_isAdmitted_2 : decode cX8_isAdmitted 2 = .ok (.invokevirtual 409, 3) := by decide +kernel
theorem dX8_isAdmitted_5 : decode cX8_isAdmitted 5 = .ok (.aload_n 0, 1) := by decide +kernel
theorem dX8_isAdmitted_6 : decode cX8_isAdmitted 6 = .ok (.getfield 54, 3) := by decide +kernel
theorem dX8_isAdmitted_9 : decode cX8_isAdmitted 9 = .ok (.getfield 415, 3) := by decide +kernel
theorem dX8_isAdmitted_12 : decode cX8_isAdmitted 12 = .ok (.iload_n 1, 1) := by decide +kernel
theorem dX8_isAdmitted_13 : decode cX8_isAdmitted 13 = .ok (.baload, 1) := by decide +kernel
theorem dX8_isAdmitted_14 : decode cX8_isAdmitted 14 = .ok (.ifCond .ne 18, 3) := by decide +kernel
theorem dX8_isAdmitted_17 : decode cX8_isAdmitted 17 = .ok (.aload_n 0, 1) := by decide +kernel
theorem dX8_isAdmitted_18 : decode cX8_isAdmitted 18 = .ok (.getfield 54, 3) := by decide +kernel
theorem dX8_isAdmitted_21 : decode cX8_isAdmitted 21 = .ok (.iload_n 1, 1) := by decide +kernel
theorem dX8_isAdmitted_22 : decode cX8_isAdmitted 22 = .ok (.invokevirtual 425, 3) := by decide +kernel
theorem dX8_isAdmitted_25 : decode cX8_isAdmitted 25 = .ok (.ifCond .ne 7, 3) := by decide +kernel
theorem dX8_isAdmitted_28 : decode cX8_isAdmitted 28 = .ok (.iconst 1, 1) := by decide +kernel
theorem dX8_isAdmitted_29 : decode cX8_isAdmitted 29 = .ok (.goto 4, 3) := by decide +kernel
theorem dX8_isAdmitted_32 : decode cX8_isAdmitted 32 = .ok (.iconst 0, 1) := by decide +kernel
theorem dX8_isAdmitted_33 : decode cX8_isAdmitted 33 = .ok (.ireturn, 1) := by decide +kernel
theorem dX8_seal_0 : decode cX8_seal 0 = .ok (.aload_n 0, 1) := by decide +kernel
theorem dX8_seal_1 : decode cX8_seal 1 = .ok (.iload_n 1, 1) := by decide +kernel
theorem dX8_seal_2 : decode cX8_seal 2 = .ok (.invokevirtual 298, 3) := by decide +kernel
theorem dX8_seal_5 : decode cX8_seal 5 = .ok (.aload_n 0, 1) := by decide +kernel
theorem dX8_seal_6 : decode cX8_seal 6 = .ok (.getfield 61, 3) := by decide +kernel
theorem dX8_seal_9 : decode cX8_seal 9 = .ok (.iload_n 1, 1) := by decide +kernel
theorem dX8_seal_10 : decode cX8_seal 10 = .ok (.aload_n 0, 1) := by decide +kernel
theorem dX8_seal_11 : decode cX8_seal 11 = .ok (.getfield 12, 3) := by decide +kernel
theorem dX8_seal_14 : decode cX8_seal 14 = .ok (.getfield 69, 3) := by decide +kernel
theorem dX8_seal_17 : decode cX8_seal 17 = .ok (.invokevirtual 428, 3) := by decide +kernel
theorem dX8_seal_20 : decode cX8_seal 20 = .ok (.iload_n 2, 1) := by decide +kernel
theorem dX8_seal_21 : decode cX8_seal 21 = .ok (.if_icmp .eq 7, 3) := by decide +kernel
theorem dX8_seal_24 : decode cX8_seal 24 = .ok (.iconst 1, 1) := by decide +kernel
theorem dX8_seal_25 : decode cX8_seal 25 = .ok (.goto 4, 3) := by decide +kernel
theorem dX8_seal_28 : decode cX8_seal 28 = .ok (.iconst 0, 1) := by decide +kernel
theorem dX8_seal_29 : decode cX8_seal 29 = .ok (.istore_n 3, 1) := by decide +kernel
theorem dX8_seal_30 : decode cX8_seal 30 = .ok (.iload_n 3, 1) := by decide +kernel
theorem dX8_seal_31 : decode cX8_seal 31 = .ok (.ifCond .eq 19, 3) := by decide +kernel
theorem dX8_seal_34 : decode cX8_seal 34 = .ok (.aload_n 0, 1) := by decide +kernel
theorem dX8_seal_35 : decode cX8_seal 35 = .ok (.getfield 61, 3) := by decide +kernel
theorem dX8_seal_38 : decode cX8_seal 38 = .ok (.iload_n 1, 1) := by decide +kernel
theorem dX8_seal_39 : decode cX8_seal 39 = .ok (.aload_n 0, 1) := by decide +kernel
theorem dX8_seal_40 : decode cX8_seal 40 = .ok (.getfield 12, 3) := by decide +kernel
theorem dX8_seal_43 : decode cX8_seal 43 = .ok (.getfield 69, 3) := by decide +kernel
theorem dX8_seal_46 : decode cX8_seal 46 = .ok (.iload_n 2, 1) := by decide +kernel
theorem dX8_seal_47 : decode cX8_seal 47 = .ok (.invokevirtual 431, 3) := by decide +kernel
theorem dX8_seal_50 : decode cX8_seal 50 = .ok (.iload_n 3, 1) := by decide +kernel
theorem dX8_seal_51 : decode cX8_seal 51 = .ok (.ireturn, 1) := by decide +kernel
theorem dX8_maySee_0 : decode cX8_maySee 0 = .ok (.aload_n 0, 1) := by decide +kernel
theorem dX8_maySee_1 : decode cX8_maySee 1 = .ok (.iload_n 1, 1) := by decide +kernel
theorem dX8_maySee_2 : decode cX8_maySee 2 = .ok (.invokevirtual 298, 3) := by decide +kernel
theorem dX8_maySee_5 : decode cX8_maySee 5 = .ok (.aload_n 0, 1) := by decide +kernel
theorem dX8_maySee_6 : decode cX8_maySee 6 = .ok (.iload_n 2, 1) := by decide +kernel
theorem dX8_maySee_7 : decode cX8_maySee 7 = .ok (.invokevirtual 127, 3) := by decide +kernel
theorem dX8_maySee_10 : decode cX8_maySee 10 = .ok (.iload_n 3, 1) := by decide +kernel
theorem dX8_maySee_11 : decode cX8_maySee 11 = .ok (.ifCond .lt 14, 3) := by decide +kernel
theorem dX8_maySee_14 : decode cX8_maySee 14 = .ok (.iload_n 3, 1) := by decide +kernel
theorem dX8_maySee_15 : decode cX8_maySee 15 = .ok (.aload_n 0, 1) := by decide +kernel
theorem dX8_maySee_16 : decode cX8_maySee 16 = .ok (.getfield 12, 3) := by decide +kernel
theorem dX8_maySee_19 : decode cX8_maySee 19 = .ok (.getfield 69, 3) := by decide +kernel
theorem dX8_maySee_22 : decode cX8_maySee 22 = .ok (.if_icmp .le 13, 3) := by decide +kernel
theorem dX8_maySee_25 : decode cX8_maySee 25 = .ok (.new 80, 3) := by decide +kernel
theorem dX8_maySee_28 : decode cX8_maySee 28 = .ok (.dup, 1) := by decide +kernel
theorem dX8_maySee_29 : decode cX8_maySee 29 = .ok (.ldc 82, 2) := by decide +kernel
theorem dX8_maySee_31 : decode cX8_maySee 31 = .ok (.invokespecial 84, 3) := by decide +kernel
theorem dX8_maySee_34 : decode cX8_maySee 34 = .ok (.athrow, 1) := by decide +kernel
theorem dX8_maySee_35 : decode cX8_maySee 35 = .ok (.aload_n 0, 1) := by decide +kernel
theorem dX8_maySee_36 : decode cX8_maySee 36 = .ok (.getfield 61, 3) := by decide +kernel
theorem dX8_maySee_39 : decode cX8_maySee 39 = .ok (.iload_n 1, 1) := by decide +kernel
theorem dX8_maySee_40 : decode cX8_maySee 40 = .ok (.iload_n 3, 1) := by decide +kernel
theorem dX8_maySee_41 : decode cX8_maySee 41 = .ok (.invokevirtual 428, 3) := by decide +kernel
theorem dX8_maySee_44 : decode cX8_maySee 44 = .ok (.ifCond .eq 18, 3) := by decide +kernel
theorem dX8_maySee_47 : decode cX8_maySee 47 = .ok (.aload_n 0, 1) := by decide +kernel
theorem dX8_maySee_48 : decode cX8_maySee 48 = .ok (.getfield 19, 3) := by decide +kernel
theorem dX8_maySee_51 : decode cX8_maySee 51 = .ok (.aload_n 0, 1) := by decide +kernel
theorem dX8_maySee_52 : decode cX8_maySee 52 = .ok (.iload_n 1, 1) := by decide +kernel
theorem dX8_maySee_53 : decode cX8_maySee 53 = .ok (.invokevirtual 434, 3) := by decide +kernel
theorem dX8_maySee_56 : decode cX8_maySee 56 = .ok (.iload_n 2, 1) := by decide +kernel
theorem dX8_maySee_57 : decode cX8_maySee 57 = .ok (.iload_n 3, 1) := by decide +kernel
theorem dX8_maySee_58 : decode cX8_maySee 58 = .ok (.invokevirtual 437, 3) := by decide +kernel
theorem dX8_maySee_61 : decode cX8_maySee 61 = .ok (.ireturn, 1) := by decide +kernel
theorem dX8_maySee_62 : decode cX8_maySee 62 = .ok (.iload_n 3, 1) := by decide +kernel
theorem dX8_maySee_63 : decode cX8_maySee 63 = .ok (.aload_n 0, 1) := by decide +kernel
theorem dX8_maySee_64 : decode cX8_maySee 64 = .ok (.getfield 33, 3) := by decide +kernel
theorem dX8_maySee_67 : decode cX8_maySee 67 = .ok (.getfield 440, 3) := by decide +kernel
theorem dX8_maySee_70 : decode cX8_maySee 70 = .ok (.iload_n 1, 1) := by decide +kernel
theorem dX8_maySee_71 : decode cX8_maySee 71 = .ok (.iaload, 1) := by decide +kernel
theorem dX8_maySee_72 : decode cX8_maySee 72 = .ok (.if_icmp .lt 7, 3) := by decide +kernel
theorem dX8_maySee_75 : decode cX8_maySee 75 = .ok (.iconst 1, 1) := by decide +kernel
theorem dX8_maySee_76 : decode cX8_maySee 76 = .ok (.goto 4, 3) := by decide +kernel
theorem dX8_maySee_79 : decode cX8_maySee 79 = .ok (.iconst 0, 1) := by decide +kernel
theorem dX8_maySee_80 : decode cX8_maySee 80 = .ok (.ireturn, 1) := by decide +kernel
theorem dX8_certify_0 : decode cX8_certify 0 = .ok (.aload_n 0, 1) := by decide +kernel
theorem dX8_certify_1 : decode cX8_certify 1 = .ok (.iload_n 1, 1) := by decide +kernel
theorem dX8_certify_2 : decode cX8_certify 2 = .ok (.invokevirtual 169, 3) := by decide +kernel
theorem dX8_certify_5 : decode cX8_certify 5 = .ok (.aload_n 0, 1) := by decide +kernel
theorem dX8_certify_6 : decode cX8_certify 6 = .ok (.getfield 26, 3) := by decide +kernel
theorem dX8_certify_9 : decode cX8_certify 9 = .ok (.getfield 441, 3) := by decide +kernel
theorem dX8_certify_12 : decode cX8_certify 12 = .ok (.iload_n 1, 1) := by decide +kernel
theorem dX8_certify_13 : decode cX8_certify 13 = .ok (.iaload, 1) := by decide +kernel
theorem dX8_certify_14 : decode cX8_certify 14 = .ok (.ifCond .ne 15, 3) := by decide +kernel
theorem dX8_certify_17 : decode cX8_certify 17 = .ok (.aload_n 0, 1) := by decide +kernel
theorem dX8_certify_18 : decode cX8_certify 18 = .ok (.getfield 26, 3) := by decide +kernel
theorem dX8_certify_21 : decode cX8_certify 21 = .ok (.getfield 195, 3) := by decide +kernel
theorem dX8_certify_24 : decode cX8_certify 24 = .ok (.iload_n 1, 1) := by decide +kernel
theorem dX8_certify_25 : decode cX8_certify 25 = .ok (.iaload, 1) := by decide +kernel
theorem dX8_certify_26 : decode cX8_certify 26 = .ok (.ifCond .eq 14, 3) := by decide +kernel
theorem dX8_certify_29 : decode cX8_certify 29 = .ok (.new 73, 3) := by decide +kernel
theorem dX8_certify_32 : decode cX8_certify 32 = .ok (.dup, 1) := by decide +kernel
theorem dX8_certify_33 : decode cX8_certify 33 = .ok (.ldc_w 444, 3) := by decide +kernel
theorem dX8_certify_36 : decode cX8_certify 36 = .ok (.invokespecial 77, 3) := by decide +kernel
theorem dX8_certify_39 : decode cX8_certify 39 = .ok (.athrow, 1) := by decide +kernel
theorem dX8_certify_40 : decode cX8_certify 40 = .ok (.aload_n 0, 1) := by decide +kernel
theorem dX8_certify_41 : decode cX8_certify 41 = .ok (.getfield 26, 3) := by decide +kernel
theorem dX8_certify_44 : decode cX8_certify 44 = .ok (.getfield 441, 3) := by decide +kernel
theorem dX8_certify_47 : decode cX8_certify 47 = .ok (.iload_n 1, 1) := by decide +kernel
theorem dX8_certify_48 : decode cX8_certify 48 = .ok (.iconst 1, 1) := by decide +kernel
theorem dX8_certify_49 : decode cX8_certify 49 = .ok (.aload_n 0, 1) := by decide +kernel
theorem dX8_certify_50 : decode cX8_certify 50 = .ok (.getfield 26, 3) := by decide +kernel
theorem dX8_certify_53 : decode cX8_certify 53 = .ok (.getfield 180, 3) := by decide +kernel
theorem dX8_certify_56 : decode cX8_certify 56 = .ok (.iload_n 1, 1) := by decide +kernel
theorem dX8_certify_57 : decode cX8_certify 57 = .ok (.iaload, 1) := by decide +kernel
theorem dX8_certify_58 : decode cX8_certify 58 = .ok (.ishl, 1) := by decide +kernel
theorem dX8_certify_59 : decode cX8_certify 59 = .ok (.iastore, 1) := by decide +kernel
theorem dX8_certify_60 : decode cX8_certify 60 = .ok (.return_, 1) := by decide +kernel
theorem dX8_member_0 : decode cX8_member 0 = .ok (.aload_n 0, 1) := by decide +kernel
theorem dX8_member_1 : decode cX8_member 1 = .ok (.iload_n 1, 1) := by decide +kernel
theorem dX8_member_2 : decode cX8_member 2 = .ok (.invokevirtual 169, 3) := by decide +kernel
theorem dX8_member_5 : decode cX8_member 5 = .ok (.aload_n 0, 1) := by decide +kernel
theorem dX8_member_6 : decode cX8_member 6 = .ok (.iload_n 2, 1) := by decide +kernel
theorem dX8_member_7 : decode cX8_member 7 = .ok (.invokevirtual 127, 3) := by decide +kernel
theorem dX8_member_10 : decode cX8_member 10 = .ok (.iload_n 3, 1) := by decide +kernel
theorem dX8_member_11 : decode cX8_member 11 = .ok (.ifCond .ne 20, 3) := by decide +kernel
theorem dX8_member_14 : decode cX8_member 14 = .ok (.iload_n 2, 1) := by decide +kernel
theorem dX8_member_15 : decode cX8_member 15 = .ok (.aload_n 0, 1) := by decide +kernel
theorem dX8_member_16 : decode cX8_member 16 = .ok (.getfield 26, 3) := by decide +kernel
theorem dX8_member_19 : decode cX8_member 19 = .ok (.getfield 180, 3) := by decide +kernel
theorem dX8_member_22 : decode cX8_member 22 = .ok (.iload_n 1, 1) := by decide +kernel
theorem dX8_member_23 : decode cX8_member 23 = .ok (.iaload, 1) := by decide +kernel
theorem dX8_member_24 : decode cX8_member 24 = .ok (.if_icmp .ne 7, 3) := by decide +kernel
theorem dX8_member_27 : decode cX8_member 27 = .ok (.iconst 1, 1) := by decide +kernel
theorem dX8_member_28 : decode cX8_member 28 = .ok (.goto 4, 3) := by decide +kernel
theorem dX8_member_31 : decode cX8_member 31 = .ok (.iconst 0, 1) := by decide +kernel
theorem dX8_member_32 : decode cX8_member 32 = .ok (.istore 4, 2) := by decide +kernel
theorem dX8_member_34 : decode cX8_member 34 = .ok (.aload_n 0, 1) := by decide +kernel
theorem dX8_member_35 : decode cX8_member 35 = .ok (.getfield 26, 3) := by decide +kernel
theorem dX8_member_38 : decode cX8_member 38 = .ok (.getfield 441, 3) := by decide +kernel
theorem dX8_member_41 : decode cX8_member 41 = .ok (.iload_n 1, 1) := by decide +kernel
theorem dX8_member_42 : decode cX8_member 42 = .ok (.iaload, 1) := by decide +kernel
theorem dX8_member_43 : decode cX8_member 43 = .ok (.ifCond .eq 20, 3) := by decide +kernel
theorem dX8_member_46 : decode cX8_member 46 = .ok (.aload_n 0, 1) := by decide +kernel
theorem dX8_member_47 : decode cX8_member 47 = .ok (.getfield 26, 3) := by decide +kernel
theorem dX8_member_50 : decode cX8_member 50 = .ok (.getfield 195, 3) := by decide +kernel
theorem dX8_member_53 : decode cX8_member 53 = .ok (.iload_n 1, 1) := by decide +kernel
theorem dX8_member_54 : decode cX8_member 54 = .ok (.iaload, 1) := by decide +kernel
theorem dX8_member_55 : decode cX8_member 55 = .ok (.ifCond .ne 8, 3) := by decide +kernel
theorem dX8_member_58 : decode cX8_member 58 = .ok (.iload 4, 2) := by decide +kernel
theorem dX8_member_60 : decode cX8_member 60 = .ok (.ifCond .eq 14, 3) := by decide +kernel
theorem dX8_member_63 : decode cX8_member 63 = .ok (.new 73, 3) := by decide +kernel
theorem dX8_member_66 : decode cX8_member 66 = .ok (.dup, 1) := by decide +kernel
theorem dX8_member_67 : decode cX8_member 67 = .ok (.ldc_w 446, 3) := by decide +kernel
theorem dX8_member_70 : decode cX8_member 70 = .ok (.invokespecial 77, 3) := by decide +kernel
theorem dX8_member_73 : decode cX8_member 73 = .ok (.athrow, 1) := by decide +kernel
theorem dX8_member_74 : decode cX8_member 74 = .ok (.aload_n 0, 1) := by decide +kernel
theorem dX8_member_75 : decode cX8_member 75 = .ok (.getfield 26, 3) := by decide +kernel
theorem dX8_member_78 : decode cX8_member 78 = .ok (.iload_n 1, 1) := by decide +kernel
theorem dX8_member_79 : decode cX8_member 79 = .ok (.iload_n 2, 1) := by decide +kernel
theorem dX8_member_80 : decode cX8_member 80 = .ok (.iload_n 3, 1) := by decide +kernel
theorem dX8_member_81 : decode cX8_member 81 = .ok (.invokevirtual 448, 3) := by decide +kernel
theorem dX8_member_84 : decode cX8_member 84 = .ok (.aload_n 0, 1) := by decide +kernel
theorem dX8_member_85 : decode cX8_member 85 = .ok (.getfield 26, 3) := by decide +kernel
theorem dX8_member_88 : decode cX8_member 88 = .ok (.iload_n 1, 1) := by decide +kernel
theorem dX8_member_89 : decode cX8_member 89 = .ok (.invokevirtual 451, 3) := by decide +kernel
theorem dX8_member_92 : decode cX8_member 92 = .ok (.ireturn, 1) := by decide +kernel
theorem dX8_share_0 : decode cX8_share 0 = .ok (.aload_n 0, 1) := by decide +kernel
theorem dX8_share_1 : decode cX8_share 1 = .ok (.iload_n 1, 1) := by decide +kernel
theorem dX8_share_2 : decode cX8_share 2 = .ok (.invokevirtual 169, 3) := by decide +kernel
theorem dX8_share_5 : decode cX8_share 5 = .ok (.aload_n 0, 1) := by decide +kernel
theorem dX8_share_6 : decode cX8_share 6 = .ok (.iload_n 2, 1) := by decide +kernel
theorem dX8_share_7 : decode cX8_share 7 = .ok (.invokevirtual 127, 3) := by decide +kernel
theorem dX8_share_10 : decode cX8_share 10 = .ok (.aload_n 0, 1) := by decide +kernel
theorem dX8_share_11 : decode cX8_share 11 = .ok (.getfield 26, 3) := by decide +kernel
theorem dX8_share_14 : decode cX8_share 14 = .ok (.iload_n 1, 1) := by decide +kernel
theorem dX8_share_15 : decode cX8_share 15 = .ok (.invokevirtual 451, 3) := by decide +kernel
theorem dX8_share_18 : decode cX8_share 18 = .ok (.istore_n 3, 1) := by decide +kernel
theorem dX8_share_19 : decode cX8_share 19 = .ok (.iload_n 3, 1) := by decide +kernel
theorem dX8_share_20 : decode cX8_share 20 = .ok (.ifCond .eq 15, 3) := by decide +kernel
theorem dX8_share_23 : decode cX8_share 23 = .ok (.aload_n 0, 1) := by decide +kernel
theorem dX8_share_24 : decode cX8_share 24 = .ok (.getfield 26, 3) := by decide +kernel
theorem dX8_share_27 : decode cX8_share 27 = .ok (.iload_n 1, 1) := by decide +kernel
theorem dX8_share_28 : decode cX8_share 28 = .ok (.iload_n 2, 1) := by decide +kernel
theorem dX8_share_29 : decode cX8_share 29 = .ok (.invokevirtual 454, 3) := by decide +kernel
theorem dX8_share_32 : decode cX8_share 32 = .ok (.ifCond .ne 5, 3) := by decide +kernel
theorem dX8_share_35 : decode cX8_share 35 = .ok (.iconst 0, 1) := by decide +kernel
theorem dX8_share_36 : decode cX8_share 36 = .ok (.ireturn, 1) := by decide +kernel
theorem dX8_share_37 : decode cX8_share 37 = .ok (.aload_n 0, 1) := by decide +kernel
theorem dX8_share_38 : decode cX8_share 38 = .ok (.getfield 26, 3) := by decide +kernel
theorem dX8_share_41 : decode cX8_share 41 = .ok (.getfield 267, 3) := by decide +kernel
theorem dX8_share_44 : decode cX8_share 44 = .ok (.iload_n 1, 1) := by decide +kernel
theorem dX8_share_45 : decode cX8_share 45 = .ok (.iaload, 1) := by decide +kernel
theorem dX8_share_46 : decode cX8_share 46 = .ok (.iload_n 3, 1) := by decide +kernel
theorem dX8_share_47 : decode cX8_share 47 = .ok (.idiv, 1) := by decide +kernel
theorem dX8_share_48 : decode cX8_share 48 = .ok (.ireturn, 1) := by decide +kernel
theorem dX8_today_0 : decode cX8_today 0 = .ok (.aload_n 0, 1) := by decide +kernel
theorem dX8_today_1 : decode cX8_today 1 = .ok (.getfield 12, 3) := by decide +kernel
theorem dX8_today_4 : decode cX8_today 4 = .ok (.getfield 69, 3) := by decide +kernel
theorem dX8_today_7 : decode cX8_today 7 = .ok (.ireturn, 1) := by decide +kernel
theorem dX8_entries_0 : decode cX8_entries 0 = .ok (.aload_n 0, 1) := by decide +kernel
theorem dX8_entries_1 : decode cX8_entries 1 = .ok (.getfield 33, 3) := by decide +kernel
theorem dX8_entries_4 : decode cX8_entries 4 = .ok (.getfield 457, 3) := by decide +kernel
theorem dX8_entries_7 : decode cX8_entries 7 = .ok (.ireturn, 1) := by decide +kernel
theorem dX8_entryAt_0 : decode cX8_entryAt 0 = .ok (.aload_n 0, 1) := by decide +kernel
theorem dX8_entryAt_1 : decode cX8_entryAt 1 = .ok (.iload_n 1, 1) := by decide +kernel
theorem dX8_entryAt_2 : decode cX8_entryAt 2 = .ok (.invokevirtual 298, 3) := by decide +kernel
theorem dX8_entryAt_5 : decode cX8_entryAt 5 = .ok (.iload_n 2, 1) := by decide +kernel
theorem dX8_entryAt_6 : decode cX8_entryAt 6 = .ok (.tableswitch 84 0 4 #[34, 44, 54, 64, 74], 34) := by decide +kernel
theorem dX8_entryAt_40 : decode cX8_entryAt 40 = .ok (.aload_n 0, 1) := by decide +kernel
theorem dX8_entryAt_41 : decode cX8_entryAt 41 = .ok (.getfield 33, 3) := by decide +kernel
theorem dX8_entryAt_44 : decode cX8_entryAt 44 = .ok (.getfield 301, 3) := by decide +kernel
theorem dX8_entryAt_47 : decode cX8_entryAt 47 = .ok (.iload_n 1, 1) := by decide +kernel
theorem dX8_entryAt_48 : decode cX8_entryAt 48 = .ok (.iaload, 1) := by decide +kernel
theorem dX8_entryAt_49 : decode cX8_entryAt 49 = .ok (.ireturn, 1) := by decide +kernel
theorem dX8_entryAt_50 : decode cX8_entryAt 50 = .ok (.aload_n 0, 1) := by decide +kernel
theorem dX8_entryAt_51 : decode cX8_entryAt 51 = .ok (.getfield 33, 3) := by decide +kernel
theorem dX8_entryAt_54 : decode cX8_entryAt 54 = .ok (.getfield 440, 3) := by decide +kernel
theorem dX8_entryAt_57 : decode cX8_entryAt 57 = .ok (.iload_n 1, 1) := by decide +kernel
theorem dX8_entryAt_58 : decode cX8_entryAt 58 = .ok (.iaload, 1) := by decide +kernel
theorem dX8_entryAt_59 : decode cX8_entryAt 59 = .ok (.ireturn, 1) := by decide +kernel
theorem dX8_entryAt_60 : decode cX8_entryAt 60 = .ok (.aload_n 0, 1) := by decide +kernel
theorem dX8_entryAt_61 : decode cX8_entryAt 61 = .ok (.getfield 33, 3) := by decide +kernel
theorem dX8_entryAt_64 : decode cX8_entryAt 64 = .ok (.getfield 232, 3) := by decide +kernel
theorem dX8_entryAt_67 : decode cX8_entryAt 67 = .ok (.iload_n 1, 1) := by decide +kernel
theorem dX8_entryAt_68 : decode cX8_entryAt 68 = .ok (.iaload, 1) := by decide +kernel
theorem dX8_entryAt_69 : decode cX8_entryAt 69 = .ok (.ireturn, 1) := by decide +kernel
theorem dX8_entryAt_70 : decode cX8_entryAt 70 = .ok (.aload_n 0, 1) := by decide +kernel
theorem dX8_entryAt_71 : decode cX8_entryAt 71 = .ok (.getfield 33, 3) := by decide +kernel
theorem dX8_entryAt_74 : decode cX8_entryAt 74 = .ok (.getfield 458, 3) := by decide +kernel
theorem dX8_entryAt_77 : decode cX8_entryAt 77 = .ok (.iload_n 1, 1) := by decide +kernel
theorem dX8_entryAt_78 : decode cX8_entryAt 78 = .ok (.iaload, 1) := by decide +kernel
theorem dX8_entryAt_79 : decode cX8_entryAt 79 = .ok (.ireturn, 1) := by decide +kernel
theorem dX8_entryAt_80 : decode cX8_entryAt 80 = .ok (.aload_n 0, 1) := by decide +kernel
theorem dX8_entryAt_81 : decode cX8_entryAt 81 = .ok (.getfield 33, 3) := by decide +kernel
theorem dX8_entryAt_84 : decode cX8_entryAt 84 = .ok (.getfield 461, 3) := by decide +kernel
theorem dX8_entryAt_87 : decode cX8_entryAt 87 = .ok (.iload_n 1, 1) := by decide +kernel
theorem dX8_entryAt_88 : decode cX8_entryAt 88 = .ok (.iaload, 1) := by decide +kernel
theorem dX8_entryAt_89 : decode cX8_entryAt 89 = .ok (.ireturn, 1) := by decide +kernel
theorem dX8_entryAt_90 : decode cX8_entryAt 90 = .ok (.new 100, 3) := by decide +kernel
theorem dX8_entryAt_93 : decode cX8_entryAt 93 = .ok (.dup, 1) := by decide +kernel
theorem dX8_entryAt_94 : decode cX8_entryAt 94 = .ok (.ldc_w 464, 3) := by decide +kernel
theorem dX8_entryAt_97 : decode cX8_entryAt 97 = .ok (.invokespecial 104, 3) := by decide +kernel
theorem dX8_entryAt_100 : decode cX8_entryAt 100 = .ok (.athrow, 1) := by decide +kernel
theorem dX8_counts_0 : decode cX8_counts 0 = .ok (.aload_n 0, 1) := by decide +kernel
theorem dX8_counts_1 : decode cX8_counts 1 = .ok (.iload_n 1, 1) := by decide +kernel
theorem dX8_counts_2 : decode cX8_counts 2 = .ok (.invokevirtual 298, 3) := by decide +kernel
theorem dX8_counts_5 : decode cX8_counts 5 = .ok (.aload_n 0, 1) := by decide +kernel
theorem dX8_counts_6 : decode cX8_counts 6 = .ok (.iload_n 1, 1) := by decide +kernel
theorem dX8_counts_7 : decode cX8_counts 7 = .ok (.invokevirtual 466, 3) := by decide +kernel
theorem dX8_counts_10 : decode cX8_counts 10 = .ok (.ireturn, 1) := by decide +kernel
theorem dX8_stateOf_0 : decode cX8_stateOf 0 = .ok (.aload_n 0, 1) := by decide +kernel
theorem dX8_stateOf_1 : decode cX8_stateOf 1 = .ok (.iload_n 1, 1) := by decide +kernel
theorem dX8_stateOf_2 : decode cX8_stateOf 2 = .ok (.invokevirtual 169, 3) := by decide +kernel
theorem dX8_stateOf_5 : decode cX8_stateOf 5 = .ok (.aload_n 0, 1) := by decide +kernel
theorem dX8_stateOf_6 : decode cX8_stateOf 6 = .ok (.getfield 26, 3) := by decide +kernel
theorem dX8_stateOf_9 : decode cX8_stateOf 9 = .ok (.getfield 195, 3) := by decide +kernel
theorem dX8_stateOf_12 : decode cX8_stateOf 12 = .ok (.iload_n 1, 1) := by decide +kernel
theorem dX8_stateOf_13 : decode cX8_stateOf 13 = .ok (.iaload, 1) := by decide +kernel
theorem dX8_stateOf_14 : decode cX8_stateOf 14 = .ok (.ireturn, 1) := by decide +kernel
theorem dX8_stateByDocket_0 : decode cX8_stateByDocket 0 = .ok (.aload_n 0, 1) := by decide +kernel
theorem dX8_stateByDocket_1 : decode cX8_stateByDocket 1 = .ok (.iload_n 1, 1) := by decide +kernel
theorem dX8_stateByDocket_2 : decode cX8_stateByDocket 2 = .ok (.invokevirtual 169, 3) := by decide +kernel
theorem dX8_stateByDocket_5 : decode cX8_stateByDocket 5 = .ok (.iconst 0, 1) := by decide +kernel
theorem dX8_stateByDocket_6 : decode cX8_stateByDocket 6 = .ok (.istore_n 2, 1) := by decide +kernel
theorem dX8_stateByDocket_7 : decode cX8_stateByDocket 7 = .ok (.iconst 0, 1) := by decide +kernel
theorem dX8_stateByDocket_8 : decode cX8_stateByDocket 8 = .ok (.istore_n 3, 1) := by decide +kernel
theorem dX8_stateByDocket_9 : decode cX8_stateByDocket 9 = .ok (.iconst 0, 1) := by decide +kernel
theorem dX8_stateByDocket_10 : decode cX8_stateByDocket 10 = .ok (.istore 4, 2) := by decide +kernel
theorem dX8_stateByDocket_12 : decode cX8_stateByDocket 12 = .ok (.iconst 0, 1) := by decide +kernel
theorem dX8_stateByDocket_13 : decode cX8_stateByDocket 13 = .ok (.istore 5, 2) := by decide +kernel
theorem dX8_stateByDocket_15 : decode cX8_stateByDocket 15 = .ok (.iconst 0, 1) := by decide +kernel
theorem dX8_stateByDocket_16 : decode cX8_stateByDocket 16 = .ok (.istore 6, 2) := by decide +kernel
theorem dX8_stateByDocket_18 : decode cX8_stateByDocket 18 = .ok (.iload 6, 2) := by decide +kernel
theorem dX8_stateByDocket_20 : decode cX8_stateByDocket 20 = .ok (.aload_n 0, 1) := by decide +kernel
theorem dX8_stateByDocket_21 : decode cX8_stateByDocket 21 = .ok (.getfield 33, 3) := by decide +kernel
theorem dX8_stateByDocket_24 : decode cX8_stateByDocket 24 = .ok (.getfield 457, 3) := by decide +kernel
theorem dX8_stateByDocket_27 : decode cX8_stateByDocket 27 = .ok (.if_icmp .ge 195, 3) := by decide +kernel
theorem dX8_stateByDocket_30 : decode cX8_stateByDocket 30 = .ok (.aload_n 0, 1) := by decide +kernel
theorem dX8_stateByDocket_31 : decode cX8_stateByDocket 31 = .ok (.getfield 33, 3) := by decide +kernel
theorem dX8_stateByDocket_34 : decode cX8_stateByDocket 34 = .ok (.iload 6, 2) := by decide +kernel
theorem dX8_stateByDocket_36 : decode cX8_stateByDocket 36 = .ok (.iload_n 1, 1) := by decide +kernel
theorem dX8_stateByDocket_37 : decode cX8_stateByDocket 37 = .ok (.invokevirtual 469, 3) := by decide +kernel
theorem dX8_stateByDocket_40 : decode cX8_stateByDocket 40 = .ok (.ifCond .ne 6, 3) := by decide +kernel
theorem dX8_stateByDocket_43 : decode cX8_stateByDocket 43 = .ok (.goto 173, 3) := by decide +kernel
theorem dX8_stateByDocket_46 : decode cX8_stateByDocket 46 = .ok (.aload_n 0, 1) := by decide +kernel
theorem dX8_stateByDocket_47 : decode cX8_stateByDocket 47 = .ok (.getfield 33, 3) := by decide +kernel
theorem dX8_stateByDocket_50 : decode cX8_stateByDocket 50 = .ok (.getfield 458, 3) := by decide +kernel
theorem dX8_stateByDocket_53 : decode cX8_stateByDocket 53 = .ok (.iload 6, 2) := by decide +kernel
theorem dX8_stateByDocket_55 : decode cX8_stateByDocket 55 = .ok (.iaload, 1) := by decide +kernel
theorem dX8_stateByDocket_56 : decode cX8_stateByDocket 56 = .ok (.istore 7, 2) := by decide +kernel
theorem dX8_stateByDocket_58 : decode cX8_stateByDocket 58 = .ok (.aload_n 0, 1) := by decide +kernel
theorem dX8_stateByDocket_59 : decode cX8_stateByDocket 59 = .ok (.getfield 33, 3) := by decide +kernel
theorem dX8_stateByDocket_62 : decode cX8_stateByDocket 62 = .ok (.getfield 301, 3) := by decide +kernel
theorem dX8_stateByDocket_65 : decode cX8_stateByDocket 65 = .ok (.iload 6, 2) := by decide +kernel
theorem dX8_stateByDocket_67 : decode cX8_stateByDocket 67 = .ok (.iaload, 1) := by decide +kernel
theorem dX8_stateByDocket_68 : decode cX8_stateByDocket 68 = .ok (.tableswitch 148 4 10 #[44, 58, 87, 92, 97, 106, 111], 44) := by decide +kernel
theorem dX8_stateByDocket_112 : decode cX8_stateByDocket 112 = .ok (.iload 7, 2) := by decide +kernel
theorem dX8_stateByDocket_114 : decode cX8_stateByDocket 114 = .ok (.ifCond .ne 7, 3) := by decide +kernel
theorem dX8_stateByDocket_117 : decode cX8_stateByDocket 117 = .ok (.iconst 1, 1) := by decide +kernel
theorem dX8_stateByDocket_118 : decode cX8_stateByDocket 118 = .ok (.goto 4, 3) := by decide +kernel
theorem dX8_stateByDocket_121 : decode cX8_stateByDocket 121 = .ok (.iload_n 2, 1) := by decide +kernel
theorem dX8_stateByDocket_122 : decode cX8_stateByDocket 122 = .ok (.istore_n 2, 1) := by decide +kernel
theorem dX8_stateByDocket_123 : decode cX8_stateByDocket 123 = .ok (.goto 93, 3) := by decide +kernel
theorem dX8_stateByDocket_126 : decode cX8_stateByDocket 126 = .ok (.iload 7, 2) := by decide +kernel
theorem dX8_stateByDocket_128 : decode cX8_stateByDocket 128 = .ok (.ifCond .ne 7, 3) := by decide +kernel
theorem dX8_stateByDocket_131 : decode cX8_stateByDocket 131 = .ok (.iconst 1, 1) := by decide +kernel
theorem dX8_stateByDocket_132 : decode cX8_stateByDocket 132 = .ok (.goto 4, 3) := by decide +kernel
theorem dX8_stateByDocket_135 : decode cX8_stateByDocket 135 = .ok (.iconst 2, 1) := by decide +kernel
theorem dX8_stateByDocket_136 : decode cX8_stateByDocket 136 = .ok (.istore_n 2, 1) := by decide +kernel
theorem dX8_stateByDocket_137 : decode cX8_stateByDocket 137 = .ok (.iload 7, 2) := by decide +kernel
theorem dX8_stateByDocket_139 : decode cX8_stateByDocket 139 = .ok (.istore_n 3, 1) := by decide +kernel
theorem dX8_stateByDocket_140 : decode cX8_stateByDocket 140 = .ok (.aload_n 0, 1) := by decide +kernel
theorem dX8_stateByDocket_141 : decode cX8_stateByDocket 141 = .ok (.getfield 33, 3) := by decide +kernel
theorem dX8_stateByDocket_144 : decode cX8_stateByDocket 144 = .ok (.getfield 440, 3) := by decide +kernel
theorem dX8_stateByDocket_147 : decode cX8_stateByDocket 147 = .ok (.iload 6, 2) := by decide +kernel
theorem dX8_stateByDocket_149 : decode cX8_stateByDocket 149 = .ok (.iaload, 1) := by decide +kernel
theorem dX8_stateByDocket_150 : decode cX8_stateByDocket 150 = .ok (.istore 4, 2) := by decide +kernel
theorem dX8_stateByDocket_152 : decode cX8_stateByDocket 152 = .ok (.goto 64, 3) := by decide +kernel
theorem dX8_stateByDocket_155 : decode cX8_stateByDocket 155 = .ok (.iconst 0, 1) := by decide +kernel
theorem dX8_stateByDocket_156 : decode cX8_stateByDocket 156 = .ok (.istore_n 2, 1) := by decide +kernel
theorem dX8_stateByDocket_157 : decode cX8_stateByDocket 157 = .ok (.goto 59, 3) := by decide +kernel
theorem dX8_stateByDocket_160 : decode cX8_stateByDocket 160 = .ok (.iconst 3, 1) := by decide +kernel
theorem dX8_stateByDocket_161 : decode cX8_stateByDocket 161 = .ok (.istore_n 2, 1) := by decide +kernel
theorem dX8_stateByDocket_162 : decode cX8_stateByDocket 162 = .ok (.goto 54, 3) := by decide +kernel
theorem dX8_stateByDocket_165 : decode cX8_stateByDocket 165 = .ok (.iload 7, 2) := by decide +kernel
theorem dX8_stateByDocket_167 : decode cX8_stateByDocket 167 = .ok (.invokestatic 284, 3) := by decide +kernel
theorem dX8_stateByDocket_170 : decode cX8_stateByDocket 170 = .ok (.istore_n 2, 1) := by decide +kernel
theorem dX8_stateByDocket_171 : decode cX8_stateByDocket 171 = .ok (.goto 45, 3) := by decide +kernel
theorem dX8_stateByDocket_174 : decode cX8_stateByDocket 174 = .ok (.iconst 4, 1) := by decide +kernel
theorem dX8_stateByDocket_175 : decode cX8_stateByDocket 175 = .ok (.istore_n 2, 1) := by decide +kernel
theorem dX8_stateByDocket_176 : decode cX8_stateByDocket 176 = .ok (.goto 40, 3) := by decide +kernel
theorem dX8_stateByDocket_179 : decode cX8_stateByDocket 179 = .ok (.iload 5, 2) := by decide +kernel
theorem dX8_stateByDocket_181 : decode cX8_stateByDocket 181 = .ok (.iload 7, 2) := by decide +kernel
theorem dX8_stateByDocket_183 : decode cX8_stateByDocket 183 = .ok (.iadd, 1) := by decide +kernel
theorem dX8_stateByDocket_184 : decode cX8_stateByDocket 184 = .ok (.istore 5, 2) := by decide +kernel
theorem dX8_stateByDocket_186 : decode cX8_stateByDocket 186 = .ok (.iload_n 3, 1) := by decide +kernel
theorem dX8_stateByDocket_187 : decode cX8_stateByDocket 187 = .ok (.iload 4, 2) := by decide +kernel
theorem dX8_stateByDocket_189 : decode cX8_stateByDocket 189 = .ok (.aload_n 0, 1) := by decide +kernel
theorem dX8_stateByDocket_190 : decode cX8_stateByDocket 190 = .ok (.getfield 33, 3) := by decide +kernel
theorem dX8_stateByDocket_193 : decode cX8_stateByDocket 193 = .ok (.getfield 440, 3) := by decide +kernel
theorem dX8_stateByDocket_196 : decode cX8_stateByDocket 196 = .ok (.iload 6, 2) := by decide +kernel
theorem dX8_stateByDocket_198 : decode cX8_stateByDocket 198 = .ok (.iaload, 1) := by decide +kernel
theorem dX8_stateByDocket_199 : decode cX8_stateByDocket 199 = .ok (.invokestatic 472, 3) := by decide +kernel
theorem dX8_stateByDocket_202 : decode cX8_stateByDocket 202 = .ok (.iload 5, 2) := by decide +kernel
theorem dX8_stateByDocket_204 : decode cX8_stateByDocket 204 = .ok (.if_icmp .ne 7, 3) := by decide +kernel
theorem dX8_stateByDocket_207 : decode cX8_stateByDocket 207 = .ok (.iconst 5, 1) := by decide +kernel
theorem dX8_stateByDocket_208 : decode cX8_stateByDocket 208 = .ok (.goto 4, 3) := by decide +kernel
theorem dX8_stateByDocket_211 : decode cX8_stateByDocket 211 = .ok (.iload_n 2, 1) := by decide +kernel
theorem dX8_stateByDocket_212 : decode cX8_stateByDocket 212 = .ok (.istore_n 2, 1) := by decide +kernel
theorem dX8_stateByDocket_213 : decode cX8_stateByDocket 213 = .ok (.goto 3, 3) := by decide +kernel
theorem dX8_stateByDocket_216 : decode cX8_stateByDocket 216 = .ok (.iinc 6 1, 3) := by decide +kernel
theorem dX8_stateByDocket_219 : decode cX8_stateByDocket 219 = .ok (.goto (-201), 3) := by decide +kernel
theorem dX8_stateByDocket_222 : decode cX8_stateByDocket 222 = .ok (.iload_n 2, 1) := by decide +kernel
theorem dX8_stateByDocket_223 : decode cX8_stateByDocket 223 = .ok (.ireturn, 1) := by decide +kernel
theorem dX8_amountOf_0 : decode cX8_amountOf 0 = .ok (.aload_n 0, 1) := by decide +kernel
theorem dX8_amountOf_1 : decode cX8_amountOf 1 = .ok (.iload_n 1, 1) := by decide +kernel
theorem dX8_amountOf_2 : decode cX8_amountOf 2 = .ok (.invokevirtual 169, 3) := by decide +kernel
theorem dX8_amountOf_5 : decode cX8_amountOf 5 = .ok (.aload_n 0, 1) := by decide +kernel
theorem dX8_amountOf_6 : decode cX8_amountOf 6 = .ok (.getfield 26, 3) := by decide +kernel
theorem dX8_amountOf_9 : decode cX8_amountOf 9 = .ok (.getfield 235, 3) := by decide +kernel
theorem dX8_amountOf_12 : decode cX8_amountOf 12 = .ok (.iload_n 1, 1) := by decide +kernel
theorem dX8_amountOf_13 : decode cX8_amountOf 13 = .ok (.iaload, 1) := by decide +kernel
theorem dX8_amountOf_14 : decode cX8_amountOf 14 = .ok (.ireturn, 1) := by decide +kernel
theorem dX8_balance_0 : decode cX8_balance 0 = .ok (.aload_n 0, 1) := by decide +kernel
theorem dX8_balance_1 : decode cX8_balance 1 = .ok (.iload_n 1, 1) := by decide +kernel
theorem dX8_balance_2 : decode cX8_balance 2 = .ok (.invokevirtual 169, 3) := by decide +kernel
theorem dX8_balance_5 : decode cX8_balance 5 = .ok (.aload_n 0, 1) := by decide +kernel
theorem dX8_balance_6 : decode cX8_balance 6 = .ok (.iload_n 1, 1) := by decide +kernel
theorem dX8_balance_7 : decode cX8_balance 7 = .ok (.invokevirtual 288, 3) := by decide +kernel
theorem dX8_balance_10 : decode cX8_balance 10 = .ok (.ireturn, 1) := by decide +kernel
theorem dX8_caseOf_0 : decode cX8_caseOf 0 = .ok (.aload_n 0, 1) := by decide +kernel
theorem dX8_caseOf_1 : decode cX8_caseOf 1 = .ok (.iload_n 1, 1) := by decide +kernel
theorem dX8_caseOf_2 : decode cX8_caseOf 2 = .ok (.invokevirtual 169, 3) := by decide +kernel
theorem dX8_caseOf_5 : decode cX8_caseOf 5 = .ok (.aload_n 0, 1) := by decide +kernel
theorem dX8_caseOf_6 : decode cX8_caseOf 6 = .ok (.getfield 26, 3) := by decide +kernel
theorem dX8_caseOf_9 : decode cX8_caseOf 9 = .ok (.getfield 177, 3) := by decide +kernel
theorem dX8_caseOf_12 : decode cX8_caseOf 12 = .ok (.iload_n 1, 1) := by decide +kernel
theorem dX8_caseOf_13 : decode cX8_caseOf 13 = .ok (.iaload, 1) := by decide +kernel
theorem dX8_caseOf_14 : decode cX8_caseOf 14 = .ok (.ireturn, 1) := by decide +kernel
theorem dX8_isAnswered_0 : decode cX8_isAnswered 0 = .ok (.aload_n 0, 1) := by decide +kernel
theorem dX8_isAnswered_1 : decode cX8_isAnswered 1 = .ok (.iload_n 1, 1) := by decide +kernel
theorem dX8_isAnswered_2 : decode cX8_isAnswered 2 = .ok (.invokevirtual 169, 3) := by decide +kernel
theorem dX8_isAnswered_5 : decode cX8_isAnswered 5 = .ok (.aload_n 0, 1) := by decide +kernel
theorem dX8_isAnswered_6 : decode cX8_isAnswered 6 = .ok (.iload_n 1, 1) := by decide +kernel
theorem dX8_isAnswered_7 : decode cX8_isAnswered 7 = .ok (.invokevirtual 246, 3) := by decide +kernel
theorem dX8_isAnswered_10 : decode cX8_isAnswered 10 = .ok (.ireturn, 1) := by decide +kernel
theorem dX8_due_0 : decode cX8_due 0 = .ok (.aload_n 0, 1) := by decide +kernel
theorem dX8_due_1 : decode cX8_due 1 = .ok (.iload_n 1, 1) := by decide +kernel
theorem dX8_due_2 : decode cX8_due 2 = .ok (.iload_n 2, 1) := by decide +kernel
theorem dX8_due_3 : decode cX8_due 3 = .ok (.invokevirtual 331, 3) := by decide +kernel
theorem dX8_due_6 : decode cX8_due 6 = .ok (.aload_n 0, 1) := by decide +kernel
theorem dX8_due_7 : decode cX8_due 7 = .ok (.iload_n 1, 1) := by decide +kernel
theorem dX8_due_8 : decode cX8_due 8 = .ok (.iload_n 2, 1) := by decide +kernel
theorem dX8_due_9 : decode cX8_due 9 = .ok (.invokevirtual 334, 3) := by decide +kernel
theorem dX8_due_12 : decode cX8_due 12 = .ok (.istore_n 3, 1) := by decide +kernel
theorem dX8_due_13 : decode cX8_due 13 = .ok (.iload_n 3, 1) := by decide +kernel
theorem dX8_due_14 : decode cX8_due 14 = .ok (.iconst (-1), 1) := by decide +kernel
theorem dX8_due_15 : decode cX8_due 15 = .ok (.if_icmp .ne 5, 3) := by decide +kernel
theorem dX8_due_18 : decode cX8_due 18 = .ok (.iconst (-1), 1) := by decide +kernel
theorem dX8_due_19 : decode cX8_due 19 = .ok (.ireturn, 1) := by decide +kernel
theorem dX8_due_20 : decode cX8_due 20 = .ok (.iload_n 1, 1) := by decide +kernel
theorem dX8_due_21 : decode cX8_due 21 = .ok (.iconst 3, 1) := by decide +kernel
theorem dX8_due_22 : decode cX8_due 22 = .ok (.if_icmp .ne 11, 3) := by decide +kernel
theorem dX8_due_25 : decode cX8_due 25 = .ok (.aload_n 0, 1) := by decide +kernel
theorem dX8_due_26 : decode cX8_due 26 = .ok (.iload_n 3, 1) := by decide +kernel
theorem dX8_due_27 : decode cX8_due 27 = .ok (.invokevirtual 318, 3) := by decide +kernel
theorem dX8_due_30 : decode cX8_due 30 = .ok (.goto 8, 3) := by decide +kernel
theorem dX8_due_33 : decode cX8_due 33 = .ok (.aload_n 0, 1) := by decide +kernel
theorem dX8_due_34 : decode cX8_due 34 = .ok (.iload_n 3, 1) := by decide +kernel
theorem dX8_due_35 : decode cX8_due 35 = .ok (.invokevirtual 337, 3) := by decide +kernel
theorem dX8_due_38 : decode cX8_due 38 = .ok (.ireturn, 1) := by decide +kernel
theorem dX8_dueByDays_0 : decode cX8_dueByDays 0 = .ok (.aload_n 0, 1) := by decide +kernel
theorem dX8_dueByDays_1 : decode cX8_dueByDays 1 = .ok (.iload_n 1, 1) := by decide +kernel
theorem dX8_dueByDays_2 : decode cX8_dueByDays 2 = .ok (.iload_n 2, 1) := by decide +kernel
theorem dX8_dueByDays_3 : decode cX8_dueByDays 3 = .ok (.invokevirtual 331, 3) := by decide +kernel
theorem dX8_dueByDays_6 : decode cX8_dueByDays 6 = .ok (.aload_n 0, 1) := by decide +kernel
theorem dX8_dueByDays_7 : decode cX8_dueByDays 7 = .ok (.iload_n 1, 1) := by decide +kernel
theorem dX8_dueByDays_8 : decode cX8_dueByDays 8 = .ok (.iload_n 2, 1) := by decide +kernel
theorem dX8_dueByDays_9 : decode cX8_dueByDays 9 = .ok (.invokevirtual 334, 3) := by decide +kernel
theorem dX8_dueByDays_12 : decode cX8_dueByDays 12 = .ok (.istore_n 3, 1) := by decide +kernel
theorem dX8_dueByDays_13 : decode cX8_dueByDays 13 = .ok (.iload_n 3, 1) := by decide +kernel
theorem dX8_dueByDays_14 : decode cX8_dueByDays 14 = .ok (.iconst (-1), 1) := by decide +kernel
theorem dX8_dueByDays_15 : decode cX8_dueByDays 15 = .ok (.if_icmp .ne 5, 3) := by decide +kernel
theorem dX8_dueByDays_18 : decode cX8_dueByDays 18 = .ok (.iconst (-1), 1) := by decide +kernel
theorem dX8_dueByDays_19 : decode cX8_dueByDays 19 = .ok (.ireturn, 1) := by decide +kernel
theorem dX8_dueByDays_20 : decode cX8_dueByDays 20 = .ok (.aload_n 0, 1) := by decide +kernel
theorem dX8_dueByDays_21 : decode cX8_dueByDays 21 = .ok (.getfield 26, 3) := by decide +kernel
theorem dX8_dueByDays_24 : decode cX8_dueByDays 24 = .ok (.getfield 177, 3) := by decide +kernel
theorem dX8_dueByDays_27 : decode cX8_dueByDays 27 = .ok (.aload_n 0, 1) := by decide +kernel
theorem dX8_dueByDays_28 : decode cX8_dueByDays 28 = .ok (.getfield 33, 3) := by decide +kernel
theorem dX8_dueByDays_31 : decode cX8_dueByDays 31 = .ok (.getfield 232, 3) := by decide +kernel
theorem dX8_dueByDays_34 : decode cX8_dueByDays 34 = .ok (.iload_n 3, 1) := by decide +kernel
theorem dX8_dueByDays_35 : decode cX8_dueByDays 35 = .ok (.iaload, 1) := by decide +kernel
theorem dX8_dueByDays_36 : decode cX8_dueByDays 36 = .ok (.iaload, 1) := by decide +kernel
theorem dX8_dueByDays_37 : decode cX8_dueByDays 37 = .ok (.istore 4, 2) := by decide +kernel
theorem dX8_dueByDays_39 : decode cX8_dueByDays 39 = .ok (.aload_n 0, 1) := by decide +kernel
theorem dX8_dueByDays_40 : decode cX8_dueByDays 40 = .ok (.getfield 19, 3) := by decide +kernel
theorem dX8_dueByDays_43 : decode cX8_dueByDays 43 = .ok (.getfield 149, 3) := by decide +kernel
theorem dX8_dueByDays_46 : decode cX8_dueByDays 46 = .ok (.iload 4, 2) := by decide +kernel
theorem dX8_dueByDays_48 : decode cX8_dueByDays 48 = .ok (.iaload, 1) := by decide +kernel
theorem dX8_dueByDays_49 : decode cX8_dueByDays 49 = .ok (.istore 5, 2) := by decide +kernel
theorem dX8_dueByDays_51 : decode cX8_dueByDays 51 = .ok (.iload_n 1, 1) := by decide +kernel
theorem dX8_dueByDays_52 : decode cX8_dueByDays 52 = .ok (.iconst 3, 1) := by decide +kernel
theorem dX8_dueByDays_53 : decode cX8_dueByDays 53 = .ok (.if_icmp .ne 42, 3) := by decide +kernel
theorem dX8_dueByDays_56 : decode cX8_dueByDays 56 = .ok (.aload_n 0, 1) := by decide +kernel
theorem dX8_dueByDays_57 : decode cX8_dueByDays 57 = .ok (.getfield 12, 3) := by decide +kernel
theorem dX8_dueByDays_60 : decode cX8_dueByDays 60 = .ok (.aload_n 0, 1) := by decide +kernel
theorem dX8_dueByDays_61 : decode cX8_dueByDays 61 = .ok (.getfield 33, 3) := by decide +kernel
theorem dX8_dueByDays_64 : decode cX8_dueByDays 64 = .ok (.getfield 309, 3) := by decide +kernel
theorem dX8_dueByDays_67 : decode cX8_dueByDays 67 = .ok (.iload_n 3, 1) := by decide +kernel
theorem dX8_dueByDays_68 : decode cX8_dueByDays 68 = .ok (.iaload, 1) := by decide +kernel
theorem dX8_dueByDays_69 : decode cX8_dueByDays 69 = .ok (.aload_n 0, 1) := by decide +kernel
theorem dX8_dueByDays_70 : decode cX8_dueByDays 70 = .ok (.getfield 33, 3) := by decide +kernel
theorem dX8_dueByDays_73 : decode cX8_dueByDays 73 = .ok (.getfield 312, 3) := by decide +kernel
theorem dX8_dueByDays_76 : decode cX8_dueByDays 76 = .ok (.iload_n 3, 1) := by decide +kernel
theorem dX8_dueByDays_77 : decode cX8_dueByDays 77 = .ok (.iaload, 1) := by decide +kernel
theorem dX8_dueByDays_78 : decode cX8_dueByDays 78 = .ok (.aload_n 0, 1) := by decide +kernel
theorem dX8_dueByDays_79 : decode cX8_dueByDays 79 = .ok (.getfield 33, 3) := by decide +kernel
theorem dX8_dueByDays_82 : decode cX8_dueByDays 82 = .ok (.getfield 315, 3) := by decide +kernel
theorem dX8_dueByDays_85 : decode cX8_dueByDays 85 = .ok (.iload_n 3, 1) := by decide +kernel
theorem dX8_dueByDays_86 : decode cX8_dueByDays 86 = .ok (.baload, 1) := by decide +kernel
theorem dX8_dueByDays_87 : decode cX8_dueByDays 87 = .ok (.iload 4, 2) := by decide +kernel
theorem dX8_dueByDays_89 : decode cX8_dueByDays 89 = .ok (.iload 5, 2) := by decide +kernel
theorem dX8_dueByDays_91 : decode cX8_dueByDays 91 = .ok (.invokevirtual 475, 3) := by decide +kernel
theorem dX8_dueByDays_94 : decode cX8_dueByDays 94 = .ok (.ireturn, 1) := by decide +kernel
theorem dX8_dueByDays_95 : decode cX8_dueByDays 95 = .ok (.aload_n 0, 1) := by decide +kernel
theorem dX8_dueByDays_96 : decode cX8_dueByDays 96 = .ok (.getfield 12, 3) := by decide +kernel
theorem dX8_dueByDays_99 : decode cX8_dueByDays 99 = .ok (.aload_n 0, 1) := by decide +kernel
theorem dX8_dueByDays_100 : decode cX8_dueByDays 100 = .ok (.getfield 33, 3) := by decide +kernel
theorem dX8_dueByDays_103 : decode cX8_dueByDays 103 = .ok (.getfield 440, 3) := by decide +kernel
theorem dX8_dueByDays_106 : decode cX8_dueByDays 106 = .ok (.iload_n 3, 1) := by decide +kernel
theorem dX8_dueByDays_107 : decode cX8_dueByDays 107 = .ok (.iaload, 1) := by decide +kernel
theorem dX8_dueByDays_108 : decode cX8_dueByDays 108 = .ok (.aload_n 0, 1) := by decide +kernel
theorem dX8_dueByDays_109 : decode cX8_dueByDays 109 = .ok (.getfield 33, 3) := by decide +kernel
theorem dX8_dueByDays_112 : decode cX8_dueByDays 112 = .ok (.getfield 208, 3) := by decide +kernel
theorem dX8_dueByDays_115 : decode cX8_dueByDays 115 = .ok (.iload_n 3, 1) := by decide +kernel
theorem dX8_dueByDays_116 : decode cX8_dueByDays 116 = .ok (.iaload, 1) := by decide +kernel
theorem dX8_dueByDays_117 : decode cX8_dueByDays 117 = .ok (.aload_n 0, 1) := by decide +kernel
theorem dX8_dueByDays_118 : decode cX8_dueByDays 118 = .ok (.getfield 33, 3) := by decide +kernel
theorem dX8_dueByDays_121 : decode cX8_dueByDays 121 = .ok (.getfield 479, 3) := by decide +kernel
theorem dX8_dueByDays_124 : decode cX8_dueByDays 124 = .ok (.iload_n 3, 1) := by decide +kernel
theorem dX8_dueByDays_125 : decode cX8_dueByDays 125 = .ok (.baload, 1) := by decide +kernel
theorem dX8_dueByDays_126 : decode cX8_dueByDays 126 = .ok (.iload 4, 2) := by decide +kernel
theorem dX8_dueByDays_128 : decode cX8_dueByDays 128 = .ok (.iload 5, 2) := by decide +kernel
theorem dX8_dueByDays_130 : decode cX8_dueByDays 130 = .ok (.invokevirtual 475, 3) := by decide +kernel
theorem dX8_dueByDays_133 : decode cX8_dueByDays 133 = .ok (.ireturn, 1) := by decide +kernel
theorem dX8_hearingAt_0 : decode cX8_hearingAt 0 = .ok (.aload_n 0, 1) := by decide +kernel
theorem dX8_hearingAt_1 : decode cX8_hearingAt 1 = .ok (.iload_n 1, 1) := by decide +kernel
theorem dX8_hearingAt_2 : decode cX8_hearingAt 2 = .ok (.invokevirtual 354, 3) := by decide +kernel
theorem dX8_hearingAt_5 : decode cX8_hearingAt 5 = .ok (.bipush 10, 2) := by decide +kernel
theorem dX8_hearingAt_7 : decode cX8_hearingAt 7 = .ok (.aload_n 0, 1) := by decide +kernel
theorem dX8_hearingAt_8 : decode cX8_hearingAt 8 = .ok (.getfield 40, 3) := by decide +kernel
theorem dX8_hearingAt_11 : decode cX8_hearingAt 11 = .ok (.getfield 357, 3) := by decide +kernel
theorem dX8_hearingAt_14 : decode cX8_hearingAt 14 = .ok (.iload_n 1, 1) := by decide +kernel
theorem dX8_hearingAt_15 : decode cX8_hearingAt 15 = .ok (.iaload, 1) := by decide +kernel
theorem dX8_hearingAt_16 : decode cX8_hearingAt 16 = .ok (.imul, 1) := by decide +kernel
theorem dX8_hearingAt_17 : decode cX8_hearingAt 17 = .ok (.aload_n 0, 1) := by decide +kernel
theorem dX8_hearingAt_18 : decode cX8_hearingAt 18 = .ok (.getfield 40, 3) := by decide +kernel
theorem dX8_hearingAt_21 : decode cX8_hearingAt 21 = .ok (.getfield 365, 3) := by decide +kernel
theorem dX8_hearingAt_24 : decode cX8_hearingAt 24 = .ok (.iload_n 1, 1) := by decide +kernel
theorem dX8_hearingAt_25 : decode cX8_hearingAt 25 = .ok (.iaload, 1) := by decide +kernel
theorem dX8_hearingAt_26 : decode cX8_hearingAt 26 = .ok (.iadd, 1) := by decide +kernel
theorem dX8_hearingAt_27 : decode cX8_hearingAt 27 = .ok (.ireturn, 1) := by decide +kernel
theorem dX8_checkDays_0 : decode cX8_checkDays 0 = .ok (.iload_n 1, 1) := by decide +kernel
theorem dX8_checkDays_1 : decode cX8_checkDays 1 = .ok (.iconst 1, 1) := by decide +kernel
theorem dX8_checkDays_2 : decode cX8_checkDays 2 = .ok (.if_icmp .lt 9, 3) := by decide +kernel
theorem dX8_checkDays_5 : decode cX8_checkDays 5 = .ok (.iload_n 1, 1) := by decide +kernel
theorem dX8_checkDays_6 : decode cX8_checkDays 6 = .ok (.bipush 60, 2) := by decide +kernel
theorem dX8_checkDays_8 : decode cX8_checkDays 8 = .ok (.if_icmp .le 14, 3) := by decide +kernel
theorem dX8_checkDays_11 : decode cX8_checkDays 11 = .ok (.new 80, 3) := by decide +kernel
theorem dX8_checkDays_14 : decode cX8_checkDays 14 = .ok (.dup, 1) := by decide +kernel
theorem dX8_checkDays_15 : decode cX8_checkDays 15 = .ok (.ldc_w 482, 3) := by decide +kernel
theorem dX8_checkDays_18 : decode cX8_checkDays 18 = .ok (.invokespecial 84, 3) := by decide +kernel
theorem dX8_checkDays_21 : decode cX8_checkDays 21 = .ok (.athrow, 1) := by decide +kernel
theorem dX8_checkDays_22 : decode cX8_checkDays 22 = .ok (.return_, 1) := by decide +kernel
theorem dX8_checkAmount_0 : decode cX8_checkAmount 0 = .ok (.iload_n 1, 1) := by decide +kernel
theorem dX8_checkAmount_1 : decode cX8_checkAmount 1 = .ok (.iconst 1, 1) := by decide +kernel
theorem dX8_checkAmount_2 : decode cX8_checkAmount 2 = .ok (.if_icmp .lt 8, 3) := by decide +kernel
theorem dX8_checkAmount_5 : decode cX8_checkAmount 5 = .ok (.iload_n 1, 1) := by decide +kernel
theorem dX8_checkAmount_6 : decode cX8_checkAmount 6 = .ok (.iload_n 2, 1) := by decide +kernel
theorem dX8_checkAmount_7 : decode cX8_checkAmount 7 = .ok (.if_icmp .le 13, 3) := by decide +kernel
theorem dX8_checkAmount_10 : decode cX8_checkAmount 10 = .ok (.new 80, 3) := by decide +kernel
theorem dX8_checkAmount_13 : decode cX8_checkAmount 13 = .ok (.dup, 1) := by decide +kernel
theorem dX8_checkAmount_14 : decode cX8_checkAmount 14 = .ok (.ldc 238, 2) := by decide +kernel
theorem dX8_checkAmount_16 : decode cX8_checkAmount 16 = .ok (.invokespecial 84, 3) := by decide +kernel
theorem dX8_checkAmount_19 : decode cX8_checkAmount 19 = .ok (.athrow, 1) := by decide +kernel
theorem dX8_checkAmount_20 : decode cX8_checkAmount 20 = .ok (.return_, 1) := by decide +kernel
theorem dX8_checkCase_0 : decode cX8_checkCase 0 = .ok (.iload_n 1, 1) := by decide +kernel
theorem dX8_checkCase_1 : decode cX8_checkCase 1 = .ok (.ifCond .lt 14, 3) := by decide +kernel
theorem dX8_checkCase_4 : decode cX8_checkCase 4 = .ok (.iload_n 1, 1) := by decide +kernel
theorem dX8_checkCase_5 : decode cX8_checkCase 5 = .ok (.aload_n 0, 1) := by decide +kernel
theorem dX8_checkCase_6 : decode cX8_checkCase 6 = .ok (.getfield 19, 3) := by decide +kernel
theorem dX8_checkCase_9 : decode cX8_checkCase 9 = .ok (.getfield 115, 3) := by decide +kernel
theorem dX8_checkCase_12 : decode cX8_checkCase 12 = .ok (.if_icmp .lt 14, 3) := by decide +kernel
theorem dX8_checkCase_15 : decode cX8_checkCase 15 = .ok (.new 100, 3) := by decide +kernel
theorem dX8_checkCase_18 : decode cX8_checkCase 18 = .ok (.dup, 1) := by decide +kernel
theorem dX8_checkCase_19 : decode cX8_checkCase 19 = .ok (.ldc_w 484, 3) := by decide +kernel
theorem dX8_checkCase_22 : decode cX8_checkCase 22 = .ok (.invokespecial 104, 3) := by decide +kernel
theorem dX8_checkCase_25 : decode cX8_checkCase 25 = .ok (.athrow, 1) := by decide +kernel
theorem dX8_checkCase_26 : decode cX8_checkCase 26 = .ok (.return_, 1) := by decide +kernel
theorem dX8_checkPerson_0 : decode cX8_checkPerson 0 = .ok (.iload_n 1, 1) := by decide +kernel
theorem dX8_checkPerson_1 : decode cX8_checkPerson 1 = .ok (.ifCond .lt 9, 3) := by decide +kernel
theorem dX8_checkPerson_4 : decode cX8_checkPerson 4 = .ok (.iload_n 1, 1) := by decide +kernel
theorem dX8_checkPerson_5 : decode cX8_checkPerson 5 = .ok (.bipush 16, 2) := by decide +kernel
theorem dX8_checkPerson_7 : decode cX8_checkPerson 7 = .ok (.if_icmp .lt 14, 3) := by decide +kernel
theorem dX8_checkPerson_10 : decode cX8_checkPerson 10 = .ok (.new 100, 3) := by decide +kernel
theorem dX8_checkPerson_13 : decode cX8_checkPerson 13 = .ok (.dup, 1) := by decide +kernel
theorem dX8_checkPerson_14 : decode cX8_checkPerson 14 = .ok (.ldc_w 486, 3) := by decide +kernel
theorem dX8_checkPerson_17 : decode cX8_checkPerson 17 = .ok (.invokespecial 104, 3) := by decide +kernel
theorem dX8_checkPerson_20 : decode cX8_checkPerson 20 = .ok (.athrow, 1) := by decide +kernel
theorem dX8_checkPerson_21 : decode cX8_checkPerson 21 = .ok (.return_, 1) := by decide +kernel
theorem dX8_checkSide_0 : decode cX8_checkSide 0 = .ok (.iload_n 1, 1) := by decide +kernel
theorem dX8_checkSide_1 : decode cX8_checkSide 1 = .ok (.ifCond .lt 8, 3) := by decide +kernel
theorem dX8_checkSide_4 : decode cX8_checkSide 4 = .ok (.iload_n 1, 1) := by decide +kernel
theorem dX8_checkSide_5 : decode cX8_checkSide 5 = .ok (.iconst 2, 1) := by decide +kernel
theorem dX8_checkSide_6 : decode cX8_checkSide 6 = .ok (.if_icmp .lt 14, 3) := by decide +kernel
theorem dX8_checkSide_9 : decode cX8_checkSide 9 = .ok (.new 100, 3) := by decide +kernel
theorem dX8_checkSide_12 : decode cX8_checkSide 12 = .ok (.dup, 1) := by decide +kernel
theorem dX8_checkSide_13 : decode cX8_checkSide 13 = .ok (.ldc_w 488, 3) := by decide +kernel
theorem dX8_checkSide_16 : decode cX8_checkSide 16 = .ok (.invokespecial 104, 3) := by decide +kernel
theorem dX8_checkSide_19 : decode cX8_checkSide 19 = .ok (.athrow, 1) := by decide +kernel
theorem dX8_checkSide_20 : decode cX8_checkSide 20 = .ok (.return_, 1) := by decide +kernel
theorem dX8_checkClaim_0 : decode cX8_checkClaim 0 = .ok (.iload_n 1, 1) := by decide +kernel
theorem dX8_checkClaim_1 : decode cX8_checkClaim 1 = .ok (.ifCond .lt 14, 3) := by decide +kernel
theorem dX8_checkClaim_4 : decode cX8_checkClaim 4 = .ok (.iload_n 1, 1) := by decide +kernel
theorem dX8_checkClaim_5 : decode cX8_checkClaim 5 = .ok (.aload_n 0, 1) := by decide +kernel
theorem dX8_checkClaim_6 : decode cX8_checkClaim 6 = .ok (.getfield 26, 3) := by decide +kernel
theorem dX8_checkClaim_9 : decode cX8_checkClaim 9 = .ok (.getfield 163, 3) := by decide +kernel
theorem dX8_checkClaim_12 : decode cX8_checkClaim 12 = .ok (.if_icmp .lt 14, 3) := by decide +kernel
theorem dX8_checkClaim_15 : decode cX8_checkClaim 15 = .ok (.new 100, 3) := by decide +kernel
theorem dX8_checkClaim_18 : decode cX8_checkClaim 18 = .ok (.dup, 1) := by decide +kernel
theorem dX8_checkClaim_19 : decode cX8_checkClaim 19 = .ok (.ldc_w 490, 3) := by decide +kernel
theorem dX8_checkClaim_22 : decode cX8_checkClaim 22 = .ok (.invokespecial 104, 3) := by decide +kernel
theorem dX8_checkClaim_25 : decode cX8_checkClaim 25 = .ok (.athrow, 1) := by decide +kernel
theorem dX8_checkClaim_26 : decode cX8_checkClaim 26 = .ok (.return_, 1) := by decide +kernel
theorem dX8_checkEntry_0 : decode cX8_checkEntry 0 = .ok (.iload_n 1, 1) := by decide +kernel
theorem dX8_checkEntry_1 : decode cX8_checkEntry 1 = .ok (.ifCond .lt 14, 3) := by decide +kernel
theorem dX8_checkEntry_4 : decode cX8_checkEntry 4 = .ok (.iload_n 1, 1) := by decide +kernel
theorem dX8_checkEntry_5 : decode cX8_checkEntry 5 = .ok (.aload_n 0, 1) := by decide +kernel
theorem dX8_checkEntry_6 : decode cX8_checkEntry 6 = .ok (.getfield 33, 3) := by decide +kernel
theorem dX8_checkEntry_9 : decode cX8_checkEntry 9 = .ok (.getfield 457, 3) := by decide +kernel
theorem dX8_checkEntry_12 : decode cX8_checkEntry 12 = .ok (.if_icmp .lt 14, 3) := by decide +kernel
theorem dX8_checkEntry_15 : decode cX8_checkEntry 15 = .ok (.new 100, 3) := by decide +kernel
theorem dX8_checkEntry_18 : decode cX8_checkEntry 18 = .ok (.dup, 1) := by decide +kernel
theorem dX8_checkEntry_19 : decode cX8_checkEntry 19 = .ok (.ldc_w 492, 3) := by decide +kernel
theorem dX8_checkEntry_22 : decode cX8_checkEntry 22 = .ok (.invokespecial 104, 3) := by decide +kernel
theorem dX8_checkEntry_25 : decode cX8_checkEntry 25 = .ok (.athrow, 1) := by decide +kernel
theorem dX8_checkEntry_26 : decode cX8_checkEntry 26 = .ok (.return_, 1) := by decide +kernel
theorem dX8_checkMotion_0 : decode cX8_checkMotion 0 = .ok (.aload_n 0, 1) := by decide +kernel
theorem dX8_checkMotion_1 : decode cX8_checkMotion 1 = .ok (.iload_n 1, 1) := by decide +kernel
theorem dX8_checkMotion_2 : decode cX8_checkMotion 2 = .ok (.invokevirtual 298, 3) := by decide +kernel
theorem dX8_checkMotion_5 : decode cX8_checkMotion 5 = .ok (.aload_n 0, 1) := by decide +kernel
theorem dX8_checkMotion_6 : decode cX8_checkMotion 6 = .ok (.getfield 33, 3) := by decide +kernel
theorem dX8_checkMotion_9 : decode cX8_checkMotion 9 = .ok (.getfield 301, 3) := by decide +kernel
theorem dX8_checkMotion_12 : decode cX8_checkMotion 12 = .ok (.iload_n 1, 1) := by decide +kernel
theorem dX8_checkMotion_13 : decode cX8_checkMotion 13 = .ok (.iaload, 1) := by decide +kernel
theorem dX8_checkMotion_14 : decode cX8_checkMotion 14 = .ok (.iconst 2, 1) := by decide +kernel
theorem dX8_checkMotion_15 : decode cX8_checkMotion 15 = .ok (.if_icmp .eq 14, 3) := by decide +kernel
theorem dX8_checkMotion_18 : decode cX8_checkMotion 18 = .ok (.new 100, 3) := by decide +kernel
theorem dX8_checkMotion_21 : decode cX8_checkMotion 21 = .ok (.dup, 1) := by decide +kernel
theorem dX8_checkMotion_22 : decode cX8_checkMotion 22 = .ok (.ldc_w 494, 3) := by decide +kernel
theorem dX8_checkMotion_25 : decode cX8_checkMotion 25 = .ok (.invokespecial 104, 3) := by decide +kernel
theorem dX8_checkMotion_28 : decode cX8_checkMotion 28 = .ok (.athrow, 1) := by decide +kernel
theorem dX8_checkMotion_29 : decode cX8_checkMotion 29 = .ok (.return_, 1) := by decide +kernel
theorem dX8_checkDeadline_0 : decode cX8_checkDeadline 0 = .ok (.iload_n 1, 1) := by decide +kernel
theorem dX8_checkDeadline_1 : decode cX8_checkDeadline 1 = .ok (.ifCond .lt 8, 3) := by decide +kernel
theorem dX8_checkDeadline_4 : decode cX8_checkDeadline 4 = .ok (.iload_n 1, 1) := by decide +kernel
theorem dX8_checkDeadline_5 : decode cX8_checkDeadline 5 = .ok (.iconst 4, 1) := by decide +kernel
theorem dX8_checkDeadline_6 : decode cX8_checkDeadline 6 = .ok (.if_icmp .lt 14, 3) := by decide +kernel
theorem dX8_checkDeadline_9 : decode cX8_checkDeadline 9 = .ok (.new 100, 3) := by decide +kernel
theorem dX8_checkDeadline_12 : decode cX8_checkDeadline 12 = .ok (.dup, 1) := by decide +kernel
theorem dX8_checkDeadline_13 : decode cX8_checkDeadline 13 = .ok (.ldc_w 496, 3) := by decide +kernel
theorem dX8_checkDeadline_16 : decode cX8_checkDeadline 16 = .ok (.invokespecial 104, 3) := by decide +kernel
theorem dX8_checkDeadline_19 : decode cX8_checkDeadline 19 = .ok (.athrow, 1) := by decide +kernel
theorem dX8_checkDeadline_20 : decode cX8_checkDeadline 20 = .ok (.iload_n 1, 1) := by decide +kernel
theorem dX8_checkDeadline_21 : decode cX8_checkDeadline 21 = .ok (.iconst 1, 1) := by decide +kernel
theorem dX8_checkDeadline_22 : decode cX8_checkDeadline 22 = .ok (.if_icmp .ne 11, 3) := by decide +kernel
theorem dX8_checkDeadline_25 : decode cX8_checkDeadline 25 = .ok (.aload_n 0, 1) := by decide +kernel
theorem dX8_checkDeadline_26 : decode cX8_checkDeadline 26 = .ok (.iload_n 2, 1) := by decide +kernel
theorem dX8_checkDeadline_27 : decode cX8_checkDeadline 27 = .ok (.invokevirtual 223, 3) := by decide +kernel
theorem dX8_checkDeadline_30 : decode cX8_checkDeadline 30 = .ok (.goto 21, 3) := by decide +kernel
theorem dX8_checkDeadline_33 : decode cX8_checkDeadline 33 = .ok (.iload_n 1, 1) := by decide +kernel
theorem dX8_checkDeadline_34 : decode cX8_checkDeadline 34 = .ok (.iconst 3, 1) := by decide +kernel
theorem dX8_checkDeadline_35 : decode cX8_checkDeadline 35 = .ok (.if_icmp .ne 11, 3) := by decide +kernel
theorem dX8_checkDeadline_38 : decode cX8_checkDeadline 38 = .ok (.aload_n 0, 1) := by decide +kernel
theorem dX8_checkDeadline_39 : decode cX8_checkDeadline 39 = .ok (.iload_n 2, 1) := by decide +kernel
theorem dX8_checkDeadline_40 : decode cX8_checkDeadline 40 = .ok (.invokevirtual 298, 3) := by decide +kernel
theorem dX8_checkDeadline_43 : decode cX8_checkDeadline 43 = .ok (.goto 8, 3) := by decide +kernel
theorem dX8_checkDeadline_46 : decode cX8_checkDeadline 46 = .ok (.aload_n 0, 1) := by decide +kernel
theorem dX8_checkDeadline_47 : decode cX8_checkDeadline 47 = .ok (.iload_n 2, 1) := by decide +kernel
theorem dX8_checkDeadline_48 : decode cX8_checkDeadline 48 = .ok (.invokevirtual 169, 3) := by decide +kernel
theorem dX8_checkDeadline_51 : decode cX8_checkDeadline 51 = .ok (.return_, 1) := by decide +kernel
theorem dX8_checkHearing_0 : decode cX8_checkHearing 0 = .ok (.iload_n 1, 1) := by decide +kernel
theorem dX8_checkHearing_1 : decode cX8_checkHearing 1 = .ok (.ifCond .lt 14, 3) := by decide +kernel
theorem dX8_checkHearing_4 : decode cX8_checkHearing 4 = .ok (.iload_n 1, 1) := by decide +kernel
theorem dX8_checkHearing_5 : decode cX8_checkHearing 5 = .ok (.aload_n 0, 1) := by decide +kernel
theorem dX8_checkHearing_6 : decode cX8_checkHearing 6 = .ok (.getfield 40, 3) := by decide +kernel
theorem dX8_checkHearing_9 : decode cX8_checkHearing 9 = .ok (.getfield 344, 3) := by decide +kernel
theorem dX8_checkHearing_12 : decode cX8_checkHearing 12 = .ok (.if_icmp .lt 14, 3) := by decide +kernel
theorem dX8_checkHearing_15 : decode cX8_checkHearing 15 = .ok (.new 100, 3) := by decide +kernel
theorem dX8_checkHearing_18 : decode cX8_checkHearing 18 = .ok (.dup, 1) := by decide +kernel
theorem dX8_checkHearing_19 : decode cX8_checkHearing 19 = .ok (.ldc_w 498, 3) := by decide +kernel
theorem dX8_checkHearing_22 : decode cX8_checkHearing 22 = .ok (.invokespecial 104, 3) := by decide +kernel
theorem dX8_checkHearing_25 : decode cX8_checkHearing 25 = .ok (.athrow, 1) := by decide +kernel
theorem dX8_checkHearing_26 : decode cX8_checkHearing 26 = .ok (.return_, 1) := by decide +kernel
theorem dX8_checkJuror_0 : decode cX8_checkJuror 0 = .ok (.iload_n 1, 1) := by decide +kernel
theorem dX8_checkJuror_1 : decode cX8_checkJuror 1 = .ok (.ifCond .lt 9, 3) := by decide +kernel
theorem dX8_checkJuror_4 : decode cX8_checkJuror 4 = .ok (.iload_n 1, 1) := by decide +kernel
theorem dX8_checkJuror_5 : decode cX8_checkJuror 5 = .ok (.bipush 14, 2) := by decide +kernel
theorem dX8_checkJuror_7 : decode cX8_checkJuror 7 = .ok (.if_icmp .lt 14, 3) := by decide +kernel
theorem dX8_checkJuror_10 : decode cX8_checkJuror 10 = .ok (.new 100, 3) := by decide +kernel
theorem dX8_checkJuror_13 : decode cX8_checkJuror 13 = .ok (.dup, 1) := by decide +kernel
theorem dX8_checkJuror_14 : decode cX8_checkJuror 14 = .ok (.ldc_w 500, 3) := by decide +kernel
theorem dX8_checkJuror_17 : decode cX8_checkJuror 17 = .ok (.invokespecial 104, 3) := by decide +kernel
theorem dX8_checkJuror_20 : decode cX8_checkJuror 20 = .ok (.athrow, 1) := by decide +kernel
theorem dX8_checkJuror_21 : decode cX8_checkJuror 21 = .ok (.return_, 1) := by decide +kernel
theorem dX8_checkExhibit_0 : decode cX8_checkExhibit 0 = .ok (.iload_n 1, 1) := by decide +kernel
theorem dX8_checkExhibit_1 : decode cX8_checkExhibit 1 = .ok (.ifCond .lt 14, 3) := by decide +kernel
theorem dX8_checkExhibit_4 : decode cX8_checkExhibit 4 = .ok (.iload_n 1, 1) := by decide +kernel
theorem dX8_checkExhibit_5 : decode cX8_checkExhibit 5 = .ok (.aload_n 0, 1) := by decide +kernel
theorem dX8_checkExhibit_6 : decode cX8_checkExhibit 6 = .ok (.getfield 54, 3) := by decide +kernel
theorem dX8_checkExhibit_9 : decode cX8_checkExhibit 9 = .ok (.getfield 405, 3) := by decide +kernel
theorem dX8_checkExhibit_12 : decode cX8_checkExhibit 12 = .ok (.if_icmp .lt 14, 3) := by decide +kernel
theorem dX8_checkExhibit_15 : decode cX8_checkExhibit 15 = .ok (.new 100, 3) := by decide +kernel
theorem dX8_checkExhibit_18 : decode cX8_checkExhibit 18 = .ok (.dup, 1) := by decide +kernel
theorem dX8_checkExhibit_19 : decode cX8_checkExhibit 19 = .ok (.ldc_w 502, 3) := by decide +kernel
theorem dX8_checkExhibit_22 : decode cX8_checkExhibit 22 = .ok (.invokespecial 104, 3) := by decide +kernel
theorem dX8_checkExhibit_25 : decode cX8_checkExhibit 25 = .ok (.athrow, 1) := by decide +kernel
theorem dX8_checkExhibit_26 : decode cX8_checkExhibit 26 = .ok (.return_, 1) := by decide +kernel
theorem dX8_allow_0 : decode cX8_allow 0 = .ok (.iload_n 1, 1) := by decide +kernel
theorem dX8_allow_1 : decode cX8_allow 1 = .ok (.ifCond .eq 16, 3) := by decide +kernel
theorem dX8_allow_4 : decode cX8_allow 4 = .ok (.aload_n 0, 1) := by decide +kernel
theorem dX8_allow_5 : decode cX8_allow 5 = .ok (.getfield 33, 3) := by decide +kernel
theorem dX8_allow_8 : decode cX8_allow 8 = .ok (.getfield 457, 3) := by decide +kernel
theorem dX8_allow_11 : decode cX8_allow 11 = .ok (.sipush 160, 3) := by decide +kernel
theorem dX8_allow_14 : decode cX8_allow 14 = .ok (.if_icmp .lt 14, 3) := by decide +kernel
theorem dX8_allow_17 : decode cX8_allow 17 = .ok (.new 73, 3) := by decide +kernel
theorem dX8_allow_20 : decode cX8_allow 20 = .ok (.dup, 1) := by decide +kernel
theorem dX8_allow_21 : decode cX8_allow 21 = .ok (.ldc_w 504, 3) := by decide +kernel
theorem dX8_allow_24 : decode cX8_allow 24 = .ok (.invokespecial 77, 3) := by decide +kernel
theorem dX8_allow_27 : decode cX8_allow 27 = .ok (.athrow, 1) := by decide +kernel
theorem dX8_allow_28 : decode cX8_allow 28 = .ok (.return_, 1) := by decide +kernel
theorem dX8_enter_0 : decode cX8_enter 0 = .ok (.aload_n 0, 1) := by decide +kernel
theorem dX8_enter_1 : decode cX8_enter 1 = .ok (.getfield 33, 3) := by decide +kernel
theorem dX8_enter_4 : decode cX8_enter 4 = .ok (.iload_n 1, 1) := by decide +kernel
theorem dX8_enter_5 : decode cX8_enter 5 = .ok (.aload_n 0, 1) := by decide +kernel
theorem dX8_enter_6 : decode cX8_enter 6 = .ok (.getfield 12, 3) := by decide +kernel
theorem dX8_enter_9 : decode cX8_enter 9 = .ok (.getfield 69, 3) := by decide +kernel
theorem dX8_enter_12 : decode cX8_enter 12 = .ok (.iload_n 2, 1) := by decide +kernel
theorem dX8_enter_13 : decode cX8_enter 13 = .ok (.invokevirtual 506, 3) := by decide +kernel
theorem dX8_enter_16 : decode cX8_enter 16 = .ok (.istore 5, 2) := by decide +kernel
theorem dX8_enter_18 : decode cX8_enter 18 = .ok (.aload_n 0, 1) := by decide +kernel
theorem dX8_enter_19 : decode cX8_enter 19 = .ok (.getfield 33, 3) := by decide +kernel
theorem dX8_enter_22 : decode cX8_enter 22 = .ok (.getfield 458, 3) := by decide +kernel
theorem dX8_enter_25 : decode cX8_enter 25 = .ok (.iload 5, 2) := by decide +kernel
theorem dX8_enter_27 : decode cX8_enter 27 = .ok (.iload_n 3, 1) := by decide +kernel
theorem dX8_enter_28 : decode cX8_enter 28 = .ok (.iastore, 1) := by decide +kernel
theorem dX8_enter_29 : decode cX8_enter 29 = .ok (.aload_n 0, 1) := by decide +kernel
theorem dX8_enter_30 : decode cX8_enter 30 = .ok (.getfield 33, 3) := by decide +kernel
theorem dX8_enter_33 : decode cX8_enter 33 = .ok (.getfield 461, 3) := by decide +kernel
theorem dX8_enter_36 : decode cX8_enter 36 = .ok (.iload 5, 2) := by decide +kernel
theorem dX8_enter_38 : decode cX8_enter 38 = .ok (.iload 4, 2) := by decide +kernel
theorem dX8_enter_40 : decode cX8_enter 40 = .ok (.iastore, 1) := by decide +kernel
theorem dX8_enter_41 : decode cX8_enter 41 = .ok (.iload_n 1, 1) := by decide +kernel
theorem dX8_enter_42 : decode cX8_enter 42 = .ok (.iconst 4, 1) := by decide +kernel
theorem dX8_enter_43 : decode cX8_enter 43 = .ok (.if_icmp .eq 8, 3) := by decide +kernel
theorem dX8_enter_46 : decode cX8_enter 46 = .ok (.iload_n 1, 1) := by decide +kernel
theorem dX8_enter_47 : decode cX8_enter 47 = .ok (.iconst 5, 1) := by decide +kernel
theorem dX8_enter_48 : decode cX8_enter 48 = .ok (.if_icmp .ne 22, 3) := by decide +kernel
theorem dX8_enter_51 : decode cX8_enter 51 = .ok (.aload_n 0, 1) := by decide +kernel
theorem dX8_enter_52 : decode cX8_enter 52 = .ok (.getfield 33, 3) := by decide +kernel
theorem dX8_enter_55 : decode cX8_enter 55 = .ok (.getfield 264, 3) := by decide +kernel
theorem dX8_enter_58 : decode cX8_enter 58 = .ok (.iload 5, 2) := by decide +kernel
theorem dX8_enter_60 : decode cX8_enter 60 = .ok (.aload_n 0, 1) := by decide +kernel
theorem dX8_enter_61 : decode cX8_enter 61 = .ok (.getfield 26, 3) := by decide +kernel
theorem dX8_enter_64 : decode cX8_enter 64 = .ok (.getfield 235, 3) := by decide +kernel
theorem dX8_enter_67 : decode cX8_enter 67 = .ok (.iload_n 2, 1) := by decide +kernel
theorem dX8_enter_68 : decode cX8_enter 68 = .ok (.iaload, 1) := by decide +kernel
theorem dX8_enter_69 : decode cX8_enter 69 = .ok (.iastore, 1) := by decide +kernel
theorem dX8_enter_70 : decode cX8_enter 70 = .ok (.iload_n 1, 1) := by decide +kernel
theorem dX8_enter_71 : decode cX8_enter 71 = .ok (.invokestatic 507, 3) := by decide +kernel
theorem dX8_enter_74 : decode cX8_enter 74 = .ok (.istore 6, 2) := by decide +kernel
theorem dX8_enter_76 : decode cX8_enter 76 = .ok (.iload 6, 2) := by decide +kernel
theorem dX8_enter_78 : decode cX8_enter 78 = .ok (.iconst (-1), 1) := by decide +kernel
theorem dX8_enter_79 : decode cX8_enter 79 = .ok (.if_icmp .eq 43, 3) := by decide +kernel
theorem dX8_enter_82 : decode cX8_enter 82 = .ok (.aload_n 0, 1) := by decide +kernel
theorem dX8_enter_83 : decode cX8_enter 83 = .ok (.getfield 33, 3) := by decide +kernel
theorem dX8_enter_86 : decode cX8_enter 86 = .ok (.getfield 208, 3) := by decide +kernel
theorem dX8_enter_89 : decode cX8_enter 89 = .ok (.iload 5, 2) := by decide +kernel
theorem dX8_enter_91 : decode cX8_enter 91 = .ok (.aload_n 0, 1) := by decide +kernel
theorem dX8_enter_92 : decode cX8_enter 92 = .ok (.getfield 12, 3) := by decide +kernel
theorem dX8_enter_95 : decode cX8_enter 95 = .ok (.getfield 105, 3) := by decide +kernel
theorem dX8_enter_98 : decode cX8_enter 98 = .ok (.iload 6, 2) := by decide +kernel
theorem dX8_enter_100 : decode cX8_enter 100 = .ok (.iaload, 1) := by decide +kernel
theorem dX8_enter_101 : decode cX8_enter 101 = .ok (.iastore, 1) := by decide +kernel
theorem dX8_enter_102 : decode cX8_enter 102 = .ok (.aload_n 0, 1) := by decide +kernel
theorem dX8_enter_103 : decode cX8_enter 103 = .ok (.getfield 33, 3) := by decide +kernel
theorem dX8_enter_106 : decode cX8_enter 106 = .ok (.getfield 479, 3) := by decide +kernel
theorem dX8_enter_109 : decode cX8_enter 109 = .ok (.iload 5, 2) := by decide +kernel
theorem dX8_enter_111 : decode cX8_enter 111 = .ok (.aload_n 0, 1) := by decide +kernel
theorem dX8_enter_112 : decode cX8_enter 112 = .ok (.getfield 12, 3) := by decide +kernel
theorem dX8_enter_115 : decode cX8_enter 115 = .ok (.getfield 109, 3) := by decide +kernel
theorem dX8_enter_118 : decode cX8_enter 118 = .ok (.iload 6, 2) := by decide +kernel
theorem dX8_enter_120 : decode cX8_enter 120 = .ok (.baload, 1) := by decide +kernel
theorem dX8_enter_121 : decode cX8_enter 121 = .ok (.bastore, 1) := by decide +kernel
theorem dX8_enter_122 : decode cX8_enter 122 = .ok (.iload 5, 2) := by decide +kernel
theorem dX8_enter_124 : decode cX8_enter 124 = .ok (.ireturn, 1) := by decide +kernel
theorem dX8_ruleOf_0 : decode cX8_ruleOf 0 = .ok (.iload_n 0, 1) := by decide +kernel
theorem dX8_ruleOf_1 : decode cX8_ruleOf 1 = .ok (.tableswitch 59 0 8 #[51, 59, 53, 59, 57, 55, 57, 59, 55], 51) := by decide +kernel
theorem dX8_ruleOf_52 : decode cX8_ruleOf 52 = .ok (.iconst 0, 1) := by decide +kernel
theorem dX8_ruleOf_53 : decode cX8_ruleOf 53 = .ok (.ireturn, 1) := by decide +kernel
theorem dX8_ruleOf_54 : decode cX8_ruleOf 54 = .ok (.iconst 1, 1) := by decide +kernel
theorem dX8_ruleOf_55 : decode cX8_ruleOf 55 = .ok (.ireturn, 1) := by decide +kernel
theorem dX8_ruleOf_56 : decode cX8_ruleOf 56 = .ok (.iconst 2, 1) := by decide +kernel
theorem dX8_ruleOf_57 : decode cX8_ruleOf 57 = .ok (.ireturn, 1) := by decide +kernel
theorem dX8_ruleOf_58 : decode cX8_ruleOf 58 = .ok (.iconst 3, 1) := by decide +kernel
theorem dX8_ruleOf_59 : decode cX8_ruleOf 59 = .ok (.ireturn, 1) := by decide +kernel
theorem dX8_ruleOf_60 : decode cX8_ruleOf 60 = .ok (.iconst (-1), 1) := by decide +kernel
theorem dX8_ruleOf_61 : decode cX8_ruleOf 61 = .ok (.ireturn, 1) := by decide +kernel
theorem dX8_stateByDecision_0 : decode cX8_stateByDecision 0 = .ok (.iload_n 0, 1) := by decide +kernel
theorem dX8_stateByDecision_1 : decode cX8_stateByDecision 1 = .ok (.ifCond .ne 5, 3) := by decide +kernel
theorem dX8_stateByDecision_4 : decode cX8_stateByDecision 4 = .ok (.iconst 2, 1) := by decide +kernel
theorem dX8_stateByDecision_5 : decode cX8_stateByDecision 5 = .ok (.ireturn, 1) := by decide +kernel
theorem dX8_stateByDecision_6 : decode cX8_stateByDecision 6 = .ok (.iload_n 0, 1) := by decide +kernel
theorem dX8_stateByDecision_7 : decode cX8_stateByDecision 7 = .ok (.iconst 1, 1) := by decide +kernel
theorem dX8_stateByDecision_8 : decode cX8_stateByDecision 8 = .ok (.if_icmp .ne 7, 3) := by decide +kernel
theorem dX8_stateByDecision_11 : decode cX8_stateByDecision 11 = .ok (.iconst 1, 1) := by decide +kernel
theorem dX8_stateByDecision_12 : decode cX8_stateByDecision 12 = .ok (.goto 4, 3) := by decide +kernel
theorem dX8_stateByDecision_15 : decode cX8_stateByDecision 15 = .ok (.iconst 0, 1) := by decide +kernel
theorem dX8_stateByDecision_16 : decode cX8_stateByDecision 16 = .ok (.ireturn, 1) := by decide +kernel
theorem dX8_isCounting_0 : decode cX8_isCounting 0 = .ok (.aload_n 0, 1) := by decide +kernel
theorem dX8_isCounting_1 : decode cX8_isCounting 1 = .ok (.getfield 33, 3) := by decide +kernel
theorem dX8_isCounting_4 : decode cX8_isCounting 4 = .ok (.iload_n 1, 1) := by decide +kernel
theorem dX8_isCounting_5 : decode cX8_isCounting 5 = .ok (.invokevirtual 304, 3) := by decide +kernel
theorem dX8_isCounting_8 : decode cX8_isCounting 8 = .ok (.ifCond .eq 30, 3) := by decide +kernel
theorem dX8_isCounting_11 : decode cX8_isCounting 11 = .ok (.aload_n 0, 1) := by decide +kernel
theorem dX8_isCounting_12 : decode cX8_isCounting 12 = .ok (.getfield 33, 3) := by decide +kernel
theorem dX8_isCounting_15 : decode cX8_isCounting 15 = .ok (.getfield 321, 3) := by decide +kernel
theorem dX8_isCounting_18 : decode cX8_isCounting 18 = .ok (.iload_n 1, 1) := by decide +kernel
theorem dX8_isCounting_19 : decode cX8_isCounting 19 = .ok (.baload, 1) := by decide +kernel
theorem dX8_isCounting_20 : decode cX8_isCounting 20 = .ok (.ifCond .ne 18, 3) := by decide +kernel
theorem dX8_isCounting_23 : decode cX8_isCounting 23 = .ok (.aload_n 0, 1) := by decide +kernel
theorem dX8_isCounting_24 : decode cX8_isCounting 24 = .ok (.getfield 12, 3) := by decide +kernel
theorem dX8_isCounting_27 : decode cX8_isCounting 27 = .ok (.aload_n 0, 1) := by decide +kernel
theorem dX8_isCounting_28 : decode cX8_isCounting 28 = .ok (.iload_n 1, 1) := by decide +kernel
theorem dX8_isCounting_29 : decode cX8_isCounting 29 = .ok (.invokevirtual 318, 3) := by decide +kernel
theorem dX8_isCounting_32 : decode cX8_isCounting 32 = .ok (.invokevirtual 324, 3) := by decide +kernel
theorem dX8_isCounting_35 : decode cX8_isCounting 35 = .ok (.ifCond .ne 7, 3) := by decide +kernel
theorem dX8_isCounting_38 : decode cX8_isCounting 38 = .ok (.iconst 1, 1) := by decide +kernel
theorem dX8_isCounting_39 : decode cX8_isCounting 39 = .ok (.goto 4, 3) := by decide +kernel
theorem dX8_isCounting_42 : decode cX8_isCounting 42 = .ok (.iconst 0, 1) := by decide +kernel
theorem dX8_isCounting_43 : decode cX8_isCounting 43 = .ok (.ireturn, 1) := by decide +kernel
theorem dX8_isOpenMotion_0 : decode cX8_isOpenMotion 0 = .ok (.aload_n 0, 1) := by decide +kernel
theorem dX8_isOpenMotion_1 : decode cX8_isOpenMotion 1 = .ok (.getfield 33, 3) := by decide +kernel
theorem dX8_isOpenMotion_4 : decode cX8_isOpenMotion 4 = .ok (.getfield 240, 3) := by decide +kernel
theorem dX8_isOpenMotion_7 : decode cX8_isOpenMotion 7 = .ok (.iload_n 1, 1) := by decide +kernel
theorem dX8_isOpenMotion_8 : decode cX8_isOpenMotion 8 = .ok (.baload, 1) := by decide +kernel
theorem dX8_isOpenMotion_9 : decode cX8_isOpenMotion 9 = .ok (.ifCond .ne 15, 3) := by decide +kernel
theorem dX8_isOpenMotion_12 : decode cX8_isOpenMotion 12 = .ok (.aload_n 0, 1) := by decide +kernel
theorem dX8_isOpenMotion_13 : decode cX8_isOpenMotion 13 = .ok (.iload_n 1, 1) := by decide +kernel
theorem dX8_isOpenMotion_14 : decode cX8_isOpenMotion 14 = .ok (.invokevirtual 466, 3) := by decide +kernel
theorem dX8_isOpenMotion_17 : decode cX8_isOpenMotion 17 = .ok (.ifCond .eq 7, 3) := by decide +kernel
theorem dX8_isOpenMotion_20 : decode cX8_isOpenMotion 20 = .ok (.iconst 1, 1) := by decide +kernel
theorem dX8_isOpenMotion_21 : decode cX8_isOpenMotion 21 = .ok (.goto 4, 3) := by decide +kernel
theorem dX8_isOpenMotion_24 : decode cX8_isOpenMotion 24 = .ok (.iconst 0, 1) := by decide +kernel
theorem dX8_isOpenMotion_25 : decode cX8_isOpenMotion 25 = .ok (.ireturn, 1) := by decide +kernel
theorem dX8_hasOpenMotion_0 : decode cX8_hasOpenMotion 0 = .ok (.iconst 0, 1) := by decide +kernel
theorem dX8_hasOpenMotion_1 : decode cX8_hasOpenMotion 1 = .ok (.istore_n 2, 1) := by decide +kernel
theorem dX8_hasOpenMotion_2 : decode cX8_hasOpenMotion 2 = .ok (.iload_n 2, 1) := by decide +kernel
theorem dX8_hasOpenMotion_3 : decode cX8_hasOpenMotion 3 = .ok (.aload_n 0, 1) := by decide +kernel
theorem dX8_hasOpenMotion_4 : decode cX8_hasOpenMotion 4 = .ok (.getfield 33, 3) := by decide +kernel
theorem dX8_hasOpenMotion_7 : decode cX8_hasOpenMotion 7 = .ok (.getfield 457, 3) := by decide +kernel
theorem dX8_hasOpenMotion_10 : decode cX8_hasOpenMotion 10 = .ok (.if_icmp .ge 45, 3) := by decide +kernel
theorem dX8_hasOpenMotion_13 : decode cX8_hasOpenMotion 13 = .ok (.aload_n 0, 1) := by decide +kernel
theorem dX8_hasOpenMotion_14 : decode cX8_hasOpenMotion 14 = .ok (.getfield 33, 3) := by decide +kernel
theorem dX8_hasOpenMotion_17 : decode cX8_hasOpenMotion 17 = .ok (.getfield 301, 3) := by decide +kernel
theorem dX8_hasOpenMotion_20 : decode cX8_hasOpenMotion 20 = .ok (.iload_n 2, 1) := by decide +kernel
theorem dX8_hasOpenMotion_21 : decode cX8_hasOpenMotion 21 = .ok (.iaload, 1) := by decide +kernel
theorem dX8_hasOpenMotion_22 : decode cX8_hasOpenMotion 22 = .ok (.iconst 2, 1) := by decide +kernel
theorem dX8_hasOpenMotion_23 : decode cX8_hasOpenMotion 23 = .ok (.if_icmp .ne 26, 3) := by decide +kernel
theorem dX8_hasOpenMotion_26 : decode cX8_hasOpenMotion 26 = .ok (.aload_n 0, 1) := by decide +kernel
theorem dX8_hasOpenMotion_27 : decode cX8_hasOpenMotion 27 = .ok (.getfield 33, 3) := by decide +kernel
theorem dX8_hasOpenMotion_30 : decode cX8_hasOpenMotion 30 = .ok (.getfield 232, 3) := by decide +kernel
theorem dX8_hasOpenMotion_33 : decode cX8_hasOpenMotion 33 = .ok (.iload_n 2, 1) := by decide +kernel
theorem dX8_hasOpenMotion_34 : decode cX8_hasOpenMotion 34 = .ok (.iaload, 1) := by decide +kernel
theorem dX8_hasOpenMotion_35 : decode cX8_hasOpenMotion 35 = .ok (.iload_n 1, 1) := by decide +kernel
theorem dX8_hasOpenMotion_36 : decode cX8_hasOpenMotion 36 = .ok (.if_icmp .ne 13, 3) := by decide +kernel
theorem dX8_hasOpenMotion_39 : decode cX8_hasOpenMotion 39 = .ok (.aload_n 0, 1) := by decide +kernel
theorem dX8_hasOpenMotion_40 : decode cX8_hasOpenMotion 40 = .ok (.iload_n 2, 1) := by decide +kernel
theorem dX8_hasOpenMotion_41 : decode cX8_hasOpenMotion 41 = .ok (.invokevirtual 226, 3) := by decide +kernel
theorem dX8_hasOpenMotion_44 : decode cX8_hasOpenMotion 44 = .ok (.ifCond .eq 5, 3) := by decide +kernel
theorem dX8_hasOpenMotion_47 : decode cX8_hasOpenMotion 47 = .ok (.iconst 1, 1) := by decide +kernel
theorem dX8_hasOpenMotion_48 : decode cX8_hasOpenMotion 48 = .ok (.ireturn, 1) := by decide +kernel
theorem dX8_hasOpenMotion_49 : decode cX8_hasOpenMotion 49 = .ok (.iinc 2 1, 3) := by decide +kernel
theorem dX8_hasOpenMotion_52 : decode cX8_hasOpenMotion 52 = .ok (.goto (-50), 3) := by decide +kernel
theorem dX8_hasOpenMotion_55 : decode cX8_hasOpenMotion 55 = .ok (.iconst 0, 1) := by decide +kernel
theorem dX8_hasOpenMotion_56 : decode cX8_hasOpenMotion 56 = .ok (.ireturn, 1) := by decide +kernel
theorem dX8_hasResponse_0 : decode cX8_hasResponse 0 = .ok (.iload_n 1, 1) := by decide +kernel
theorem dX8_hasResponse_1 : decode cX8_hasResponse 1 = .ok (.istore_n 2, 1) := by decide +kernel
theorem dX8_hasResponse_2 : decode cX8_hasResponse 2 = .ok (.iload_n 2, 1) := by decide +kernel
theorem dX8_hasResponse_3 : decode cX8_hasResponse 3 = .ok (.aload_n 0, 1) := by decide +kernel
theorem dX8_hasResponse_4 : decode cX8_hasResponse 4 = .ok (.getfield 33, 3) := by decide +kernel
theorem dX8_hasResponse_7 : decode cX8_hasResponse 7 = .ok (.getfield 457, 3) := by decide +kernel
theorem dX8_hasResponse_10 : decode cX8_hasResponse 10 = .ok (.if_icmp .ge 45, 3) := by decide +kernel
theorem dX8_hasResponse_13 : decode cX8_hasResponse 13 = .ok (.aload_n 0, 1) := by decide +kernel
theorem dX8_hasResponse_14 : decode cX8_hasResponse 14 = .ok (.getfield 33, 3) := by decide +kernel
theorem dX8_hasResponse_17 : decode cX8_hasResponse 17 = .ok (.getfield 301, 3) := by decide +kernel
theorem dX8_hasResponse_20 : decode cX8_hasResponse 20 = .ok (.iload_n 2, 1) := by decide +kernel
theorem dX8_hasResponse_21 : decode cX8_hasResponse 21 = .ok (.iaload, 1) := by decide +kernel
theorem dX8_hasResponse_22 : decode cX8_hasResponse 22 = .ok (.iconst 3, 1) := by decide +kernel
theorem dX8_hasResponse_23 : decode cX8_hasResponse 23 = .ok (.if_icmp .ne 26, 3) := by decide +kernel
theorem dX8_hasResponse_26 : decode cX8_hasResponse 26 = .ok (.aload_n 0, 1) := by decide +kernel
theorem dX8_hasResponse_27 : decode cX8_hasResponse 27 = .ok (.getfield 33, 3) := by decide +kernel
theorem dX8_hasResponse_30 : decode cX8_hasResponse 30 = .ok (.getfield 458, 3) := by decide +kernel
theorem dX8_hasResponse_33 : decode cX8_hasResponse 33 = .ok (.iload_n 2, 1) := by decide +kernel
theorem dX8_hasResponse_34 : decode cX8_hasResponse 34 = .ok (.iaload, 1) := by decide +kernel
theorem dX8_hasResponse_35 : decode cX8_hasResponse 35 = .ok (.iload_n 1, 1) := by decide +kernel
theorem dX8_hasResponse_36 : decode cX8_hasResponse 36 = .ok (.if_icmp .ne 13, 3) := by decide +kernel
theorem dX8_hasResponse_39 : decode cX8_hasResponse 39 = .ok (.aload_n 0, 1) := by decide +kernel
theorem dX8_hasResponse_40 : decode cX8_hasResponse 40 = .ok (.iload_n 2, 1) := by decide +kernel
theorem dX8_hasResponse_41 : decode cX8_hasResponse 41 = .ok (.invokevirtual 466, 3) := by decide +kernel
theorem dX8_hasResponse_44 : decode cX8_hasResponse 44 = .ok (.ifCond .eq 5, 3) := by decide +kernel
theorem dX8_hasResponse_47 : decode cX8_hasResponse 47 = .ok (.iconst 1, 1) := by decide +kernel
theorem dX8_hasResponse_48 : decode cX8_hasResponse 48 = .ok (.ireturn, 1) := by decide +kernel
theorem dX8_hasResponse_49 : decode cX8_hasResponse 49 = .ok (.iinc 2 1, 3) := by decide +kernel
theorem dX8_hasResponse_52 : decode cX8_hasResponse 52 = .ok (.goto (-50), 3) := by decide +kernel
theorem dX8_hasResponse_55 : decode cX8_hasResponse 55 = .ok (.iconst 0, 1) := by decide +kernel
theorem dX8_hasResponse_56 : decode cX8_hasResponse 56 = .ok (.ireturn, 1) := by decide +kernel
theorem dX8_hasAnswer_0 : decode cX8_hasAnswer 0 = .ok (.iconst 0, 1) := by decide +kernel
theorem dX8_hasAnswer_1 : decode cX8_hasAnswer 1 = .ok (.istore_n 2, 1) := by decide +kernel
theorem dX8_hasAnswer_2 : decode cX8_hasAnswer 2 = .ok (.iload_n 2, 1) := by decide +kernel
theorem dX8_hasAnswer_3 : decode cX8_hasAnswer 3 = .ok (.aload_n 0, 1) := by decide +kernel
theorem dX8_hasAnswer_4 : decode cX8_hasAnswer 4 = .ok (.getfield 33, 3) := by decide +kernel
theorem dX8_hasAnswer_7 : decode cX8_hasAnswer 7 = .ok (.getfield 457, 3) := by decide +kernel
theorem dX8_hasAnswer_10 : decode cX8_hasAnswer 10 = .ok (.if_icmp .ge 45, 3) := by decide +kernel
theorem dX8_hasAnswer_13 : decode cX8_hasAnswer 13 = .ok (.aload_n 0, 1) := by decide +kernel
theorem dX8_hasAnswer_14 : decode cX8_hasAnswer 14 = .ok (.getfield 33, 3) := by decide +kernel
theorem dX8_hasAnswer_17 : decode cX8_hasAnswer 17 = .ok (.getfield 301, 3) := by decide +kernel
theorem dX8_hasAnswer_20 : decode cX8_hasAnswer 20 = .ok (.iload_n 2, 1) := by decide +kernel
theorem dX8_hasAnswer_21 : decode cX8_hasAnswer 21 = .ok (.iaload, 1) := by decide +kernel
theorem dX8_hasAnswer_22 : decode cX8_hasAnswer 22 = .ok (.iconst 1, 1) := by decide +kernel
theorem dX8_hasAnswer_23 : decode cX8_hasAnswer 23 = .ok (.if_icmp .ne 26, 3) := by decide +kernel
theorem dX8_hasAnswer_26 : decode cX8_hasAnswer 26 = .ok (.aload_n 0, 1) := by decide +kernel
theorem dX8_hasAnswer_27 : decode cX8_hasAnswer 27 = .ok (.getfield 33, 3) := by decide +kernel
theorem dX8_hasAnswer_30 : decode cX8_hasAnswer 30 = .ok (.getfield 232, 3) := by decide +kernel
theorem dX8_hasAnswer_33 : decode cX8_hasAnswer 33 = .ok (.iload_n 2, 1) := by decide +kernel
theorem dX8_hasAnswer_34 : decode cX8_hasAnswer 34 = .ok (.iaload, 1) := by decide +kernel
theorem dX8_hasAnswer_35 : decode cX8_hasAnswer 35 = .ok (.iload_n 1, 1) := by decide +kernel
theorem dX8_hasAnswer_36 : decode cX8_hasAnswer 36 = .ok (.if_icmp .ne 13, 3) := by decide +kernel
theorem dX8_hasAnswer_39 : decode cX8_hasAnswer 39 = .ok (.aload_n 0, 1) := by decide +kernel
theorem dX8_hasAnswer_40 : decode cX8_hasAnswer 40 = .ok (.iload_n 2, 1) := by decide +kernel
theorem dX8_hasAnswer_41 : decode cX8_hasAnswer 41 = .ok (.invokevirtual 466, 3) := by decide +kernel
theorem dX8_hasAnswer_44 : decode cX8_hasAnswer 44 = .ok (.ifCond .eq 5, 3) := by decide +kernel
theorem dX8_hasAnswer_47 : decode cX8_hasAnswer 47 = .ok (.iconst 1, 1) := by decide +kernel
theorem dX8_hasAnswer_48 : decode cX8_hasAnswer 48 = .ok (.ireturn, 1) := by decide +kernel
theorem dX8_hasAnswer_49 : decode cX8_hasAnswer 49 = .ok (.iinc 2 1, 3) := by decide +kernel
theorem dX8_hasAnswer_52 : decode cX8_hasAnswer 52 = .ok (.goto (-50), 3) := by decide +kernel
theorem dX8_hasAnswer_55 : decode cX8_hasAnswer 55 = .ok (.iconst 0, 1) := by decide +kernel
theorem dX8_hasAnswer_56 : decode cX8_hasAnswer 56 = .ok (.ireturn, 1) := by decide +kernel
theorem dX8_isServed_0 : decode cX8_isServed 0 = .ok (.aload_n 0, 1) := by decide +kernel
theorem dX8_isServed_1 : decode cX8_isServed 1 = .ok (.getfield 33, 3) := by decide +kernel
theorem dX8_isServed_4 : decode cX8_isServed 4 = .ok (.iconst 0, 1) := by decide +kernel
theorem dX8_isServed_5 : decode cX8_isServed 5 = .ok (.iload_n 1, 1) := by decide +kernel
theorem dX8_isServed_6 : decode cX8_isServed 6 = .ok (.invokevirtual 280, 3) := by decide +kernel
theorem dX8_isServed_9 : decode cX8_isServed 9 = .ok (.iconst (-1), 1) := by decide +kernel
theorem dX8_isServed_10 : decode cX8_isServed 10 = .ok (.if_icmp .eq 7, 3) := by decide +kernel
theorem dX8_isServed_13 : decode cX8_isServed 13 = .ok (.iconst 1, 1) := by decide +kernel
theorem dX8_isServed_14 : decode cX8_isServed 14 = .ok (.goto 4, 3) := by decide +kernel
theorem dX8_isServed_17 : decode cX8_isServed 17 = .ok (.iconst 0, 1) := by decide +kernel
theorem dX8_isServed_18 : decode cX8_isServed 18 = .ok (.ireturn, 1) := by decide +kernel
theorem dX8_isUnanswered_0 : decode cX8_isUnanswered 0 = .ok (.aload_n 0, 1) := by decide +kernel
theorem dX8_isUnanswered_1 : decode cX8_isUnanswered 1 = .ok (.getfield 26, 3) := by decide +kernel
theorem dX8_isUnanswered_4 : decode cX8_isUnanswered 4 = .ok (.getfield 195, 3) := by decide +kernel
theorem dX8_isUnanswered_7 : decode cX8_isUnanswered 7 = .ok (.iload_n 1, 1) := by decide +kernel
theorem dX8_isUnanswered_8 : decode cX8_isUnanswered 8 = .ok (.iaload, 1) := by decide +kernel
theorem dX8_isUnanswered_9 : decode cX8_isUnanswered 9 = .ok (.ifCond .ne 31, 3) := by decide +kernel
theorem dX8_isUnanswered_12 : decode cX8_isUnanswered 12 = .ok (.aload_n 0, 1) := by decide +kernel
theorem dX8_isUnanswered_13 : decode cX8_isUnanswered 13 = .ok (.iload_n 1, 1) := by decide +kernel
theorem dX8_isUnanswered_14 : decode cX8_isUnanswered 14 = .ok (.invokevirtual 198, 3) := by decide +kernel
theorem dX8_isUnanswered_17 : decode cX8_isUnanswered 17 = .ok (.ifCond .eq 23, 3) := by decide +kernel
theorem dX8_isUnanswered_20 : decode cX8_isUnanswered 20 = .ok (.aload_n 0, 1) := by decide +kernel
theorem dX8_isUnanswered_21 : decode cX8_isUnanswered 21 = .ok (.iload_n 1, 1) := by decide +kernel
theorem dX8_isUnanswered_22 : decode cX8_isUnanswered 22 = .ok (.invokevirtual 246, 3) := by decide +kernel
theorem dX8_isUnanswered_25 : decode cX8_isUnanswered 25 = .ok (.ifCond .ne 15, 3) := by decide +kernel
theorem dX8_isUnanswered_28 : decode cX8_isUnanswered 28 = .ok (.aload_n 0, 1) := by decide +kernel
theorem dX8_isUnanswered_29 : decode cX8_isUnanswered 29 = .ok (.iload_n 1, 1) := by decide +kernel
theorem dX8_isUnanswered_30 : decode cX8_isUnanswered 30 = .ok (.invokevirtual 510, 3) := by decide +kernel
theorem dX8_isUnanswered_33 : decode cX8_isUnanswered 33 = .ok (.ifCond .ne 7, 3) := by decide +kernel
theorem dX8_isUnanswered_36 : decode cX8_isUnanswered 36 = .ok (.iconst 1, 1) := by decide +kernel
theorem dX8_isUnanswered_37 : decode cX8_isUnanswered 37 = .ok (.goto 4, 3) := by decide +kernel
theorem dX8_isUnanswered_40 : decode cX8_isUnanswered 40 = .ok (.iconst 0, 1) := by decide +kernel
theorem dX8_isUnanswered_41 : decode cX8_isUnanswered 41 = .ok (.ireturn, 1) := by decide +kernel
theorem dX8_canBeVacated_0 : decode cX8_canBeVacated 0 = .ok (.aload_n 0, 1) := by decide +kernel
theorem dX8_canBeVacated_1 : decode cX8_canBeVacated 1 = .ok (.getfield 33, 3) := by decide +kernel
theorem dX8_canBeVacated_4 : decode cX8_canBeVacated 4 = .ok (.getfield 301, 3) := by decide +kernel
theorem dX8_canBeVacated_7 : decode cX8_canBeVacated 7 = .ok (.iload_n 1, 1) := by decide +kernel
theorem dX8_canBeVacated_8 : decode cX8_canBeVacated 8 = .ok (.iaload, 1) := by decide +kernel
theorem dX8_canBeVacated_9 : decode cX8_canBeVacated 9 = .ok (.istore_n 2, 1) := by decide +kernel
theorem dX8_canBeVacated_10 : decode cX8_canBeVacated 10 = .ok (.iload_n 2, 1) := by decide +kernel
theorem dX8_canBeVacated_11 : decode cX8_canBeVacated 11 = .ok (.iconst 5, 1) := by decide +kernel
theorem dX8_canBeVacated_12 : decode cX8_canBeVacated 12 = .ok (.if_icmp .eq 21, 3) := by decide +kernel
theorem dX8_canBeVacated_15 : decode cX8_canBeVacated 15 = .ok (.iload_n 2, 1) := by decide +kernel
theorem dX8_canBeVacated_16 : decode cX8_canBeVacated 16 = .ok (.iconst 4, 1) := by decide +kernel
theorem dX8_canBeVacated_17 : decode cX8_canBeVacated 17 = .ok (.if_icmp .ne 20, 3) := by decide +kernel
theorem dX8_canBeVacated_20 : decode cX8_canBeVacated 20 = .ok (.aload_n 0, 1) := by decide +kernel
theorem dX8_canBeVacated_21 : decode cX8_canBeVacated 21 = .ok (.getfield 33, 3) := by decide +kernel
theorem dX8_canBeVacated_24 : decode cX8_canBeVacated 24 = .ok (.getfield 458, 3) := by decide +kernel
theorem dX8_canBeVacated_27 : decode cX8_canBeVacated 27 = .ok (.iload_n 1, 1) := by decide +kernel
theorem dX8_canBeVacated_28 : decode cX8_canBeVacated 28 = .ok (.iaload, 1) := by decide +kernel
theorem dX8_canBeVacated_29 : decode cX8_canBeVacated 29 = .ok (.iconst (-1), 1) := by decide +kernel
theorem dX8_canBeVacated_30 : decode cX8_canBeVacated 30 = .ok (.if_icmp .eq 7, 3) := by decide +kernel
theorem dX8_canBeVacated_33 : decode cX8_canBeVacated 33 = .ok (.iconst 1, 1) := by decide +kernel
theorem dX8_canBeVacated_34 : decode cX8_canBeVacated 34 = .ok (.goto 4, 3) := by decide +kernel
theorem dX8_canBeVacated_37 : decode cX8_canBeVacated 37 = .ok (.iconst 0, 1) := by decide +kernel
theorem dX8_canBeVacated_38 : decode cX8_canBeVacated 38 = .ok (.ireturn, 1) := by decide +kernel
theorem dX8_caseOfEntry_0 : decode cX8_caseOfEntry 0 = .ok (.aload_n 0, 1) := by decide +kernel
theorem dX8_caseOfEntry_1 : decode cX8_caseOfEntry 1 = .ok (.getfield 33, 3) := by decide +kernel
theorem dX8_caseOfEntry_4 : decode cX8_caseOfEntry 4 = .ok (.getfield 232, 3) := by decide +kernel
theorem dX8_caseOfEntry_7 : decode cX8_caseOfEntry 7 = .ok (.iload_n 1, 1) := by decide +kernel
theorem dX8_caseOfEntry_8 : decode cX8_caseOfEntry 8 = .ok (.iaload, 1) := by decide +kernel
theorem dX8_caseOfEntry_9 : decode cX8_caseOfEntry 9 = .ok (.istore_n 2, 1) := by decide +kernel
theorem dX8_caseOfEntry_10 : decode cX8_caseOfEntry 10 = .ok (.aload_n 0, 1) := by decide +kernel
theorem dX8_caseOfEntry_11 : decode cX8_caseOfEntry 11 = .ok (.getfield 33, 3) := by decide +kernel
theorem dX8_caseOfEntry_14 : decode cX8_caseOfEntry 14 = .ok (.iload_n 1, 1) := by decide +kernel
theorem dX8_caseOfEntry_15 : decode cX8_caseOfEntry 15 = .ok (.invokevirtual 513, 3) := by decide +kernel
theorem dX8_caseOfEntry_18 : decode cX8_caseOfEntry 18 = .ok (.ifCond .eq 7, 3) := by decide +kernel
theorem dX8_caseOfEntry_21 : decode cX8_caseOfEntry 21 = .ok (.iload_n 2, 1) := by decide +kernel
theorem dX8_caseOfEntry_22 : decode cX8_caseOfEntry 22 = .ok (.goto 12, 3) := by decide +kernel
theorem dX8_caseOfEntry_25 : decode cX8_caseOfEntry 25 = .ok (.aload_n 0, 1) := by decide +kernel
theorem dX8_caseOfEntry_26 : decode cX8_caseOfEntry 26 = .ok (.getfield 26, 3) := by decide +kernel
theorem dX8_caseOfEntry_29 : decode cX8_caseOfEntry 29 = .ok (.getfield 177, 3) := by decide +kernel
theorem dX8_caseOfEntry_32 : decode cX8_caseOfEntry 32 = .ok (.iload_n 2, 1) := by decide +kernel
theorem dX8_caseOfEntry_33 : decode cX8_caseOfEntry 33 = .ok (.iaload, 1) := by decide +kernel
theorem dX8_caseOfEntry_34 : decode cX8_caseOfEntry 34 = .ok (.ireturn, 1) := by decide +kernel
theorem dX8_balanceNow_0 : decode cX8_balanceNow 0 = .ok (.aload_n 0, 1) := by decide +kernel
theorem dX8_balanceNow_1 : decode cX8_balanceNow 1 = .ok (.getfield 33, 3) := by decide +kernel
theorem dX8_balanceNow_4 : decode cX8_balanceNow 4 = .ok (.iconst 5, 1) := by decide +kernel
theorem dX8_balanceNow_5 : decode cX8_balanceNow 5 = .ok (.iload_n 1, 1) := by decide +kernel
theorem dX8_balanceNow_6 : decode cX8_balanceNow 6 = .ok (.invokevirtual 280, 3) := by decide +kernel
theorem dX8_balanceNow_9 : decode cX8_balanceNow 9 = .ok (.istore_n 2, 1) := by decide +kernel
theorem dX8_balanceNow_10 : decode cX8_balanceNow 10 = .ok (.aload_n 0, 1) := by decide +kernel
theorem dX8_balanceNow_11 : decode cX8_balanceNow 11 = .ok (.getfield 26, 3) := by decide +kernel
theorem dX8_balanceNow_14 : decode cX8_balanceNow 14 = .ok (.getfield 195, 3) := by decide +kernel
theorem dX8_balanceNow_17 : decode cX8_balanceNow 17 = .ok (.iload_n 1, 1) := by decide +kernel
theorem dX8_balanceNow_18 : decode cX8_balanceNow 18 = .ok (.iaload, 1) := by decide +kernel
theorem dX8_balanceNow_19 : decode cX8_balanceNow 19 = .ok (.iconst 2, 1) := by decide +kernel
theorem dX8_balanceNow_20 : decode cX8_balanceNow 20 = .ok (.if_icmp .ne 8, 3) := by decide +kernel
theorem dX8_balanceNow_23 : decode cX8_balanceNow 23 = .ok (.iload_n 2, 1) := by decide +kernel
theorem dX8_balanceNow_24 : decode cX8_balanceNow 24 = .ok (.iconst (-1), 1) := by decide +kernel
theorem dX8_balanceNow_25 : decode cX8_balanceNow 25 = .ok (.if_icmp .ne 5, 3) := by decide +kernel
theorem dX8_balanceNow_28 : decode cX8_balanceNow 28 = .ok (.iconst 0, 1) := by decide +kernel
theorem dX8_balanceNow_29 : decode cX8_balanceNow 29 = .ok (.ireturn, 1) := by decide +kernel
theorem dX8_balanceNow_30 : decode cX8_balanceNow 30 = .ok (.aload_n 0, 1) := by decide +kernel
theorem dX8_balanceNow_31 : decode cX8_balanceNow 31 = .ok (.getfield 26, 3) := by decide +kernel
theorem dX8_balanceNow_34 : decode cX8_balanceNow 34 = .ok (.getfield 235, 3) := by decide +kernel
theorem dX8_balanceNow_37 : decode cX8_balanceNow 37 = .ok (.iload_n 1, 1) := by decide +kernel
theorem dX8_balanceNow_38 : decode cX8_balanceNow 38 = .ok (.iaload, 1) := by decide +kernel
theorem dX8_balanceNow_39 : decode cX8_balanceNow 39 = .ok (.aload_n 0, 1) := by decide +kernel
theorem dX8_balanceNow_40 : decode cX8_balanceNow 40 = .ok (.getfield 33, 3) := by decide +kernel
theorem dX8_balanceNow_43 : decode cX8_balanceNow 43 = .ok (.getfield 440, 3) := by decide +kernel
theorem dX8_balanceNow_46 : decode cX8_balanceNow 46 = .ok (.iload_n 2, 1) := by decide +kernel
theorem dX8_balanceNow_47 : decode cX8_balanceNow 47 = .ok (.iaload, 1) := by decide +kernel
theorem dX8_balanceNow_48 : decode cX8_balanceNow 48 = .ok (.aload_n 0, 1) := by decide +kernel
theorem dX8_balanceNow_49 : decode cX8_balanceNow 49 = .ok (.getfield 12, 3) := by decide +kernel
theorem dX8_balanceNow_52 : decode cX8_balanceNow 52 = .ok (.getfield 69, 3) := by decide +kernel
theorem dX8_balanceNow_55 : decode cX8_balanceNow 55 = .ok (.invokestatic 472, 3) := by decide +kernel
theorem dX8_balanceNow_58 : decode cX8_balanceNow 58 = .ok (.aload_n 0, 1) := by decide +kernel
theorem dX8_balanceNow_59 : decode cX8_balanceNow 59 = .ok (.getfield 26, 3) := by decide +kernel
theorem dX8_balanceNow_62 : decode cX8_balanceNow 62 = .ok (.getfield 267, 3) := by decide +kernel
theorem dX8_balanceNow_65 : decode cX8_balanceNow 65 = .ok (.iload_n 1, 1) := by decide +kernel
theorem dX8_balanceNow_66 : decode cX8_balanceNow 66 = .ok (.iaload, 1) := by decide +kernel
theorem dX8_balanceNow_67 : decode cX8_balanceNow 67 = .ok (.isub, 1) := by decide +kernel
theorem dX8_balanceNow_68 : decode cX8_balanceNow 68 = .ok (.ireturn, 1) := by decide +kernel
theorem dX8_owed_0 : decode cX8_owed 0 = .ok (.iload_n 2, 1) := by decide +kernel
theorem dX8_owed_1 : decode cX8_owed 1 = .ok (.iload_n 1, 1) := by decide +kernel
theorem dX8_owed_2 : decode cX8_owed 2 = .ok (.isub, 1) := by decide +kernel
theorem dX8_owed_3 : decode cX8_owed 3 = .ok (.bipush 30, 2) := by decide +kernel
theorem dX8_owed_5 : decode cX8_owed 5 = .ok (.idiv, 1) := by decide +kernel
theorem dX8_owed_6 : decode cX8_owed 6 = .ok (.istore_n 3, 1) := by decide +kernel
theorem dX8_owed_7 : decode cX8_owed 7 = .ok (.iload_n 0, 1) := by decide +kernel
theorem dX8_owed_8 : decode cX8_owed 8 = .ok (.iload_n 0, 1) := by decide +kernel
theorem dX8_owed_9 : decode cX8_owed 9 = .ok (.iload_n 3, 1) := by decide +kernel
theorem dX8_owed_10 : decode cX8_owed 10 = .ok (.imul, 1) := by decide +kernel
theorem dX8_owed_11 : decode cX8_owed 11 = .ok (.bipush 100, 2) := by decide +kernel
theorem dX8_owed_13 : decode cX8_owed 13 = .ok (.idiv, 1) := by decide +kernel
theorem dX8_owed_14 : decode cX8_owed 14 = .ok (.iadd, 1) := by decide +kernel
theorem dX8_owed_15 : decode cX8_owed 15 = .ok (.ireturn, 1) := by decide +kernel
theorem dX8_startOf_0 : decode cX8_startOf 0 = .ok (.iload_n 1, 1) := by decide +kernel
theorem dX8_startOf_1 : decode cX8_startOf 1 = .ok (.tableswitch 76 0 2 #[27, 48, 50], 27) := by decide +kernel
theorem dX8_startOf_28 : decode cX8_startOf 28 = .ok (.aload_n 0, 1) := by decide +kernel
theorem dX8_startOf_29 : decode cX8_startOf 29 = .ok (.iload_n 2, 1) := by decide +kernel
theorem dX8_startOf_30 : decode cX8_startOf 30 = .ok (.invokevirtual 510, 3) := by decide +kernel
theorem dX8_startOf_33 : decode cX8_startOf 33 = .ok (.ifCond .eq 7, 3) := by decide +kernel
theorem dX8_startOf_36 : decode cX8_startOf 36 = .ok (.iconst (-1), 1) := by decide +kernel
theorem dX8_startOf_37 : decode cX8_startOf 37 = .ok (.goto 11, 3) := by decide +kernel
theorem dX8_startOf_40 : decode cX8_startOf 40 = .ok (.aload_n 0, 1) := by decide +kernel
theorem dX8_startOf_41 : decode cX8_startOf 41 = .ok (.getfield 33, 3) := by decide +kernel
theorem dX8_startOf_44 : decode cX8_startOf 44 = .ok (.iload_n 2, 1) := by decide +kernel
theorem dX8_startOf_45 : decode cX8_startOf 45 = .ok (.invokevirtual 217, 3) := by decide +kernel
theorem dX8_startOf_48 : decode cX8_startOf 48 = .ok (.ireturn, 1) := by decide +kernel
theorem dX8_startOf_49 : decode cX8_startOf 49 = .ok (.iload_n 2, 1) := by decide +kernel
theorem dX8_startOf_50 : decode cX8_startOf 50 = .ok (.ireturn, 1) := by decide +kernel
theorem dX8_startOf_51 : decode cX8_startOf 51 = .ok (.aload_n 0, 1) := by decide +kernel
theorem dX8_startOf_52 : decode cX8_startOf 52 = .ok (.getfield 26, 3) := by decide +kernel
theorem dX8_startOf_55 : decode cX8_startOf 55 = .ok (.getfield 195, 3) := by decide +kernel
theorem dX8_startOf_58 : decode cX8_startOf 58 = .ok (.iload_n 2, 1) := by decide +kernel
theorem dX8_startOf_59 : decode cX8_startOf 59 = .ok (.iaload, 1) := by decide +kernel
theorem dX8_startOf_60 : decode cX8_startOf 60 = .ok (.iconst 2, 1) := by decide +kernel
theorem dX8_startOf_61 : decode cX8_startOf 61 = .ok (.if_icmp .ne 14, 3) := by decide +kernel
theorem dX8_startOf_64 : decode cX8_startOf 64 = .ok (.aload_n 0, 1) := by decide +kernel
theorem dX8_startOf_65 : decode cX8_startOf 65 = .ok (.getfield 33, 3) := by decide +kernel
theorem dX8_startOf_68 : decode cX8_startOf 68 = .ok (.iload_n 2, 1) := by decide +kernel
theorem dX8_startOf_69 : decode cX8_startOf 69 = .ok (.invokevirtual 273, 3) := by decide +kernel
theorem dX8_startOf_72 : decode cX8_startOf 72 = .ok (.goto 4, 3) := by decide +kernel
theorem dX8_startOf_75 : decode cX8_startOf 75 = .ok (.iconst (-1), 1) := by decide +kernel
theorem dX8_startOf_76 : decode cX8_startOf 76 = .ok (.ireturn, 1) := by decide +kernel
theorem dX8_startOf_77 : decode cX8_startOf 77 = .ok (.aload_n 0, 1) := by decide +kernel
theorem dX8_startOf_78 : decode cX8_startOf 78 = .ok (.getfield 33, 3) := by decide +kernel
theorem dX8_startOf_81 : decode cX8_startOf 81 = .ok (.iload_n 2, 1) := by decide +kernel
theorem dX8_startOf_82 : decode cX8_startOf 82 = .ok (.invokevirtual 304, 3) := by decide +kernel
theorem dX8_startOf_85 : decode cX8_startOf 85 = .ok (.ifCond .eq 7, 3) := by decide +kernel
theorem dX8_startOf_88 : decode cX8_startOf 88 = .ok (.iload_n 2, 1) := by decide +kernel
theorem dX8_startOf_89 : decode cX8_startOf 89 = .ok (.goto 4, 3) := by decide +kernel
theorem dX8_startOf_92 : decode cX8_startOf 92 = .ok (.iconst (-1), 1) := by decide +kernel
theorem dX8_startOf_93 : decode cX8_startOf 93 = .ok (.ireturn, 1) := by decide +kernel
theorem dX8_dueFrom_0 : decode cX8_dueFrom 0 = .ok (.aload_n 0, 1) := by decide +kernel
theorem dX8_dueFrom_1 : decode cX8_dueFrom 1 = .ok (.getfield 19, 3) := by decide +kernel
theorem dX8_dueFrom_4 : decode cX8_dueFrom 4 = .ok (.aload_n 0, 1) := by decide +kernel
theorem dX8_dueFrom_5 : decode cX8_dueFrom 5 = .ok (.getfield 26, 3) := by decide +kernel
theorem dX8_dueFrom_8 : decode cX8_dueFrom 8 = .ok (.getfield 177, 3) := by decide +kernel
theorem dX8_dueFrom_11 : decode cX8_dueFrom 11 = .ok (.aload_n 0, 1) := by decide +kernel
theorem dX8_dueFrom_12 : decode cX8_dueFrom 12 = .ok (.getfield 33, 3) := by decide +kernel
theorem dX8_dueFrom_15 : decode cX8_dueFrom 15 = .ok (.getfield 232, 3) := by decide +kernel
theorem dX8_dueFrom_18 : decode cX8_dueFrom 18 = .ok (.iload_n 1, 1) := by decide +kernel
theorem dX8_dueFrom_19 : decode cX8_dueFrom 19 = .ok (.iaload, 1) := by decide +kernel
theorem dX8_dueFrom_20 : decode cX8_dueFrom 20 = .ok (.iaload, 1) := by decide +kernel
theorem dX8_dueFrom_21 : decode cX8_dueFrom 21 = .ok (.invokevirtual 516, 3) := by decide +kernel
theorem dX8_dueFrom_24 : decode cX8_dueFrom 24 = .ok (.istore_n 2, 1) := by decide +kernel
theorem dX8_dueFrom_25 : decode cX8_dueFrom 25 = .ok (.aload_n 0, 1) := by decide +kernel
theorem dX8_dueFrom_26 : decode cX8_dueFrom 26 = .ok (.getfield 12, 3) := by decide +kernel
theorem dX8_dueFrom_29 : decode cX8_dueFrom 29 = .ok (.aload_n 0, 1) := by decide +kernel
theorem dX8_dueFrom_30 : decode cX8_dueFrom 30 = .ok (.getfield 33, 3) := by decide +kernel
theorem dX8_dueFrom_33 : decode cX8_dueFrom 33 = .ok (.getfield 440, 3) := by decide +kernel
theorem dX8_dueFrom_36 : decode cX8_dueFrom 36 = .ok (.iload_n 1, 1) := by decide +kernel
theorem dX8_dueFrom_37 : decode cX8_dueFrom 37 = .ok (.iaload, 1) := by decide +kernel
theorem dX8_dueFrom_38 : decode cX8_dueFrom 38 = .ok (.aload_n 0, 1) := by decide +kernel
theorem dX8_dueFrom_39 : decode cX8_dueFrom 39 = .ok (.getfield 33, 3) := by decide +kernel
theorem dX8_dueFrom_42 : decode cX8_dueFrom 42 = .ok (.getfield 208, 3) := by decide +kernel
theorem dX8_dueFrom_45 : decode cX8_dueFrom 45 = .ok (.iload_n 1, 1) := by decide +kernel
theorem dX8_dueFrom_46 : decode cX8_dueFrom 46 = .ok (.iaload, 1) := by decide +kernel
theorem dX8_dueFrom_47 : decode cX8_dueFrom 47 = .ok (.aload_n 0, 1) := by decide +kernel
theorem dX8_dueFrom_48 : decode cX8_dueFrom 48 = .ok (.getfield 33, 3) := by decide +kernel
theorem dX8_dueFrom_51 : decode cX8_dueFrom 51 = .ok (.getfield 479, 3) := by decide +kernel
theorem dX8_dueFrom_54 : decode cX8_dueFrom 54 = .ok (.iload_n 1, 1) := by decide +kernel
theorem dX8_dueFrom_55 : decode cX8_dueFrom 55 = .ok (.baload, 1) := by decide +kernel
theorem dX8_dueFrom_56 : decode cX8_dueFrom 56 = .ok (.iload_n 2, 1) := by decide +kernel
theorem dX8_dueFrom_57 : decode cX8_dueFrom 57 = .ok (.invokevirtual 519, 3) := by decide +kernel
theorem dX8_dueFrom_60 : decode cX8_dueFrom 60 = .ok (.ireturn, 1) := by decide +kernel
theorem dX8_cureDue_0 : decode cX8_cureDue 0 = .ok (.aload_n 0, 1) := by decide +kernel
theorem dX8_cureDue_1 : decode cX8_cureDue 1 = .ok (.getfield 19, 3) := by decide +kernel
theorem dX8_cureDue_4 : decode cX8_cureDue 4 = .ok (.aload_n 0, 1) := by decide +kernel
theorem dX8_cureDue_5 : decode cX8_cureDue 5 = .ok (.getfield 26, 3) := by decide +kernel
theorem dX8_cureDue_8 : decode cX8_cureDue 8 = .ok (.getfield 177, 3) := by decide +kernel
theorem dX8_cureDue_11 : decode cX8_cureDue 11 = .ok (.aload_n 0, 1) := by decide +kernel
theorem dX8_cureDue_12 : decode cX8_cureDue 12 = .ok (.getfield 33, 3) := by decide +kernel
theorem dX8_cureDue_15 : decode cX8_cureDue 15 = .ok (.getfield 232, 3) := by decide +kernel
theorem dX8_cureDue_18 : decode cX8_cureDue 18 = .ok (.iload_n 1, 1) := by decide +kernel
theorem dX8_cureDue_19 : decode cX8_cureDue 19 = .ok (.iaload, 1) := by decide +kernel
theorem dX8_cureDue_20 : decode cX8_cureDue 20 = .ok (.iaload, 1) := by decide +kernel
theorem dX8_cureDue_21 : decode cX8_cureDue 21 = .ok (.invokevirtual 516, 3) := by decide +kernel
theorem dX8_cureDue_24 : decode cX8_cureDue 24 = .ok (.istore_n 2, 1) := by decide +kernel
theorem dX8_cureDue_25 : decode cX8_cureDue 25 = .ok (.aload_n 0, 1) := by decide +kernel
theorem dX8_cureDue_26 : decode cX8_cureDue 26 = .ok (.getfield 12, 3) := by decide +kernel
theorem dX8_cureDue_29 : decode cX8_cureDue 29 = .ok (.aload_n 0, 1) := by decide +kernel
theorem dX8_cureDue_30 : decode cX8_cureDue 30 = .ok (.getfield 33, 3) := by decide +kernel
theorem dX8_cureDue_33 : decode cX8_cureDue 33 = .ok (.getfield 309, 3) := by decide +kernel
theorem dX8_cureDue_36 : decode cX8_cureDue 36 = .ok (.iload_n 1, 1) := by decide +kernel
theorem dX8_cureDue_37 : decode cX8_cureDue 37 = .ok (.iaload, 1) := by decide +kernel
theorem dX8_cureDue_38 : decode cX8_cureDue 38 = .ok (.aload_n 0, 1) := by decide +kernel
theorem dX8_cureDue_39 : decode cX8_cureDue 39 = .ok (.getfield 33, 3) := by decide +kernel
theorem dX8_cureDue_42 : decode cX8_cureDue 42 = .ok (.getfield 312, 3) := by decide +kernel
theorem dX8_cureDue_45 : decode cX8_cureDue 45 = .ok (.iload_n 1, 1) := by decide +kernel
theorem dX8_cureDue_46 : decode cX8_cureDue 46 = .ok (.iaload, 1) := by decide +kernel
theorem dX8_cureDue_47 : decode cX8_cureDue 47 = .ok (.aload_n 0, 1) := by decide +kernel
theorem dX8_cureDue_48 : decode cX8_cureDue 48 = .ok (.getfield 33, 3) := by decide +kernel
theorem dX8_cureDue_51 : decode cX8_cureDue 51 = .ok (.getfield 315, 3) := by decide +kernel
theorem dX8_cureDue_54 : decode cX8_cureDue 54 = .ok (.iload_n 1, 1) := by decide +kernel
theorem dX8_cureDue_55 : decode cX8_cureDue 55 = .ok (.baload, 1) := by decide +kernel
theorem dX8_cureDue_56 : decode cX8_cureDue 56 = .ok (.iload_n 2, 1) := by decide +kernel
theorem dX8_cureDue_57 : decode cX8_cureDue 57 = .ok (.invokevirtual 519, 3) := by decide +kernel
theorem dX8_cureDue_60 : decode cX8_cureDue 60 = .ok (.ireturn, 1) := by decide +kernel
theorem dX8_isLate_0 : decode cX8_isLate 0 = .ok (.iload_n 1, 1) := by decide +kernel
theorem dX8_isLate_1 : decode cX8_isLate 1 = .ok (.iconst (-1), 1) := by decide +kernel
theorem dX8_isLate_2 : decode cX8_isLate 2 = .ok (.if_icmp .eq 22, 3) := by decide +kernel
theorem dX8_isLate_5 : decode cX8_isLate 5 = .ok (.aload_n 0, 1) := by decide +kernel
theorem dX8_isLate_6 : decode cX8_isLate 6 = .ok (.getfield 12, 3) := by decide +kernel
theorem dX8_isLate_9 : decode cX8_isLate 9 = .ok (.aload_n 0, 1) := by decide +kernel
theorem dX8_isLate_10 : decode cX8_isLate 10 = .ok (.iload_n 1, 1) := by decide +kernel
theorem dX8_isLate_11 : decode cX8_isLate 11 = .ok (.invokevirtual 337, 3) := by decide +kernel
theorem dX8_isLate_14 : decode cX8_isLate 14 = .ok (.invokevirtual 324, 3) := by decide +kernel
theorem dX8_isLate_17 : decode cX8_isLate 17 = .ok (.ifCond .eq 7, 3) := by decide +kernel
theorem dX8_isLate_20 : decode cX8_isLate 20 = .ok (.iconst 1, 1) := by decide +kernel
theorem dX8_isLate_21 : decode cX8_isLate 21 = .ok (.goto 4, 3) := by decide +kernel
theorem dX8_isLate_24 : decode cX8_isLate 24 = .ok (.iconst 0, 1) := by decide +kernel
theorem dX8_isLate_25 : decode cX8_isLate 25 = .ok (.ireturn, 1) := by decide +kernel
theorem dX8_meetsOther_0 : decode cX8_meetsOther 0 = .ok (.iconst 0, 1) := by decide +kernel
theorem dX8_meetsOther_1 : decode cX8_meetsOther 1 = .ok (.istore 5, 2) := by decide +kernel
theorem dX8_meetsOther_3 : decode cX8_meetsOther 3 = .ok (.iload 5, 2) := by decide +kernel
theorem dX8_meetsOther_5 : decode cX8_meetsOther 5 = .ok (.aload_n 0, 1) := by decide +kernel
theorem dX8_meetsOther_6 : decode cX8_meetsOther 6 = .ok (.getfield 40, 3) := by decide +kernel
theorem dX8_meetsOther_9 : decode cX8_meetsOther 9 = .ok (.getfield 344, 3) := by decide +kernel
theorem dX8_meetsOther_12 : decode cX8_meetsOther 12 = .ok (.if_icmp .ge 79, 3) := by decide +kernel
theorem dX8_meetsOther_15 : decode cX8_meetsOther 15 = .ok (.aload_n 0, 1) := by decide +kernel
theorem dX8_meetsOther_16 : decode cX8_meetsOther 16 = .ok (.getfield 40, 3) := by decide +kernel
theorem dX8_meetsOther_19 : decode cX8_meetsOther 19 = .ok (.getfield 357, 3) := by decide +kernel
theorem dX8_meetsOther_22 : decode cX8_meetsOther 22 = .ok (.iload 5, 2) := by decide +kernel
theorem dX8_meetsOther_24 : decode cX8_meetsOther 24 = .ok (.iaload, 1) := by decide +kernel
theorem dX8_meetsOther_25 : decode cX8_meetsOther 25 = .ok (.iload_n 3, 1) := by decide +kernel
theorem dX8_meetsOther_26 : decode cX8_meetsOther 26 = .ok (.if_icmp .ne 22, 3) := by decide +kernel
theorem dX8_meetsOther_29 : decode cX8_meetsOther 29 = .ok (.aload_n 0, 1) := by decide +kernel
theorem dX8_meetsOther_30 : decode cX8_meetsOther 30 = .ok (.getfield 40, 3) := by decide +kernel
theorem dX8_meetsOther_33 : decode cX8_meetsOther 33 = .ok (.getfield 365, 3) := by decide +kernel
theorem dX8_meetsOther_36 : decode cX8_meetsOther 36 = .ok (.iload 5, 2) := by decide +kernel
theorem dX8_meetsOther_38 : decode cX8_meetsOther 38 = .ok (.iaload, 1) := by decide +kernel
theorem dX8_meetsOther_39 : decode cX8_meetsOther 39 = .ok (.iload 4, 2) := by decide +kernel
theorem dX8_meetsOther_41 : decode cX8_meetsOther 41 = .ok (.if_icmp .ne 7, 3) := by decide +kernel
theorem dX8_meetsOther_44 : decode cX8_meetsOther 44 = .ok (.iconst 1, 1) := by decide +kernel
theorem dX8_meetsOther_45 : decode cX8_meetsOther 45 = .ok (.goto 4, 3) := by decide +kernel
theorem dX8_meetsOther_48 : decode cX8_meetsOther 48 = .ok (.iconst 0, 1) := by decide +kernel
theorem dX8_meetsOther_49 : decode cX8_meetsOther 49 = .ok (.istore 6, 2) := by decide +kernel
theorem dX8_meetsOther_51 : decode cX8_meetsOther 51 = .ok (.iload 5, 2) := by decide +kernel
theorem dX8_meetsOther_53 : decode cX8_meetsOther 53 = .ok (.iload_n 1, 1) := by decide +kernel
theorem dX8_meetsOther_54 : decode cX8_meetsOther 54 = .ok (.if_icmp .eq 31, 3) := by decide +kernel
theorem dX8_meetsOther_57 : decode cX8_meetsOther 57 = .ok (.iload 6, 2) := by decide +kernel
theorem dX8_meetsOther_59 : decode cX8_meetsOther 59 = .ok (.ifCond .eq 26, 3) := by decide +kernel
theorem dX8_meetsOther_62 : decode cX8_meetsOther 62 = .ok (.aload_n 0, 1) := by decide +kernel
theorem dX8_meetsOther_63 : decode cX8_meetsOther 63 = .ok (.getfield 19, 3) := by decide +kernel
theorem dX8_meetsOther_66 : decode cX8_meetsOther 66 = .ok (.iload_n 2, 1) := by decide +kernel
theorem dX8_meetsOther_67 : decode cX8_meetsOther 67 = .ok (.aload_n 0, 1) := by decide +kernel
theorem dX8_meetsOther_68 : decode cX8_meetsOther 68 = .ok (.getfield 40, 3) := by decide +kernel
theorem dX8_meetsOther_71 : decode cX8_meetsOther 71 = .ok (.getfield 523, 3) := by decide +kernel
theorem dX8_meetsOther_74 : decode cX8_meetsOther 74 = .ok (.iload 5, 2) := by decide +kernel
theorem dX8_meetsOther_76 : decode cX8_meetsOther 76 = .ok (.iaload, 1) := by decide +kernel
theorem dX8_meetsOther_77 : decode cX8_meetsOther 77 = .ok (.invokevirtual 524, 3) := by decide +kernel
theorem dX8_meetsOther_80 : decode cX8_meetsOther 80 = .ok (.ifCond .eq 5, 3) := by decide +kernel
theorem dX8_meetsOther_83 : decode cX8_meetsOther 83 = .ok (.iconst 1, 1) := by decide +kernel
theorem dX8_meetsOther_84 : decode cX8_meetsOther 84 = .ok (.ireturn, 1) := by decide +kernel
theorem dX8_meetsOther_85 : decode cX8_meetsOther 85 = .ok (.iinc 5 1, 3) := by decide +kernel
theorem dX8_meetsOther_88 : decode cX8_meetsOther 88 = .ok (.goto (-85), 3) := by decide +kernel
theorem dX8_meetsOther_91 : decode cX8_meetsOther 91 = .ok (.iconst 0, 1) := by decide +kernel
theorem dX8_meetsOther_92 : decode cX8_meetsOther 92 = .ok (.ireturn, 1) := by decide +kernel
theorem dX8_nextTime_0 : decode cX8_nextTime 0 = .ok (.aload_n 0, 1) := by decide +kernel
theorem dX8_nextTime_1 : decode cX8_nextTime 1 = .ok (.getfield 40, 3) := by decide +kernel
theorem dX8_nextTime_4 : decode cX8_nextTime 4 = .ok (.getfield 357, 3) := by decide +kernel
theorem dX8_nextTime_7 : decode cX8_nextTime 7 = .ok (.iload_n 1, 1) := by decide +kernel
theorem dX8_nextTime_8 : decode cX8_nextTime 8 = .ok (.iaload, 1) := by decide +kernel
theorem dX8_nextTime_9 : decode cX8_nextTime 9 = .ok (.iconst 1, 1) := by decide +kernel
theorem dX8_nextTime_10 : decode cX8_nextTime 10 = .ok (.iadd, 1) := by decide +kernel
theorem dX8_nextTime_11 : decode cX8_nextTime 11 = .ok (.istore_n 2, 1) := by decide +kernel
theorem dX8_nextTime_12 : decode cX8_nextTime 12 = .ok (.iload_n 2, 1) := by decide +kernel
theorem dX8_nextTime_13 : decode cX8_nextTime 13 = .ok (.sipush 1000, 3) := by decide +kernel
theorem dX8_nextTime_16 : decode cX8_nextTime 16 = .ok (.if_icmp .gt 62, 3) := by decide +kernel
theorem dX8_nextTime_19 : decode cX8_nextTime 19 = .ok (.aload_n 0, 1) := by decide +kernel
theorem dX8_nextTime_20 : decode cX8_nextTime 20 = .ok (.getfield 12, 3) := by decide +kernel
theorem dX8_nextTime_23 : decode cX8_nextTime 23 = .ok (.iload_n 2, 1) := by decide +kernel
theorem dX8_nextTime_24 : decode cX8_nextTime 24 = .ok (.invokevirtual 94, 3) := by decide +kernel
theorem dX8_nextTime_27 : decode cX8_nextTime 27 = .ok (.ifCond .eq 6, 3) := by decide +kernel
theorem dX8_nextTime_30 : decode cX8_nextTime 30 = .ok (.goto 42, 3) := by decide +kernel
theorem dX8_nextTime_33 : decode cX8_nextTime 33 = .ok (.iconst 0, 1) := by decide +kernel
theorem dX8_nextTime_34 : decode cX8_nextTime 34 = .ok (.istore_n 3, 1) := by decide +kernel
theorem dX8_nextTime_35 : decode cX8_nextTime 35 = .ok (.iload_n 3, 1) := by decide +kernel
theorem dX8_nextTime_36 : decode cX8_nextTime 36 = .ok (.iconst 4, 1) := by decide +kernel
theorem dX8_nextTime_37 : decode cX8_nextTime 37 = .ok (.if_icmp .ge 35, 3) := by decide +kernel
theorem dX8_nextTime_40 : decode cX8_nextTime 40 = .ok (.aload_n 0, 1) := by decide +kernel
theorem dX8_nextTime_41 : decode cX8_nextTime 41 = .ok (.iload_n 1, 1) := by decide +kernel
theorem dX8_nextTime_42 : decode cX8_nextTime 42 = .ok (.aload_n 0, 1) := by decide +kernel
theorem dX8_nextTime_43 : decode cX8_nextTime 43 = .ok (.getfield 40, 3) := by decide +kernel
theorem dX8_nextTime_46 : decode cX8_nextTime 46 = .ok (.getfield 523, 3) := by decide +kernel
theorem dX8_nextTime_49 : decode cX8_nextTime 49 = .ok (.iload_n 1, 1) := by decide +kernel
theorem dX8_nextTime_50 : decode cX8_nextTime 50 = .ok (.iaload, 1) := by decide +kernel
theorem dX8_nextTime_51 : decode cX8_nextTime 51 = .ok (.iload_n 2, 1) := by decide +kernel
theorem dX8_nextTime_52 : decode cX8_nextTime 52 = .ok (.iload_n 3, 1) := by decide +kernel
theorem dX8_nextTime_53 : decode cX8_nextTime 53 = .ok (.invokevirtual 345, 3) := by decide +kernel
theorem dX8_nextTime_56 : decode cX8_nextTime 56 = .ok (.ifCond .ne 10, 3) := by decide +kernel
theorem dX8_nextTime_59 : decode cX8_nextTime 59 = .ok (.bipush 10, 2) := by decide +kernel
theorem dX8_nextTime_61 : decode cX8_nextTime 61 = .ok (.iload_n 2, 1) := by decide +kernel
theorem dX8_nextTime_62 : decode cX8_nextTime 62 = .ok (.imul, 1) := by decide +kernel
theorem dX8_nextTime_63 : decode cX8_nextTime 63 = .ok (.iload_n 3, 1) := by decide +kernel
theorem dX8_nextTime_64 : decode cX8_nextTime 64 = .ok (.iadd, 1) := by decide +kernel
theorem dX8_nextTime_65 : decode cX8_nextTime 65 = .ok (.ireturn, 1) := by decide +kernel
theorem dX8_nextTime_66 : decode cX8_nextTime 66 = .ok (.iinc 3 1, 3) := by decide +kernel
theorem dX8_nextTime_69 : decode cX8_nextTime 69 = .ok (.goto (-34), 3) := by decide +kernel
theorem dX8_nextTime_72 : decode cX8_nextTime 72 = .ok (.iinc 2 1, 3) := by decide +kernel
theorem dX8_nextTime_75 : decode cX8_nextTime 75 = .ok (.goto (-63), 3) := by decide +kernel
theorem dX8_nextTime_78 : decode cX8_nextTime 78 = .ok (.iconst (-1), 1) := by decide +kernel
theorem dX8_nextTime_79 : decode cX8_nextTime 79 = .ok (.ireturn, 1) := by decide +kernel
theorem dJ6_bitCount_0f7a4_0 : decode cJ6_bitCount_0f7a4 0 = .ok (.iload_n 0, 1) := by decide +kernel
theorem dJ6_bitCount_0f7a4_1 : decode cJ6_bitCount_0f7a4 1 = .ok (.iload_n 0, 1) := by decide +kernel
theorem dJ6_bitCount_0f7a4_2 : decode cJ6_bitCount_0f7a4 2 = .ok (.iconst 1, 1) := by decide +kernel
theorem dJ6_bitCount_0f7a4_3 : decode cJ6_bitCount_0f7a4 3 = .ok (.iushr, 1) := by decide +kernel
theorem dJ6_bitCount_0f7a4_4 : decode cJ6_bitCount_0f7a4 4 = .ok (.ldc_w 265, 3) := by decide +kernel
theorem dJ6_bitCount_0f7a4_7 : decode cJ6_bitCount_0f7a4 7 = .ok (.iand, 1) := by decide +kernel
theorem dJ6_bitCount_0f7a4_8 : decode cJ6_bitCount_0f7a4 8 = .ok (.isub, 1) := by decide +kernel
theorem dJ6_bitCount_0f7a4_9 : decode cJ6_bitCount_0f7a4 9 = .ok (.istore_n 0, 1) := by decide +kernel
theorem dJ6_bitCount_0f7a4_10 : decode cJ6_bitCount_0f7a4 10 = .ok (.iload_n 0, 1) := by decide +kernel
theorem dJ6_bitCount_0f7a4_11 : decode cJ6_bitCount_0f7a4 11 = .ok (.ldc_w 266, 3) := by decide +kernel
theorem dJ6_bitCount_0f7a4_14 : decode cJ6_bitCount_0f7a4 14 = .ok (.iand, 1) := by decide +kernel
theorem dJ6_bitCount_0f7a4_15 : decode cJ6_bitCount_0f7a4 15 = .ok (.iload_n 0, 1) := by decide +kernel
theorem dJ6_bitCount_0f7a4_16 : decode cJ6_bitCount_0f7a4 16 = .ok (.iconst 2, 1) := by decide +kernel
theorem dJ6_bitCount_0f7a4_17 : decode cJ6_bitCount_0f7a4 17 = .ok (.iushr, 1) := by decide +kernel
theorem dJ6_bitCount_0f7a4_18 : decode cJ6_bitCount_0f7a4 18 = .ok (.ldc_w 266, 3) := by decide +kernel
theorem dJ6_bitCount_0f7a4_21 : decode cJ6_bitCount_0f7a4 21 = .ok (.iand, 1) := by decide +kernel
theorem dJ6_bitCount_0f7a4_22 : decode cJ6_bitCount_0f7a4 22 = .ok (.iadd, 1) := by decide +kernel
theorem dJ6_bitCount_0f7a4_23 : decode cJ6_bitCount_0f7a4 23 = .ok (.istore_n 0, 1) := by decide +kernel
theorem dJ6_bitCount_0f7a4_24 : decode cJ6_bitCount_0f7a4 24 = .ok (.iload_n 0, 1) := by decide +kernel
theorem dJ6_bitCount_0f7a4_25 : decode cJ6_bitCount_0f7a4 25 = .ok (.iload_n 0, 1) := by decide +kernel
theorem dJ6_bitCount_0f7a4_26 : decode cJ6_bitCount_0f7a4 26 = .ok (.iconst 4, 1) := by decide +kernel
theorem dJ6_bitCount_0f7a4_27 : decode cJ6_bitCount_0f7a4 27 = .ok (.iushr, 1) := by decide +kernel
theorem dJ6_bitCount_0f7a4_28 : decode cJ6_bitCount_0f7a4 28 = .ok (.iadd, 1) := by decide +kernel
theorem dJ6_bitCount_0f7a4_29 : decode cJ6_bitCount_0f7a4 29 = .ok (.ldc_w 267, 3) := by decide +kernel
theorem dJ6_bitCount_0f7a4_32 : decode cJ6_bitCount_0f7a4 32 = .ok (.iand, 1) := by decide +kernel
theorem dJ6_bitCount_0f7a4_33 : decode cJ6_bitCount_0f7a4 33 = .ok (.istore_n 0, 1) := by decide +kernel
theorem dJ6_bitCount_0f7a4_34 : decode cJ6_bitCount_0f7a4 34 = .ok (.iload_n 0, 1) := by decide +kernel
theorem dJ6_bitCount_0f7a4_35 : decode cJ6_bitCount_0f7a4 35 = .ok (.iload_n 0, 1) := by decide +kernel
theorem dJ6_bitCount_0f7a4_36 : decode cJ6_bitCount_0f7a4 36 = .ok (.bipush 8, 2) := by decide +kernel
theorem dJ6_bitCount_0f7a4_38 : decode cJ6_bitCount_0f7a4 38 = .ok (.iushr, 1) := by decide +kernel
theorem dJ6_bitCount_0f7a4_39 : decode cJ6_bitCount_0f7a4 39 = .ok (.iadd, 1) := by decide +kernel
theorem dJ6_bitCount_0f7a4_40 : decode cJ6_bitCount_0f7a4 40 = .ok (.istore_n 0, 1) := by decide +kernel
theorem dJ6_bitCount_0f7a4_41 : decode cJ6_bitCount_0f7a4 41 = .ok (.iload_n 0, 1) := by decide +kernel
theorem dJ6_bitCount_0f7a4_42 : decode cJ6_bitCount_0f7a4 42 = .ok (.iload_n 0, 1) := by decide +kernel
theorem dJ6_bitCount_0f7a4_43 : decode cJ6_bitCount_0f7a4 43 = .ok (.bipush 16, 2) := by decide +kernel
theorem dJ6_bitCount_0f7a4_45 : decode cJ6_bitCount_0f7a4 45 = .ok (.iushr, 1) := by decide +kernel
theorem dJ6_bitCount_0f7a4_46 : decode cJ6_bitCount_0f7a4 46 = .ok (.iadd, 1) := by decide +kernel
theorem dJ6_bitCount_0f7a4_47 : decode cJ6_bitCount_0f7a4 47 = .ok (.istore_n 0, 1) := by decide +kernel
theorem dJ6_bitCount_0f7a4_48 : decode cJ6_bitCount_0f7a4 48 = .ok (.iload_n 0, 1) := by decide +kernel
theorem dJ6_bitCount_0f7a4_49 : decode cJ6_bitCount_0f7a4 49 = .ok (.bipush 63, 2) := by decide +kernel
theorem dJ6_bitCount_0f7a4_51 : decode cJ6_bitCount_0f7a4 51 = .ok (.iand, 1) := by decide +kernel
theorem dJ6_bitCount_0f7a4_52 : decode cJ6_bitCount_0f7a4 52 = .ok (.ireturn, 1) := by decide +kernel
theorem dJ9_max_7cf53_0 : decode cJ9_max_7cf53 0 = .ok (.iload_n 0, 1) := by decide +kernel
theorem dJ9_max_7cf53_1 : decode cJ9_max_7cf53 1 = .ok (.iload_n 1, 1) := by decide +kernel
theorem dJ9_max_7cf53_2 : decode cJ9_max_7cf53 2 = .ok (.if_icmp .lt 7, 3) := by decide +kernel
theorem dJ9_max_7cf53_5 : decode cJ9_max_7cf53 5 = .ok (.iload_n 0, 1) := by decide +kernel
theorem dJ9_max_7cf53_6 : decode cJ9_max_7cf53 6 = .ok (.goto 4, 3) := by decide +kernel
theorem dJ9_max_7cf53_9 : decode cJ9_max_7cf53 9 = .ok (.iload_n 1, 1) := by decide +kernel
theorem dJ9_max_7cf53_10 : decode cJ9_max_7cf53 10 = .ok (.ireturn, 1) := by decide +kernel
