theorem dX5_drawn_56 : decode cX5_drawn 56 = .ok (.bipush 33, 2) := by decide +kernel
theorem dX5_drawn_58 : decode cX5_drawn 58 = .ok (.lushr, 1) := by decide +kernel
theorem dX5_drawn_59 : decode cX5_drawn 59 = .ok (.l2i, 1) := by decide +kernel
theorem dX5_drawn_60 : decode cX5_drawn 60 = .ok (.iload 4, 2) := by decide +kernel
theorem dX5_drawn_62 : decode cX5_drawn 62 = .ok (.iconst 3, 1) := by decide +kernel
theorem dX5_drawn_63 : decode cX5_drawn 63 = .ok (.iand, 1) := by decide +kernel
theorem dX5_drawn_64 : decode cX5_drawn 64 = .ok (.invokevirtual 277, 3) := by decide +kernel
theorem dX5_drawn_67 : decode cX5_drawn 67 = .ok (.i2l, 1) := by decide +kernel
theorem dX5_drawn_68 : decode cX5_drawn 68 = .ok (.bipush 14, 2) := by decide +kernel
theorem dX5_drawn_70 : decode cX5_drawn 70 = .ok (.invokevirtual 204, 3) := by decide +kernel
theorem dX5_drawn_73 : decode cX5_drawn 73 = .ok (.iload_n 3, 1) := by decide +kernel
theorem dX5_drawn_74 : decode cX5_drawn 74 = .ok (.aload_n 2, 1) := by decide +kernel
theorem dX5_drawn_75 : decode cX5_drawn 75 = .ok (.invokevirtual 208, 3) := by decide +kernel
theorem dX5_drawn_78 : decode cX5_drawn 78 = .ok (.iadd, 1) := by decide +kernel
theorem dX5_drawn_79 : decode cX5_drawn 79 = .ok (.istore_n 3, 1) := by decide +kernel
theorem dX5_drawn_80 : decode cX5_drawn 80 = .ok (.iinc 4 1, 3) := by decide +kernel
theorem dX5_drawn_83 : decode cX5_drawn 83 = .ok (.goto (-59), 3) := by decide +kernel
theorem dX5_drawn_86 : decode cX5_drawn 86 = .ok (.iload_n 3, 1) := by decide +kernel
theorem dX5_drawn_87 : decode cX5_drawn 87 = .ok (.ireturn, 1) := by decide +kernel
theorem dX5_keep_0 : decode cX5_keep 0 = .ok (.iload_n 1, 1) := by decide +kernel
theorem dX5_keep_1 : decode cX5_keep 1 = .ok (.invokestatic 280, 3) := by decide +kernel
theorem dX5_keep_4 : decode cX5_keep 4 = .ok (.ifCond .ne 5, 3) := by decide +kernel
theorem dX5_keep_7 : decode cX5_keep 7 = .ok (.iconst (-1), 1) := by decide +kernel
theorem dX5_keep_8 : decode cX5_keep 8 = .ok (.ireturn, 1) := by decide +kernel
theorem dX5_keep_9 : decode cX5_keep 9 = .ok (.aload_n 0, 1) := by decide +kernel
theorem dX5_keep_10 : decode cX5_keep 10 = .ok (.getfield 37, 3) := by decide +kernel
theorem dX5_keep_13 : decode cX5_keep 13 = .ok (.iload_n 1, 1) := by decide +kernel
theorem dX5_keep_14 : decode cX5_keep 14 = .ok (.aaload, 1) := by decide +kernel
theorem dX5_keep_15 : decode cX5_keep 15 = .ok (.aload_n 0, 1) := by decide +kernel
theorem dX5_keep_16 : decode cX5_keep 16 = .ok (.getfield 26, 3) := by decide +kernel
theorem dX5_keep_19 : decode cX5_keep 19 = .ok (.invokevirtual 266, 3) := by decide +kernel
theorem dX5_keep_22 : decode cX5_keep 22 = .ok (.aload_n 0, 1) := by decide +kernel
theorem dX5_keep_23 : decode cX5_keep 23 = .ok (.getfield 41, 3) := by decide +kernel
theorem dX5_keep_26 : decode cX5_keep 26 = .ok (.iload_n 1, 1) := by decide +kernel
theorem dX5_keep_27 : decode cX5_keep 27 = .ok (.iconst 1, 1) := by decide +kernel
theorem dX5_keep_28 : decode cX5_keep 28 = .ok (.bastore, 1) := by decide +kernel
theorem dX5_keep_29 : decode cX5_keep 29 = .ok (.aload_n 0, 1) := by decide +kernel
theorem dX5_keep_30 : decode cX5_keep 30 = .ok (.getfield 26, 3) := by decide +kernel
theorem dX5_keep_33 : decode cX5_keep 33 = .ok (.getfield 283, 3) := by decide +kernel
theorem dX5_keep_36 : decode cX5_keep 36 = .ok (.ireturn, 1) := by decide +kernel
theorem dX5_again_0 : decode cX5_again 0 = .ok (.iload_n 1, 1) := by decide +kernel
theorem dX5_again_1 : decode cX5_again 1 = .ok (.invokestatic 280, 3) := by decide +kernel
theorem dX5_again_4 : decode cX5_again 4 = .ok (.ifCond .ne 5, 3) := by decide +kernel
theorem dX5_again_7 : decode cX5_again 7 = .ok (.iconst (-1), 1) := by decide +kernel
theorem dX5_again_8 : decode cX5_again 8 = .ok (.ireturn, 1) := by decide +kernel
theorem dX5_again_9 : decode cX5_again 9 = .ok (.aload_n 0, 1) := by decide +kernel
theorem dX5_again_10 : decode cX5_again 10 = .ok (.getfield 41, 3) := by decide +kernel
theorem dX5_again_13 : decode cX5_again 13 = .ok (.iload_n 1, 1) := by decide +kernel
theorem dX5_again_14 : decode cX5_again 14 = .ok (.baload, 1) := by decide +kernel
theorem dX5_again_15 : decode cX5_again 15 = .ok (.ifCond .ne 6, 3) := by decide +kernel
theorem dX5_again_18 : decode cX5_again 18 = .ok (.bipush (-3), 2) := by decide +kernel
theorem dX5_again_20 : decode cX5_again 20 = .ok (.ireturn, 1) := by decide +kernel
theorem dX5_again_21 : decode cX5_again 21 = .ok (.aload_n 0, 1) := by decide +kernel
theorem dX5_again_22 : decode cX5_again 22 = .ok (.getfield 26, 3) := by decide +kernel
theorem dX5_again_25 : decode cX5_again 25 = .ok (.aload_n 0, 1) := by decide +kernel
theorem dX5_again_26 : decode cX5_again 26 = .ok (.getfield 37, 3) := by decide +kernel
theorem dX5_again_29 : decode cX5_again 29 = .ok (.iload_n 1, 1) := by decide +kernel
theorem dX5_again_30 : decode cX5_again 30 = .ok (.aaload, 1) := by decide +kernel
theorem dX5_again_31 : decode cX5_again 31 = .ok (.invokevirtual 266, 3) := by decide +kernel
theorem dX5_again_34 : decode cX5_again 34 = .ok (.aload_n 0, 1) := by decide +kernel
theorem dX5_again_35 : decode cX5_again 35 = .ok (.getfield 33, 3) := by decide +kernel
theorem dX5_again_38 : decode cX5_again 38 = .ok (.invokevirtual 84, 3) := by decide +kernel
theorem dX5_again_41 : decode cX5_again 41 = .ok (.aload_n 0, 1) := by decide +kernel
theorem dX5_again_42 : decode cX5_again 42 = .ok (.getfield 26, 3) := by decide +kernel
theorem dX5_again_45 : decode cX5_again 45 = .ok (.getfield 283, 3) := by decide +kernel
theorem dX5_again_48 : decode cX5_again 48 = .ok (.ireturn, 1) := by decide +kernel
theorem dX5_isOffset_0 : decode cX5_isOffset 0 = .ok (.iload_n 0, 1) := by decide +kernel
theorem dX5_isOffset_1 : decode cX5_isOffset 1 = .ok (.ifCond .lt 12, 3) := by decide +kernel
theorem dX5_isOffset_4 : decode cX5_isOffset 4 = .ok (.iload_n 0, 1) := by decide +kernel
theorem dX5_isOffset_5 : decode cX5_isOffset 5 = .ok (.iconst 4, 1) := by decide +kernel
theorem dX5_isOffset_6 : decode cX5_isOffset 6 = .ok (.if_icmp .ge 7, 3) := by decide +kernel
theorem dX5_isOffset_9 : decode cX5_isOffset 9 = .ok (.iconst 1, 1) := by decide +kernel
theorem dX5_isOffset_10 : decode cX5_isOffset 10 = .ok (.goto 4, 3) := by decide +kernel
theorem dX5_isOffset_13 : decode cX5_isOffset 13 = .ok (.iconst 0, 1) := by decide +kernel
theorem dX5_isOffset_14 : decode cX5_isOffset 14 = .ok (.ireturn, 1) := by decide +kernel
theorem dX5_isPlace_0 : decode cX5_isPlace 0 = .ok (.iload_n 0, 1) := by decide +kernel
theorem dX5_isPlace_1 : decode cX5_isPlace 1 = .ok (.ifCond .lt 12, 3) := by decide +kernel
theorem dX5_isPlace_4 : decode cX5_isPlace 4 = .ok (.iload_n 0, 1) := by decide +kernel
theorem dX5_isPlace_5 : decode cX5_isPlace 5 = .ok (.iconst 4, 1) := by decide +kernel
theorem dX5_isPlace_6 : decode cX5_isPlace 6 = .ok (.if_icmp .ge 7, 3) := by decide +kernel
theorem dX5_isPlace_9 : decode cX5_isPlace 9 = .ok (.iconst 1, 1) := by decide +kernel
theorem dX5_isPlace_10 : decode cX5_isPlace 10 = .ok (.goto 4, 3) := by decide +kernel
theorem dX5_isPlace_13 : decode cX5_isPlace 13 = .ok (.iconst 0, 1) := by decide +kernel
theorem dX5_isPlace_14 : decode cX5_isPlace 14 = .ok (.ireturn, 1) := by decide +kernel
theorem dX5_isSlot_0 : decode cX5_isSlot 0 = .ok (.iload_n 0, 1) := by decide +kernel
theorem dX5_isSlot_1 : decode cX5_isSlot 1 = .ok (.ifCond .lt 12, 3) := by decide +kernel
theorem dX5_isSlot_4 : decode cX5_isSlot 4 = .ok (.iload_n 0, 1) := by decide +kernel
theorem dX5_isSlot_5 : decode cX5_isSlot 5 = .ok (.iconst 2, 1) := by decide +kernel
theorem dX5_isSlot_6 : decode cX5_isSlot 6 = .ok (.if_icmp .ge 7, 3) := by decide +kernel
theorem dX5_isSlot_9 : decode cX5_isSlot 9 = .ok (.iconst 1, 1) := by decide +kernel
theorem dX5_isSlot_10 : decode cX5_isSlot 10 = .ok (.goto 4, 3) := by decide +kernel
theorem dX5_isSlot_13 : decode cX5_isSlot 13 = .ok (.iconst 0, 1) := by decide +kernel
theorem dX5_isSlot_14 : decode cX5_isSlot 14 = .ok (.ireturn, 1) := by decide +kernel
theorem dX5_isByte_0 : decode cX5_isByte 0 = .ok (.iload_n 0, 1) := by decide +kernel
theorem dX5_isByte_1 : decode cX5_isByte 1 = .ok (.ifCond .lt 14, 3) := by decide +kernel
theorem dX5_isByte_4 : decode cX5_isByte 4 = .ok (.iload_n 0, 1) := by decide +kernel
theorem dX5_isByte_5 : decode cX5_isByte 5 = .ok (.sipush 256, 3) := by decide +kernel
theorem dX5_isByte_8 : decode cX5_isByte 8 = .ok (.if_icmp .ge 7, 3) := by decide +kernel
theorem dX5_isByte_11 : decode cX5_isByte 11 = .ok (.iconst 1, 1) := by decide +kernel
theorem dX5_isByte_12 : decode cX5_isByte 12 = .ok (.goto 4, 3) := by decide +kernel
theorem dX5_isByte_15 : decode cX5_isByte 15 = .ok (.iconst 0, 1) := by decide +kernel
theorem dX5_isByte_16 : decode cX5_isByte 16 = .ok (.ireturn, 1) := by decide +kernel
theorem dX5_isWord_0 : decode cX5_isWord 0 = .ok (.iload_n 0, 1) := by decide +kernel
theorem dX5_isWord_1 : decode cX5_isWord 1 = .ok (.ifCond .lt 14, 3) := by decide +kernel
theorem dX5_isWord_4 : decode cX5_isWord 4 = .ok (.iload_n 0, 1) := by decide +kernel
theorem dX5_isWord_5 : decode cX5_isWord 5 = .ok (.sipush 16383, 3) := by decide +kernel
theorem dX5_isWord_8 : decode cX5_isWord 8 = .ok (.if_icmp .gt 7, 3) := by decide +kernel
theorem dX5_isWord_11 : decode cX5_isWord 11 = .ok (.iconst 1, 1) := by decide +kernel
theorem dX5_isWord_12 : decode cX5_isWord 12 = .ok (.goto 4, 3) := by decide +kernel
theorem dX5_isWord_15 : decode cX5_isWord 15 = .ok (.iconst 0, 1) := by decide +kernel
theorem dX5_isWord_16 : decode cX5_isWord 16 = .ok (.ireturn, 1) := by decide +kernel
theorem dX5_nextOffset_0 : decode cX5_nextOffset 0 = .ok (.iload_n 0, 1) := by decide +kernel
theorem dX5_nextOffset_1 : decode cX5_nextOffset 1 = .ok (.iconst 1, 1) := by decide +kernel
theorem dX5_nextOffset_2 : decode cX5_nextOffset 2 = .ok (.iadd, 1) := by decide +kernel
theorem dX5_nextOffset_3 : decode cX5_nextOffset 3 = .ok (.iconst 3, 1) := by decide +kernel
theorem dX5_nextOffset_4 : decode cX5_nextOffset 4 = .ok (.iand, 1) := by decide +kernel
theorem dX5_nextOffset_5 : decode cX5_nextOffset 5 = .ok (.ireturn, 1) := by decide +kernel
theorem dX5_presentBits_0 : decode cX5_presentBits 0 = .ok (.iconst 0, 1) := by decide +kernel
theorem dX5_presentBits_1 : decode cX5_presentBits 1 = .ok (.istore_n 1, 1) := by decide +kernel
theorem dX5_presentBits_2 : decode cX5_presentBits 2 = .ok (.iconst 0, 1) := by decide +kernel
theorem dX5_presentBits_3 : decode cX5_presentBits 3 = .ok (.istore_n 2, 1) := by decide +kernel
theorem dX5_presentBits_4 : decode cX5_presentBits 4 = .ok (.iload_n 2, 1) := by decide +kernel
theorem dX5_presentBits_5 : decode cX5_presentBits 5 = .ok (.aload_n 0, 1) := by decide +kernel
theorem dX5_presentBits_6 : decode cX5_presentBits 6 = .ok (.arraylength, 1) := by decide +kernel
theorem dX5_presentBits_7 : decode cX5_presentBits 7 = .ok (.if_icmp .ge 23, 3) := by decide +kernel
theorem dX5_presentBits_10 : decode cX5_presentBits 10 = .ok (.aload_n 0, 1) := by decide +kernel
theorem dX5_presentBits_11 : decode cX5_presentBits 11 = .ok (.iload_n 2, 1) := by decide +kernel
theorem dX5_presentBits_12 : decode cX5_presentBits 12 = .ok (.iaload, 1) := by decide +kernel
theorem dX5_presentBits_13 : decode cX5_presentBits 13 = .ok (.bipush (-9), 2) := by decide +kernel
theorem dX5_presentBits_15 : decode cX5_presentBits 15 = .ok (.if_icmp .eq 9, 3) := by decide +kernel
theorem dX5_presentBits_18 : decode cX5_presentBits 18 = .ok (.iload_n 1, 1) := by decide +kernel
theorem dX5_presentBits_19 : decode cX5_presentBits 19 = .ok (.iconst 1, 1) := by decide +kernel
theorem dX5_presentBits_20 : decode cX5_presentBits 20 = .ok (.iload_n 2, 1) := by decide +kernel
theorem dX5_presentBits_21 : decode cX5_presentBits 21 = .ok (.ishl, 1) := by decide +kernel
theorem dX5_presentBits_22 : decode cX5_presentBits 22 = .ok (.ior, 1) := by decide +kernel
theorem dX5_presentBits_23 : decode cX5_presentBits 23 = .ok (.istore_n 1, 1) := by decide +kernel
theorem dX5_presentBits_24 : decode cX5_presentBits 24 = .ok (.iinc 2 1, 3) := by decide +kernel
theorem dX5_presentBits_27 : decode cX5_presentBits 27 = .ok (.goto (-23), 3) := by decide +kernel
theorem dX5_presentBits_30 : decode cX5_presentBits 30 = .ok (.iload_n 1, 1) := by decide +kernel
theorem dX5_presentBits_31 : decode cX5_presentBits 31 = .ok (.ireturn, 1) := by decide +kernel
theorem dX5_freshTrial_0 : decode cX5_freshTrial 0 = .ok (.aload_n 0, 1) := by decide +kernel
theorem dX5_freshTrial_1 : decode cX5_freshTrial 1 = .ok (.getfield 45, 3) := by decide +kernel
theorem dX5_freshTrial_4 : decode cX5_freshTrial 4 = .ok (.iconst 0, 1) := by decide +kernel
theorem dX5_freshTrial_5 : decode cX5_freshTrial 5 = .ok (.aaload, 1) := by decide +kernel
theorem dX5_freshTrial_6 : decode cX5_freshTrial 6 = .ok (.aload_n 0, 1) := by decide +kernel
theorem dX5_freshTrial_7 : decode cX5_freshTrial 7 = .ok (.getfield 26, 3) := by decide +kernel
theorem dX5_freshTrial_10 : decode cX5_freshTrial 10 = .ok (.invokevirtual 266, 3) := by decide +kernel
theorem dX5_freshTrial_13 : decode cX5_freshTrial 13 = .ok (.aload_n 0, 1) := by decide +kernel
theorem dX5_freshTrial_14 : decode cX5_freshTrial 14 = .ok (.getfield 45, 3) := by decide +kernel
theorem dX5_freshTrial_17 : decode cX5_freshTrial 17 = .ok (.iconst 0, 1) := by decide +kernel
theorem dX5_freshTrial_18 : decode cX5_freshTrial 18 = .ok (.aaload, 1) := by decide +kernel
theorem dX5_freshTrial_19 : decode cX5_freshTrial 19 = .ok (.areturn, 1) := by decide +kernel
theorem dX5_hearGroups_0 : decode cX5_hearGroups 0 = .ok (.aload_n 0, 1) := by decide +kernel
theorem dX5_hearGroups_1 : decode cX5_hearGroups 1 = .ok (.getfield 19, 3) := by decide +kernel
theorem dX5_hearGroups_4 : decode cX5_hearGroups 4 = .ok (.iload_n 2, 1) := by decide +kernel
theorem dX5_hearGroups_5 : decode cX5_hearGroups 5 = .ok (.invokevirtual 232, 3) := by decide +kernel
theorem dX5_hearGroups_8 : decode cX5_hearGroups 8 = .ok (.lstore 4, 2) := by decide +kernel
theorem dX5_hearGroups_10 : decode cX5_hearGroups 10 = .ok (.iconst 0, 1) := by decide +kernel
theorem dX5_hearGroups_11 : decode cX5_hearGroups 11 = .ok (.istore 6, 2) := by decide +kernel
theorem dX5_hearGroups_13 : decode cX5_hearGroups 13 = .ok (.iload 6, 2) := by decide +kernel
theorem dX5_hearGroups_15 : decode cX5_hearGroups 15 = .ok (.iload_n 3, 1) := by decide +kernel
theorem dX5_hearGroups_16 : decode cX5_hearGroups 16 = .ok (.if_icmp .ge 21, 3) := by decide +kernel
theorem dX5_hearGroups_19 : decode cX5_hearGroups 19 = .ok (.aload_n 1, 1) := by decide +kernel
theorem dX5_hearGroups_20 : decode cX5_hearGroups 20 = .ok (.aload_n 0, 1) := by decide +kernel
theorem dX5_hearGroups_21 : decode cX5_hearGroups 21 = .ok (.getfield 19, 3) := by decide +kernel
theorem dX5_hearGroups_24 : decode cX5_hearGroups 24 = .ok (.lload 4, 2) := by decide +kernel
theorem dX5_hearGroups_26 : decode cX5_hearGroups 26 = .ok (.bipush 56, 2) := by decide +kernel
theorem dX5_hearGroups_28 : decode cX5_hearGroups 28 = .ok (.invokevirtual 204, 3) := by decide +kernel
theorem dX5_hearGroups_31 : decode cX5_hearGroups 31 = .ok (.iinc 6 1, 3) := by decide +kernel
theorem dX5_hearGroups_34 : decode cX5_hearGroups 34 = .ok (.goto (-21), 3) := by decide +kernel
theorem dX5_hearGroups_37 : decode cX5_hearGroups 37 = .ok (.return_, 1) := by decide +kernel
theorem dX5_withoutLast_0 : decode cX5_withoutLast 0 = .ok (.lload_n 0, 1) := by decide +kernel
theorem dX5_withoutLast_1 : decode cX5_withoutLast 1 = .ok (.lstore_n 3, 1) := by decide +kernel
theorem dX5_withoutLast_2 : decode cX5_withoutLast 2 = .ok (.iconst 0, 1) := by decide +kernel
theorem dX5_withoutLast_3 : decode cX5_withoutLast 3 = .ok (.istore 5, 2) := by decide +kernel
theorem dX5_withoutLast_5 : decode cX5_withoutLast 5 = .ok (.iload 5, 2) := by decide +kernel
theorem dX5_withoutLast_7 : decode cX5_withoutLast 7 = .ok (.iload_n 2, 1) := by decide +kernel
theorem dX5_withoutLast_8 : decode cX5_withoutLast 8 = .ok (.if_icmp .ge 15, 3) := by decide +kernel
theorem dX5_withoutLast_11 : decode cX5_withoutLast 11 = .ok (.lload_n 3, 1) := by decide +kernel
theorem dX5_withoutLast_12 : decode cX5_withoutLast 12 = .ok (.ldc2_w 244, 3) := by decide +kernel
theorem dX5_withoutLast_15 : decode cX5_withoutLast 15 = .ok (.ldiv, 1) := by decide +kernel
theorem dX5_withoutLast_16 : decode cX5_withoutLast 16 = .ok (.lstore_n 3, 1) := by decide +kernel
theorem dX5_withoutLast_17 : decode cX5_withoutLast 17 = .ok (.iinc 5 1, 3) := by decide +kernel
theorem dX5_withoutLast_20 : decode cX5_withoutLast 20 = .ok (.goto (-15), 3) := by decide +kernel
theorem dX5_withoutLast_23 : decode cX5_withoutLast 23 = .ok (.lload_n 3, 1) := by decide +kernel
theorem dX5_withoutLast_24 : decode cX5_withoutLast 24 = .ok (.lreturn, 1) := by decide +kernel
theorem dX5_isSo_0 : decode cX5_isSo 0 = .ok (.iload_n 2, 1) := by decide +kernel
theorem dX5_isSo_1 : decode cX5_isSo 1 = .ok (.sipush 10000, 3) := by decide +kernel
theorem dX5_isSo_4 : decode cX5_isSo 4 = .ok (.idiv, 1) := by decide +kernel
theorem dX5_isSo_5 : decode cX5_isSo 5 = .ok (.istore_n 3, 1) := by decide +kernel
theorem dX5_isSo_6 : decode cX5_isSo 6 = .ok (.iload_n 2, 1) := by decide +kernel
theorem dX5_isSo_7 : decode cX5_isSo 7 = .ok (.sipush 1000, 3) := by decide +kernel
theorem dX5_isSo_10 : decode cX5_isSo 10 = .ok (.idiv, 1) := by decide +kernel
theorem dX5_isSo_11 : decode cX5_isSo 11 = .ok (.bipush 10, 2) := by decide +kernel
theorem dX5_isSo_13 : decode cX5_isSo 13 = .ok (.irem, 1) := by decide +kernel
theorem dX5_isSo_14 : decode cX5_isSo 14 = .ok (.istore 4, 2) := by decide +kernel
theorem dX5_isSo_16 : decode cX5_isSo 16 = .ok (.iload_n 2, 1) := by decide +kernel
theorem dX5_isSo_17 : decode cX5_isSo 17 = .ok (.sipush 1000, 3) := by decide +kernel
theorem dX5_isSo_20 : decode cX5_isSo 20 = .ok (.irem, 1) := by decide +kernel
theorem dX5_isSo_21 : decode cX5_isSo 21 = .ok (.istore 5, 2) := by decide +kernel
theorem dX5_isSo_23 : decode cX5_isSo 23 = .ok (.iload_n 3, 1) := by decide +kernel
theorem dX5_isSo_24 : decode cX5_isSo 24 = .ok (.tableswitch 165 1 6 #[40, 50, 56, 76, 116, 142], 40) := by decide +kernel
theorem dX5_isSo_64 : decode cX5_isSo 64 = .ok (.aload_n 0, 1) := by decide +kernel
theorem dX5_isSo_65 : decode cX5_isSo 65 = .ok (.aload_n 1, 1) := by decide +kernel
theorem dX5_isSo_66 : decode cX5_isSo 66 = .ok (.iload 4, 2) := by decide +kernel
theorem dX5_isSo_68 : decode cX5_isSo 68 = .ok (.iload 5, 2) := by decide +kernel
theorem dX5_isSo_70 : decode cX5_isSo 70 = .ok (.invokevirtual 286, 3) := by decide +kernel
theorem dX5_isSo_73 : decode cX5_isSo 73 = .ok (.ireturn, 1) := by decide +kernel
theorem dX5_isSo_74 : decode cX5_isSo 74 = .ok (.aload_n 1, 1) := by decide +kernel
theorem dX5_isSo_75 : decode cX5_isSo 75 = .ok (.iload_n 2, 1) := by decide +kernel
theorem dX5_isSo_76 : decode cX5_isSo 76 = .ok (.invokestatic 290, 3) := by decide +kernel
theorem dX5_isSo_79 : decode cX5_isSo 79 = .ok (.ireturn, 1) := by decide +kernel
theorem dX5_isSo_80 : decode cX5_isSo 80 = .ok (.iload 5, 2) := by decide +kernel
theorem dX5_isSo_82 : decode cX5_isSo 82 = .ok (.ifCond .ne 16, 3) := by decide +kernel
theorem dX5_isSo_85 : decode cX5_isSo 85 = .ok (.iload 4, 2) := by decide +kernel
theorem dX5_isSo_87 : decode cX5_isSo 87 = .ok (.aload_n 1, 1) := by decide +kernel
theorem dX5_isSo_88 : decode cX5_isSo 88 = .ok (.invokevirtual 208, 3) := by decide +kernel
theorem dX5_isSo_91 : decode cX5_isSo 91 = .ok (.if_icmp .ne 7, 3) := by decide +kernel
theorem dX5_isSo_94 : decode cX5_isSo 94 = .ok (.iconst 1, 1) := by decide +kernel
theorem dX5_isSo_95 : decode cX5_isSo 95 = .ok (.goto 4, 3) := by decide +kernel
theorem dX5_isSo_98 : decode cX5_isSo 98 = .ok (.iconst 0, 1) := by decide +kernel
theorem dX5_isSo_99 : decode cX5_isSo 99 = .ok (.ireturn, 1) := by decide +kernel
theorem dX5_isSo_100 : decode cX5_isSo 100 = .ok (.iload 4, 2) := by decide +kernel
theorem dX5_isSo_102 : decode cX5_isSo 102 = .ok (.invokestatic 146, 3) := by decide +kernel
theorem dX5_isSo_105 : decode cX5_isSo 105 = .ok (.ifCond .eq 33, 3) := by decide +kernel
theorem dX5_isSo_108 : decode cX5_isSo 108 = .ok (.iload 5, 2) := by decide +kernel
theorem dX5_isSo_110 : decode cX5_isSo 110 = .ok (.aload_n 1, 1) := by decide +kernel
theorem dX5_isSo_111 : decode cX5_isSo 111 = .ok (.getfield 115, 3) := by decide +kernel
theorem dX5_isSo_114 : decode cX5_isSo 114 = .ok (.getfield 136, 3) := by decide +kernel
theorem dX5_isSo_117 : decode cX5_isSo 117 = .ok (.iload 4, 2) := by decide +kernel
theorem dX5_isSo_119 : decode cX5_isSo 119 = .ok (.iaload, 1) := by decide +kernel
theorem dX5_isSo_120 : decode cX5_isSo 120 = .ok (.bipush (-9), 2) := by decide +kernel
theorem dX5_isSo_122 : decode cX5_isSo 122 = .ok (.if_icmp .ne 7, 3) := by decide +kernel
theorem dX5_isSo_125 : decode cX5_isSo 125 = .ok (.iconst 0, 1) := by decide +kernel
theorem dX5_isSo_126 : decode cX5_isSo 126 = .ok (.goto 5, 3) := by decide +kernel
theorem dX5_isSo_129 : decode cX5_isSo 129 = .ok (.bipush 100, 2) := by decide +kernel
theorem dX5_isSo_131 : decode cX5_isSo 131 = .ok (.if_icmp .ne 7, 3) := by decide +kernel
theorem dX5_isSo_134 : decode cX5_isSo 134 = .ok (.iconst 1, 1) := by decide +kernel
theorem dX5_isSo_135 : decode cX5_isSo 135 = .ok (.goto 4, 3) := by decide +kernel
theorem dX5_isSo_138 : decode cX5_isSo 138 = .ok (.iconst 0, 1) := by decide +kernel
theorem dX5_isSo_139 : decode cX5_isSo 139 = .ok (.ireturn, 1) := by decide +kernel
theorem dX5_isSo_140 : decode cX5_isSo 140 = .ok (.iload 4, 2) := by decide +kernel
theorem dX5_isSo_142 : decode cX5_isSo 142 = .ok (.invokestatic 109, 3) := by decide +kernel
theorem dX5_isSo_145 : decode cX5_isSo 145 = .ok (.ifCond .eq 19, 3) := by decide +kernel
theorem dX5_isSo_148 : decode cX5_isSo 148 = .ok (.aload_n 1, 1) := by decide +kernel
theorem dX5_isSo_149 : decode cX5_isSo 149 = .ok (.getfield 143, 3) := by decide +kernel
theorem dX5_isSo_152 : decode cX5_isSo 152 = .ok (.iload 4, 2) := by decide +kernel
theorem dX5_isSo_154 : decode cX5_isSo 154 = .ok (.iaload, 1) := by decide +kernel
theorem dX5_isSo_155 : decode cX5_isSo 155 = .ok (.iload 5, 2) := by decide +kernel
theorem dX5_isSo_157 : decode cX5_isSo 157 = .ok (.if_icmp .ne 7, 3) := by decide +kernel
theorem dX5_isSo_160 : decode cX5_isSo 160 = .ok (.iconst 1, 1) := by decide +kernel
theorem dX5_isSo_161 : decode cX5_isSo 161 = .ok (.goto 4, 3) := by decide +kernel
theorem dX5_isSo_164 : decode cX5_isSo 164 = .ok (.iconst 0, 1) := by decide +kernel
theorem dX5_isSo_165 : decode cX5_isSo 165 = .ok (.ireturn, 1) := by decide +kernel
theorem dX5_isSo_166 : decode cX5_isSo 166 = .ok (.iload 4, 2) := by decide +kernel
theorem dX5_isSo_168 : decode cX5_isSo 168 = .ok (.ifCond .ne 19, 3) := by decide +kernel
theorem dX5_isSo_171 : decode cX5_isSo 171 = .ok (.aload_n 1, 1) := by decide +kernel
theorem dX5_isSo_172 : decode cX5_isSo 172 = .ok (.getfield 115, 3) := by decide +kernel
theorem dX5_isSo_175 : decode cX5_isSo 175 = .ok (.getfield 119, 3) := by decide +kernel
theorem dX5_isSo_178 : decode cX5_isSo 178 = .ok (.iload 5, 2) := by decide +kernel
theorem dX5_isSo_180 : decode cX5_isSo 180 = .ok (.if_icmp .ne 7, 3) := by decide +kernel
theorem dX5_isSo_183 : decode cX5_isSo 183 = .ok (.iconst 1, 1) := by decide +kernel
theorem dX5_isSo_184 : decode cX5_isSo 184 = .ok (.goto 4, 3) := by decide +kernel
theorem dX5_isSo_187 : decode cX5_isSo 187 = .ok (.iconst 0, 1) := by decide +kernel
theorem dX5_isSo_188 : decode cX5_isSo 188 = .ok (.ireturn, 1) := by decide +kernel
theorem dX5_isSo_189 : decode cX5_isSo 189 = .ok (.iconst 0, 1) := by decide +kernel
theorem dX5_isSo_190 : decode cX5_isSo 190 = .ok (.ireturn, 1) := by decide +kernel
theorem dX5_canHear_0 : decode cX5_canHear 0 = .ok (.iload_n 2, 1) := by decide +kernel
theorem dX5_canHear_1 : decode cX5_canHear 1 = .ok (.invokestatic 109, 3) := by decide +kernel
theorem dX5_canHear_4 : decode cX5_canHear 4 = .ok (.ifCond .eq 10, 3) := by decide +kernel
theorem dX5_canHear_7 : decode cX5_canHear 7 = .ok (.iload_n 3, 1) := by decide +kernel
theorem dX5_canHear_8 : decode cX5_canHear 8 = .ok (.invokestatic 161, 3) := by decide +kernel
theorem dX5_canHear_11 : decode cX5_canHear 11 = .ok (.ifCond .ne 5, 3) := by decide +kernel
theorem dX5_canHear_14 : decode cX5_canHear 14 = .ok (.iconst 0, 1) := by decide +kernel
theorem dX5_canHear_15 : decode cX5_canHear 15 = .ok (.ireturn, 1) := by decide +kernel
theorem dX5_canHear_16 : decode cX5_canHear 16 = .ok (.aload_n 1, 1) := by decide +kernel
theorem dX5_canHear_17 : decode cX5_canHear 17 = .ok (.aload_n 0, 1) := by decide +kernel
theorem dX5_canHear_18 : decode cX5_canHear 18 = .ok (.getfield 19, 3) := by decide +kernel
theorem dX5_canHear_21 : decode cX5_canHear 21 = .ok (.aload_n 0, 1) := by decide +kernel
theorem dX5_canHear_22 : decode cX5_canHear 22 = .ok (.getfield 19, 3) := by decide +kernel
theorem dX5_canHear_25 : decode cX5_canHear 25 = .ok (.iload_n 2, 1) := by decide +kernel
theorem dX5_canHear_26 : decode cX5_canHear 26 = .ok (.iload_n 3, 1) := by decide +kernel
theorem dX5_canHear_27 : decode cX5_canHear 27 = .ok (.invokevirtual 164, 3) := by decide +kernel
theorem dX5_canHear_30 : decode cX5_canHear 30 = .ok (.i2l, 1) := by decide +kernel
theorem dX5_canHear_31 : decode cX5_canHear 31 = .ok (.bipush 14, 2) := by decide +kernel
theorem dX5_canHear_33 : decode cX5_canHear 33 = .ok (.invokevirtual 204, 3) := by decide +kernel
theorem dX5_canHear_36 : decode cX5_canHear 36 = .ok (.iconst 1, 1) := by decide +kernel
theorem dX5_canHear_37 : decode cX5_canHear 37 = .ok (.ireturn, 1) := by decide +kernel
theorem dX5_canReset_0 : decode cX5_canReset 0 = .ok (.iload_n 1, 1) := by decide +kernel
theorem dX5_canReset_1 : decode cX5_canReset 1 = .ok (.sipush 20000, 3) := by decide +kernel
theorem dX5_canReset_4 : decode cX5_canReset 4 = .ok (.if_icmp .eq 5, 3) := by decide +kernel
theorem dX5_canReset_7 : decode cX5_canReset 7 = .ok (.iconst 0, 1) := by decide +kernel
theorem dX5_canReset_8 : decode cX5_canReset 8 = .ok (.ireturn, 1) := by decide +kernel
theorem dX5_canReset_9 : decode cX5_canReset 9 = .ok (.aload_n 0, 1) := by decide +kernel
theorem dX5_canReset_10 : decode cX5_canReset 10 = .ok (.invokevirtual 221, 3) := by decide +kernel
theorem dX5_canReset_13 : decode cX5_canReset 13 = .ok (.iconst 1, 1) := by decide +kernel
theorem dX5_canReset_14 : decode cX5_canReset 14 = .ok (.ireturn, 1) := by decide +kernel
theorem dX5_placesFitting_0 : decode cX5_placesFitting 0 = .ok (.aload_n 0, 1) := by decide +kernel
theorem dX5_placesFitting_1 : decode cX5_placesFitting 1 = .ok (.getfield 19, 3) := by decide +kernel
theorem dX5_placesFitting_4 : decode cX5_placesFitting 4 = .ok (.aload_n 0, 1) := by decide +kernel
theorem dX5_placesFitting_5 : decode cX5_placesFitting 5 = .ok (.getfield 48, 3) := by decide +kernel
theorem dX5_placesFitting_8 : decode cX5_placesFitting 8 = .ok (.iload_n 1, 1) := by decide +kernel
theorem dX5_placesFitting_9 : decode cX5_placesFitting 9 = .ok (.iaload, 1) := by decide +kernel
theorem dX5_placesFitting_10 : decode cX5_placesFitting 10 = .ok (.invokevirtual 232, 3) := by decide +kernel
theorem dX5_placesFitting_13 : decode cX5_placesFitting 13 = .ok (.lstore 4, 2) := by decide +kernel
theorem dX5_placesFitting_15 : decode cX5_placesFitting 15 = .ok (.aload_n 0, 1) := by decide +kernel
theorem dX5_placesFitting_16 : decode cX5_placesFitting 16 = .ok (.getfield 26, 3) := by decide +kernel
theorem dX5_placesFitting_19 : decode cX5_placesFitting 19 = .ok (.aload_n 0, 1) := by decide +kernel
theorem dX5_placesFitting_20 : decode cX5_placesFitting 20 = .ok (.getfield 52, 3) := by decide +kernel
theorem dX5_placesFitting_23 : decode cX5_placesFitting 23 = .ok (.iload_n 1, 1) := by decide +kernel
theorem dX5_placesFitting_24 : decode cX5_placesFitting 24 = .ok (.iaload, 1) := by decide +kernel
theorem dX5_placesFitting_25 : decode cX5_placesFitting 25 = .ok (.invokevirtual 293, 3) := by decide +kernel
theorem dX5_placesFitting_28 : decode cX5_placesFitting 28 = .ok (.aload_n 0, 1) := by decide +kernel
theorem dX5_placesFitting_29 : decode cX5_placesFitting 29 = .ok (.getfield 55, 3) := by decide +kernel
theorem dX5_placesFitting_32 : decode cX5_placesFitting 32 = .ok (.iload_n 1, 1) := by decide +kernel
theorem dX5_placesFitting_33 : decode cX5_placesFitting 33 = .ok (.iaload, 1) := by decide +kernel
theorem dX5_placesFitting_34 : decode cX5_placesFitting 34 = .ok (.iadd, 1) := by decide +kernel
theorem dX5_placesFitting_35 : decode cX5_placesFitting 35 = .ok (.istore 6, 2) := by decide +kernel
theorem dX5_placesFitting_37 : decode cX5_placesFitting 37 = .ok (.aload_n 0, 1) := by decide +kernel
theorem dX5_placesFitting_38 : decode cX5_placesFitting 38 = .ok (.getfield 45, 3) := by decide +kernel
theorem dX5_placesFitting_41 : decode cX5_placesFitting 41 = .ok (.iconst 0, 1) := by decide +kernel
theorem dX5_placesFitting_42 : decode cX5_placesFitting 42 = .ok (.aaload, 1) := by decide +kernel
theorem dX5_placesFitting_43 : decode cX5_placesFitting 43 = .ok (.astore 7, 2) := by decide +kernel
theorem dX5_placesFitting_45 : decode cX5_placesFitting 45 = .ok (.aload_n 0, 1) := by decide +kernel
theorem dX5_placesFitting_46 : decode cX5_placesFitting 46 = .ok (.getfield 45, 3) := by decide +kernel
theorem dX5_placesFitting_49 : decode cX5_placesFitting 49 = .ok (.iconst 1, 1) := by decide +kernel
theorem dX5_placesFitting_50 : decode cX5_placesFitting 50 = .ok (.aaload, 1) := by decide +kernel
theorem dX5_placesFitting_51 : decode cX5_placesFitting 51 = .ok (.astore 8, 2) := by decide +kernel
theorem dX5_placesFitting_53 : decode cX5_placesFitting 53 = .ok (.aload 7, 2) := by decide +kernel
theorem dX5_placesFitting_55 : decode cX5_placesFitting 55 = .ok (.aload_n 0, 1) := by decide +kernel
theorem dX5_placesFitting_56 : decode cX5_placesFitting 56 = .ok (.getfield 26, 3) := by decide +kernel
theorem dX5_placesFitting_59 : decode cX5_placesFitting 59 = .ok (.invokevirtual 266, 3) := by decide +kernel
theorem dX5_placesFitting_62 : decode cX5_placesFitting 62 = .ok (.lconst 0, 1) := by decide +kernel
theorem dX5_placesFitting_63 : decode cX5_placesFitting 63 = .ok (.lstore 9, 2) := by decide +kernel
theorem dX5_placesFitting_65 : decode cX5_placesFitting 65 = .ok (.iconst 0, 1) := by decide +kernel
theorem dX5_placesFitting_66 : decode cX5_placesFitting 66 = .ok (.istore 11, 2) := by decide +kernel
theorem dX5_placesFitting_68 : decode cX5_placesFitting 68 = .ok (.iload 11, 2) := by decide +kernel
theorem dX5_placesFitting_70 : decode cX5_placesFitting 70 = .ok (.bipush 56, 2) := by decide +kernel
theorem dX5_placesFitting_72 : decode cX5_placesFitting 72 = .ok (.if_icmp .ge 94, 3) := by decide +kernel
theorem dX5_placesFitting_75 : decode cX5_placesFitting 75 = .ok (.bipush 55, 2) := by decide +kernel
theorem dX5_placesFitting_77 : decode cX5_placesFitting 77 = .ok (.iload 11, 2) := by decide +kernel
theorem dX5_placesFitting_79 : decode cX5_placesFitting 79 = .ok (.isub, 1) := by decide +kernel
theorem dX5_placesFitting_80 : decode cX5_placesFitting 80 = .ok (.istore 12, 2) := by decide +kernel
theorem dX5_placesFitting_82 : decode cX5_placesFitting 82 = .ok (.lload_n 2, 1) := by decide +kernel
theorem dX5_placesFitting_83 : decode cX5_placesFitting 83 = .ok (.iload 11, 2) := by decide +kernel
theorem dX5_placesFitting_85 : decode cX5_placesFitting 85 = .ok (.lshr, 1) := by decide +kernel
theorem dX5_placesFitting_86 : decode cX5_placesFitting 86 = .ok (.lconst 1, 1) := by decide +kernel
theorem dX5_placesFitting_87 : decode cX5_placesFitting 87 = .ok (.land, 1) := by decide +kernel
theorem dX5_placesFitting_88 : decode cX5_placesFitting 88 = .ok (.lconst 0, 1) := by decide +kernel
theorem dX5_placesFitting_89 : decode cX5_placesFitting 89 = .ok (.lcmp, 1) := by decide +kernel
theorem dX5_placesFitting_90 : decode cX5_placesFitting 90 = .ok (.ifCond .eq 55, 3) := by decide +kernel
theorem dX5_placesFitting_93 : decode cX5_placesFitting 93 = .ok (.aload 8, 2) := by decide +kernel
theorem dX5_placesFitting_95 : decode cX5_placesFitting 95 = .ok (.aload 7, 2) := by decide +kernel
theorem dX5_placesFitting_97 : decode cX5_placesFitting 97 = .ok (.invokevirtual 266, 3) := by decide +kernel
theorem dX5_placesFitting_100 : decode cX5_placesFitting 100 = .ok (.aload 8, 2) := by decide +kernel
theorem dX5_placesFitting_102 : decode cX5_placesFitting 102 = .ok (.aload_n 0, 1) := by decide +kernel
theorem dX5_placesFitting_103 : decode cX5_placesFitting 103 = .ok (.getfield 19, 3) := by decide +kernel
theorem dX5_placesFitting_106 : decode cX5_placesFitting 106 = .ok (.lload 4, 2) := by decide +kernel
theorem dX5_placesFitting_108 : decode cX5_placesFitting 108 = .ok (.lconst 1, 1) := by decide +kernel
theorem dX5_placesFitting_109 : decode cX5_placesFitting 109 = .ok (.iload 12, 2) := by decide +kernel
theorem dX5_placesFitting_111 : decode cX5_placesFitting 111 = .ok (.lshl, 1) := by decide +kernel
theorem dX5_placesFitting_112 : decode cX5_placesFitting 112 = .ok (.lxor, 1) := by decide +kernel
theorem dX5_placesFitting_113 : decode cX5_placesFitting 113 = .ok (.iload 12, 2) := by decide +kernel
theorem dX5_placesFitting_115 : decode cX5_placesFitting 115 = .ok (.iconst 1, 1) := by decide +kernel
theorem dX5_placesFitting_116 : decode cX5_placesFitting 116 = .ok (.iadd, 1) := by decide +kernel
theorem dX5_placesFitting_117 : decode cX5_placesFitting 117 = .ok (.invokevirtual 204, 3) := by decide +kernel
theorem dX5_placesFitting_120 : decode cX5_placesFitting 120 = .ok (.aload 8, 2) := by decide +kernel
theorem dX5_placesFitting_122 : decode cX5_placesFitting 122 = .ok (.aload_n 0, 1) := by decide +kernel
theorem dX5_placesFitting_123 : decode cX5_placesFitting 123 = .ok (.getfield 52, 3) := by decide +kernel
theorem dX5_placesFitting_126 : decode cX5_placesFitting 126 = .ok (.iload_n 1, 1) := by decide +kernel
theorem dX5_placesFitting_127 : decode cX5_placesFitting 127 = .ok (.iaload, 1) := by decide +kernel
theorem dX5_placesFitting_128 : decode cX5_placesFitting 128 = .ok (.invokevirtual 293, 3) := by decide +kernel
theorem dX5_placesFitting_131 : decode cX5_placesFitting 131 = .ok (.iload 6, 2) := by decide +kernel
theorem dX5_placesFitting_133 : decode cX5_placesFitting 133 = .ok (.if_icmp .ne 12, 3) := by decide +kernel
theorem dX5_placesFitting_136 : decode cX5_placesFitting 136 = .ok (.lload 9, 2) := by decide +kernel
theorem dX5_placesFitting_138 : decode cX5_placesFitting 138 = .ok (.lconst 1, 1) := by decide +kernel
theorem dX5_placesFitting_139 : decode cX5_placesFitting 139 = .ok (.iload 11, 2) := by decide +kernel
theorem dX5_placesFitting_141 : decode cX5_placesFitting 141 = .ok (.lshl, 1) := by decide +kernel
theorem dX5_placesFitting_142 : decode cX5_placesFitting 142 = .ok (.lor, 1) := by decide +kernel
theorem dX5_placesFitting_143 : decode cX5_placesFitting 143 = .ok (.lstore 9, 2) := by decide +kernel
theorem dX5_placesFitting_145 : decode cX5_placesFitting 145 = .ok (.aload 7, 2) := by decide +kernel
theorem dX5_placesFitting_147 : decode cX5_placesFitting 147 = .ok (.aload_n 0, 1) := by decide +kernel
theorem dX5_placesFitting_148 : decode cX5_placesFitting 148 = .ok (.getfield 19, 3) := by decide +kernel
theorem dX5_placesFitting_151 : decode cX5_placesFitting 151 = .ok (.lload 4, 2) := by decide +kernel
theorem dX5_placesFitting_153 : decode cX5_placesFitting 153 = .ok (.iload 12, 2) := by decide +kernel
theorem dX5_placesFitting_155 : decode cX5_placesFitting 155 = .ok (.lshr, 1) := by decide +kernel
theorem dX5_placesFitting_156 : decode cX5_placesFitting 156 = .ok (.iconst 1, 1) := by decide +kernel
theorem dX5_placesFitting_157 : decode cX5_placesFitting 157 = .ok (.invokevirtual 204, 3) := by decide +kernel
theorem dX5_placesFitting_160 : decode cX5_placesFitting 160 = .ok (.iinc 11 1, 3) := by decide +kernel
theorem dX5_placesFitting_163 : decode cX5_placesFitting 163 = .ok (.goto (-95), 3) := by decide +kernel
theorem dX5_placesFitting_166 : decode cX5_placesFitting 166 = .ok (.lload 9, 2) := by decide +kernel
theorem dX5_placesFitting_168 : decode cX5_placesFitting 168 = .ok (.lreturn, 1) := by decide +kernel
theorem dX5_goodBehind_0 : decode cX5_goodBehind 0 = .ok (.aload_n 0, 1) := by decide +kernel
theorem dX5_goodBehind_1 : decode cX5_goodBehind 1 = .ok (.getfield 19, 3) := by decide +kernel
theorem dX5_goodBehind_4 : decode cX5_goodBehind 4 = .ok (.iload_n 1, 1) := by decide +kernel
theorem dX5_goodBehind_5 : decode cX5_goodBehind 5 = .ok (.invokevirtual 232, 3) := by decide +kernel
theorem dX5_goodBehind_8 : decode cX5_goodBehind 8 = .ok (.lstore_n 3, 1) := by decide +kernel
theorem dX5_goodBehind_9 : decode cX5_goodBehind 9 = .ok (.iconst 0, 1) := by decide +kernel
theorem dX5_goodBehind_10 : decode cX5_goodBehind 10 = .ok (.istore 5, 2) := by decide +kernel
theorem dX5_goodBehind_12 : decode cX5_goodBehind 12 = .ok (.iload 5, 2) := by decide +kernel
theorem dX5_goodBehind_14 : decode cX5_goodBehind 14 = .ok (.iconst 4, 1) := by decide +kernel
theorem dX5_goodBehind_15 : decode cX5_goodBehind 15 = .ok (.if_icmp .ge 32, 3) := by decide +kernel
theorem dX5_goodBehind_18 : decode cX5_goodBehind 18 = .ok (.iload_n 2, 1) := by decide +kernel
theorem dX5_goodBehind_19 : decode cX5_goodBehind 19 = .ok (.iload 5, 2) := by decide +kernel
theorem dX5_goodBehind_21 : decode cX5_goodBehind 21 = .ok (.ishr, 1) := by decide +kernel
theorem dX5_goodBehind_22 : decode cX5_goodBehind 22 = .ok (.iconst 1, 1) := by decide +kernel
theorem dX5_goodBehind_23 : decode cX5_goodBehind 23 = .ok (.iand, 1) := by decide +kernel
theorem dX5_goodBehind_24 : decode cX5_goodBehind 24 = .ok (.ifCond .ne 17, 3) := by decide +kernel
theorem dX5_goodBehind_27 : decode cX5_goodBehind 27 = .ok (.lload_n 3, 1) := by decide +kernel
theorem dX5_goodBehind_28 : decode cX5_goodBehind 28 = .ok (.ldc2_w 296, 3) := by decide +kernel
theorem dX5_goodBehind_31 : decode cX5_goodBehind 31 = .ok (.bipush 14, 2) := by decide +kernel
theorem dX5_goodBehind_33 : decode cX5_goodBehind 33 = .ok (.iconst 3, 1) := by decide +kernel
theorem dX5_goodBehind_34 : decode cX5_goodBehind 34 = .ok (.iload 5, 2) := by decide +kernel
theorem dX5_goodBehind_36 : decode cX5_goodBehind 36 = .ok (.isub, 1) := by decide +kernel
theorem dX5_goodBehind_37 : decode cX5_goodBehind 37 = .ok (.imul, 1) := by decide +kernel
theorem dX5_goodBehind_38 : decode cX5_goodBehind 38 = .ok (.lshl, 1) := by decide +kernel
theorem dX5_goodBehind_39 : decode cX5_goodBehind 39 = .ok (.lxor, 1) := by decide +kernel
theorem dX5_goodBehind_40 : decode cX5_goodBehind 40 = .ok (.lstore_n 3, 1) := by decide +kernel
theorem dX5_goodBehind_41 : decode cX5_goodBehind 41 = .ok (.iinc 5 1, 3) := by decide +kernel
theorem dX5_goodBehind_44 : decode cX5_goodBehind 44 = .ok (.goto (-32), 3) := by decide +kernel
theorem dX5_goodBehind_47 : decode cX5_goodBehind 47 = .ok (.aload_n 0, 1) := by decide +kernel
theorem dX5_goodBehind_48 : decode cX5_goodBehind 48 = .ok (.invokevirtual 228, 3) := by decide +kernel
theorem dX5_goodBehind_51 : decode cX5_goodBehind 51 = .ok (.astore 5, 2) := by decide +kernel
theorem dX5_goodBehind_53 : decode cX5_goodBehind 53 = .ok (.iconst 0, 1) := by decide +kernel
theorem dX5_goodBehind_54 : decode cX5_goodBehind 54 = .ok (.istore 6, 2) := by decide +kernel
theorem dX5_goodBehind_56 : decode cX5_goodBehind 56 = .ok (.iload 6, 2) := by decide +kernel
theorem dX5_goodBehind_58 : decode cX5_goodBehind 58 = .ok (.iconst 3, 1) := by decide +kernel
theorem dX5_goodBehind_59 : decode cX5_goodBehind 59 = .ok (.if_icmp .ge 21, 3) := by decide +kernel
theorem dX5_goodBehind_62 : decode cX5_goodBehind 62 = .ok (.aload 5, 2) := by decide +kernel
theorem dX5_goodBehind_64 : decode cX5_goodBehind 64 = .ok (.aload_n 0, 1) := by decide +kernel
theorem dX5_goodBehind_65 : decode cX5_goodBehind 65 = .ok (.getfield 19, 3) := by decide +kernel
theorem dX5_goodBehind_68 : decode cX5_goodBehind 68 = .ok (.lload_n 3, 1) := by decide +kernel
theorem dX5_goodBehind_69 : decode cX5_goodBehind 69 = .ok (.bipush 56, 2) := by decide +kernel
theorem dX5_goodBehind_71 : decode cX5_goodBehind 71 = .ok (.invokevirtual 204, 3) := by decide +kernel
theorem dX5_goodBehind_74 : decode cX5_goodBehind 74 = .ok (.iinc 6 1, 3) := by decide +kernel
theorem dX5_goodBehind_77 : decode cX5_goodBehind 77 = .ok (.goto (-21), 3) := by decide +kernel
theorem dX5_goodBehind_80 : decode cX5_goodBehind 80 = .ok (.aload 5, 2) := by decide +kernel
theorem dX5_goodBehind_82 : decode cX5_goodBehind 82 = .ok (.getfield 211, 3) := by decide +kernel
theorem dX5_goodBehind_85 : decode cX5_goodBehind 85 = .ok (.ireturn, 1) := by decide +kernel
theorem dX5_setsWithFate_0 : decode cX5_setsWithFate 0 = .ok (.iload_n 2, 1) := by decide +kernel
theorem dX5_setsWithFate_1 : decode cX5_setsWithFate 1 = .ok (.ifCond .gt 19, 3) := by decide +kernel
theorem dX5_setsWithFate_4 : decode cX5_setsWithFate 4 = .ok (.aload_n 0, 1) := by decide +kernel
theorem dX5_setsWithFate_5 : decode cX5_setsWithFate 5 = .ok (.iload 4, 2) := by decide +kernel
theorem dX5_setsWithFate_7 : decode cX5_setsWithFate 7 = .ok (.invokevirtual 298, 3) := by decide +kernel
theorem dX5_setsWithFate_10 : decode cX5_setsWithFate 10 = .ok (.iload_n 1, 1) := by decide +kernel
theorem dX5_setsWithFate_11 : decode cX5_setsWithFate 11 = .ok (.if_icmp .ne 7, 3) := by decide +kernel
theorem dX5_setsWithFate_14 : decode cX5_setsWithFate 14 = .ok (.iconst 1, 1) := by decide +kernel
theorem dX5_setsWithFate_15 : decode cX5_setsWithFate 15 = .ok (.goto 4, 3) := by decide +kernel
theorem dX5_setsWithFate_18 : decode cX5_setsWithFate 18 = .ok (.iconst 0, 1) := by decide +kernel
theorem dX5_setsWithFate_19 : decode cX5_setsWithFate 19 = .ok (.ireturn, 1) := by decide +kernel
theorem dX5_setsWithFate_20 : decode cX5_setsWithFate 20 = .ok (.iconst 0, 1) := by decide +kernel
theorem dX5_setsWithFate_21 : decode cX5_setsWithFate 21 = .ok (.istore 5, 2) := by decide +kernel
theorem dX5_setsWithFate_23 : decode cX5_setsWithFate 23 = .ok (.iload_n 3, 1) := by decide +kernel
theorem dX5_setsWithFate_24 : decode cX5_setsWithFate 24 = .ok (.istore 6, 2) := by decide +kernel
theorem dX5_setsWithFate_26 : decode cX5_setsWithFate 26 = .ok (.iload 6, 2) := by decide +kernel
theorem dX5_setsWithFate_28 : decode cX5_setsWithFate 28 = .ok (.bipush 14, 2) := by decide +kernel
theorem dX5_setsWithFate_30 : decode cX5_setsWithFate 30 = .ok (.if_icmp .ge 33, 3) := by decide +kernel
theorem dX5_setsWithFate_33 : decode cX5_setsWithFate 33 = .ok (.iload 5, 2) := by decide +kernel
theorem dX5_setsWithFate_35 : decode cX5_setsWithFate 35 = .ok (.aload_n 0, 1) := by decide +kernel
theorem dX5_setsWithFate_36 : decode cX5_setsWithFate 36 = .ok (.iload_n 1, 1) := by decide +kernel
theorem dX5_setsWithFate_37 : decode cX5_setsWithFate 37 = .ok (.iload_n 2, 1) := by decide +kernel
theorem dX5_setsWithFate_38 : decode cX5_setsWithFate 38 = .ok (.iconst 1, 1) := by decide +kernel
theorem dX5_setsWithFate_39 : decode cX5_setsWithFate 39 = .ok (.isub, 1) := by decide +kernel
theorem dX5_setsWithFate_40 : decode cX5_setsWithFate 40 = .ok (.iload 6, 2) := by decide +kernel
theorem dX5_setsWithFate_42 : decode cX5_setsWithFate 42 = .ok (.iconst 1, 1) := by decide +kernel
theorem dX5_setsWithFate_43 : decode cX5_setsWithFate 43 = .ok (.iadd, 1) := by decide +kernel
theorem dX5_setsWithFate_44 : decode cX5_setsWithFate 44 = .ok (.iload 4, 2) := by decide +kernel
theorem dX5_setsWithFate_46 : decode cX5_setsWithFate 46 = .ok (.iconst 1, 1) := by decide +kernel
theorem dX5_setsWithFate_47 : decode cX5_setsWithFate 47 = .ok (.iload 6, 2) := by decide +kernel
theorem dX5_setsWithFate_49 : decode cX5_setsWithFate 49 = .ok (.ishl, 1) := by decide +kernel
theorem dX5_setsWithFate_50 : decode cX5_setsWithFate 50 = .ok (.ior, 1) := by decide +kernel
theorem dX5_setsWithFate_51 : decode cX5_setsWithFate 51 = .ok (.invokestatic 190, 3) := by decide +kernel
theorem dX5_setsWithFate_54 : decode cX5_setsWithFate 54 = .ok (.iadd, 1) := by decide +kernel
theorem dX5_setsWithFate_55 : decode cX5_setsWithFate 55 = .ok (.istore 5, 2) := by decide +kernel
theorem dX5_setsWithFate_57 : decode cX5_setsWithFate 57 = .ok (.iinc 6 1, 3) := by decide +kernel
theorem dX5_setsWithFate_60 : decode cX5_setsWithFate 60 = .ok (.goto (-34), 3) := by decide +kernel
theorem dX5_setsWithFate_63 : decode cX5_setsWithFate 63 = .ok (.iload 5, 2) := by decide +kernel
theorem dX5_setsWithFate_65 : decode cX5_setsWithFate 65 = .ok (.ireturn, 1) := by decide +kernel
theorem dX5_waysToSync_0 : decode cX5_waysToSync 0 = .ok (.iload 6, 2) := by decide +kernel
theorem dX5_waysToSync_2 : decode cX5_waysToSync 2 = .ok (.iload 5, 2) := by decide +kernel
theorem dX5_waysToSync_4 : decode cX5_waysToSync 4 = .ok (.if_icmp .ge 12, 3) := by decide +kernel
theorem dX5_waysToSync_7 : decode cX5_waysToSync 7 = .ok (.iload 6, 2) := by decide +kernel
theorem dX5_waysToSync_9 : decode cX5_waysToSync 9 = .ok (.iconst 1, 1) := by decide +kernel
theorem dX5_waysToSync_10 : decode cX5_waysToSync 10 = .ok (.iadd, 1) := by decide +kernel
theorem dX5_waysToSync_11 : decode cX5_waysToSync 11 = .ok (.aload_n 1, 1) := by decide +kernel
theorem dX5_waysToSync_12 : decode cX5_waysToSync 12 = .ok (.arraylength, 1) := by decide +kernel
theorem dX5_waysToSync_13 : decode cX5_waysToSync 13 = .ok (.if_icmp .lt 11, 3) := by decide +kernel
theorem dX5_waysToSync_16 : decode cX5_waysToSync 16 = .ok (.aload_n 1, 1) := by decide +kernel
theorem dX5_waysToSync_17 : decode cX5_waysToSync 17 = .ok (.iload 6, 2) := by decide +kernel
theorem dX5_waysToSync_19 : decode cX5_waysToSync 19 = .ok (.aaload, 1) := by decide +kernel
theorem dX5_waysToSync_20 : decode cX5_waysToSync 20 = .ok (.invokevirtual 208, 3) := by decide +kernel
theorem dX5_waysToSync_23 : decode cX5_waysToSync 23 = .ok (.ireturn, 1) := by decide +kernel
theorem dX5_waysToSync_24 : decode cX5_waysToSync 24 = .ok (.lload_n 2, 1) := by decide +kernel
theorem dX5_waysToSync_25 : decode cX5_waysToSync 25 = .ok (.bipush 14, 2) := by decide +kernel
theorem dX5_waysToSync_27 : decode cX5_waysToSync 27 = .ok (.iconst 3, 1) := by decide +kernel
theorem dX5_waysToSync_28 : decode cX5_waysToSync 28 = .ok (.iload 6, 2) := by decide +kernel
theorem dX5_waysToSync_30 : decode cX5_waysToSync 30 = .ok (.iconst 3, 1) := by decide +kernel
theorem dX5_waysToSync_31 : decode cX5_waysToSync 31 = .ok (.iand, 1) := by decide +kernel
theorem dX5_waysToSync_32 : decode cX5_waysToSync 32 = .ok (.isub, 1) := by decide +kernel
theorem dX5_waysToSync_33 : decode cX5_waysToSync 33 = .ok (.imul, 1) := by decide +kernel
theorem dX5_waysToSync_34 : decode cX5_waysToSync 34 = .ok (.lshr, 1) := by decide +kernel
theorem dX5_waysToSync_35 : decode cX5_waysToSync 35 = .ok (.lstore 7, 2) := by decide +kernel
theorem dX5_waysToSync_37 : decode cX5_waysToSync 37 = .ok (.aload_n 1, 1) := by decide +kernel
theorem dX5_waysToSync_38 : decode cX5_waysToSync 38 = .ok (.iload 6, 2) := by decide +kernel
theorem dX5_waysToSync_40 : decode cX5_waysToSync 40 = .ok (.iconst 1, 1) := by decide +kernel
theorem dX5_waysToSync_41 : decode cX5_waysToSync 41 = .ok (.iadd, 1) := by decide +kernel
theorem dX5_waysToSync_42 : decode cX5_waysToSync 42 = .ok (.aaload, 1) := by decide +kernel
theorem dX5_waysToSync_43 : decode cX5_waysToSync 43 = .ok (.astore 9, 2) := by decide +kernel
theorem dX5_waysToSync_45 : decode cX5_waysToSync 45 = .ok (.iconst 0, 1) := by decide +kernel
theorem dX5_waysToSync_46 : decode cX5_waysToSync 46 = .ok (.istore 10, 2) := by decide +kernel
theorem dX5_waysToSync_48 : decode cX5_waysToSync 48 = .ok (.iload 4, 2) := by decide +kernel
theorem dX5_waysToSync_50 : decode cX5_waysToSync 50 = .ok (.bipush 10, 2) := by decide +kernel
theorem dX5_waysToSync_52 : decode cX5_waysToSync 52 = .ok (.if_icmp .ge 47, 3) := by decide +kernel
theorem dX5_waysToSync_55 : decode cX5_waysToSync 55 = .ok (.aload 9, 2) := by decide +kernel
theorem dX5_waysToSync_57 : decode cX5_waysToSync 57 = .ok (.aload_n 1, 1) := by decide +kernel
theorem dX5_waysToSync_58 : decode cX5_waysToSync 58 = .ok (.iload 6, 2) := by decide +kernel
theorem dX5_waysToSync_60 : decode cX5_waysToSync 60 = .ok (.aaload, 1) := by decide +kernel
theorem dX5_waysToSync_61 : decode cX5_waysToSync 61 = .ok (.invokevirtual 266, 3) := by decide +kernel
theorem dX5_waysToSync_64 : decode cX5_waysToSync 64 = .ok (.aload 9, 2) := by decide +kernel
theorem dX5_waysToSync_66 : decode cX5_waysToSync 66 = .ok (.aload_n 0, 1) := by decide +kernel
theorem dX5_waysToSync_67 : decode cX5_waysToSync 67 = .ok (.lload 7, 2) := by decide +kernel
theorem dX5_waysToSync_69 : decode cX5_waysToSync 69 = .ok (.bipush 14, 2) := by decide +kernel
theorem dX5_waysToSync_71 : decode cX5_waysToSync 71 = .ok (.invokevirtual 204, 3) := by decide +kernel
theorem dX5_waysToSync_74 : decode cX5_waysToSync 74 = .ok (.iload 10, 2) := by decide +kernel
theorem dX5_waysToSync_76 : decode cX5_waysToSync 76 = .ok (.bipush 10, 2) := by decide +kernel
theorem dX5_waysToSync_78 : decode cX5_waysToSync 78 = .ok (.iload 4, 2) := by decide +kernel
theorem dX5_waysToSync_80 : decode cX5_waysToSync 80 = .ok (.isub, 1) := by decide +kernel
theorem dX5_waysToSync_81 : decode cX5_waysToSync 81 = .ok (.aload_n 0, 1) := by decide +kernel
theorem dX5_waysToSync_82 : decode cX5_waysToSync 82 = .ok (.aload_n 1, 1) := by decide +kernel
theorem dX5_waysToSync_83 : decode cX5_waysToSync 83 = .ok (.lload_n 2, 1) := by decide +kernel
theorem dX5_waysToSync_84 : decode cX5_waysToSync 84 = .ok (.iload 4, 2) := by decide +kernel
theorem dX5_waysToSync_86 : decode cX5_waysToSync 86 = .ok (.iload 5, 2) := by decide +kernel
theorem dX5_waysToSync_88 : decode cX5_waysToSync 88 = .ok (.iload 6, 2) := by decide +kernel
theorem dX5_waysToSync_90 : decode cX5_waysToSync 90 = .ok (.iconst 1, 1) := by decide +kernel
theorem dX5_waysToSync_91 : decode cX5_waysToSync 91 = .ok (.iadd, 1) := by decide +kernel
theorem dX5_waysToSync_92 : decode cX5_waysToSync 92 = .ok (.invokestatic 269, 3) := by decide +kernel
theorem dX5_waysToSync_95 : decode cX5_waysToSync 95 = .ok (.imul, 1) := by decide +kernel
theorem dX5_waysToSync_96 : decode cX5_waysToSync 96 = .ok (.iadd, 1) := by decide +kernel
theorem dX5_waysToSync_97 : decode cX5_waysToSync 97 = .ok (.istore 10, 2) := by decide +kernel
theorem dX5_waysToSync_99 : decode cX5_waysToSync 99 = .ok (.iload 4, 2) := by decide +kernel
theorem dX5_waysToSync_101 : decode cX5_waysToSync 101 = .ok (.ifCond .le 48, 3) := by decide +kernel
theorem dX5_waysToSync_104 : decode cX5_waysToSync 104 = .ok (.aload 9, 2) := by decide +kernel
theorem dX5_waysToSync_106 : decode cX5_waysToSync 106 = .ok (.aload_n 1, 1) := by decide +kernel
theorem dX5_waysToSync_107 : decode cX5_waysToSync 107 = .ok (.iload 6, 2) := by decide +kernel
theorem dX5_waysToSync_109 : decode cX5_waysToSync 109 = .ok (.aaload, 1) := by decide +kernel
theorem dX5_waysToSync_110 : decode cX5_waysToSync 110 = .ok (.invokevirtual 266, 3) := by decide +kernel
theorem dX5_waysToSync_113 : decode cX5_waysToSync 113 = .ok (.aload 9, 2) := by decide +kernel
theorem dX5_waysToSync_115 : decode cX5_waysToSync 115 = .ok (.aload_n 0, 1) := by decide +kernel
theorem dX5_waysToSync_116 : decode cX5_waysToSync 116 = .ok (.lload 7, 2) := by decide +kernel
theorem dX5_waysToSync_118 : decode cX5_waysToSync 118 = .ok (.ldc2_w 296, 3) := by decide +kernel
theorem dX5_waysToSync_121 : decode cX5_waysToSync 121 = .ok (.lxor, 1) := by decide +kernel
theorem dX5_waysToSync_122 : decode cX5_waysToSync 122 = .ok (.bipush 14, 2) := by decide +kernel
theorem dX5_waysToSync_124 : decode cX5_waysToSync 124 = .ok (.invokevirtual 204, 3) := by decide +kernel
theorem dX5_waysToSync_127 : decode cX5_waysToSync 127 = .ok (.iload 10, 2) := by decide +kernel
theorem dX5_waysToSync_129 : decode cX5_waysToSync 129 = .ok (.iload 4, 2) := by decide +kernel
theorem dX5_waysToSync_131 : decode cX5_waysToSync 131 = .ok (.aload_n 0, 1) := by decide +kernel
theorem dX5_waysToSync_132 : decode cX5_waysToSync 132 = .ok (.aload_n 1, 1) := by decide +kernel
theorem dX5_waysToSync_133 : decode cX5_waysToSync 133 = .ok (.lload_n 2, 1) := by decide +kernel
theorem dX5_waysToSync_134 : decode cX5_waysToSync 134 = .ok (.iload 4, 2) := by decide +kernel
theorem dX5_waysToSync_136 : decode cX5_waysToSync 136 = .ok (.iload 5, 2) := by decide +kernel
theorem dX5_waysToSync_138 : decode cX5_waysToSync 138 = .ok (.iload 6, 2) := by decide +kernel
theorem dX5_waysToSync_140 : decode cX5_waysToSync 140 = .ok (.iconst 1, 1) := by decide +kernel
theorem dX5_waysToSync_141 : decode cX5_waysToSync 141 = .ok (.iadd, 1) := by decide +kernel
theorem dX5_waysToSync_142 : decode cX5_waysToSync 142 = .ok (.invokestatic 269, 3) := by decide +kernel
theorem dX5_waysToSync_145 : decode cX5_waysToSync 145 = .ok (.imul, 1) := by decide +kernel
theorem dX5_waysToSync_146 : decode cX5_waysToSync 146 = .ok (.iadd, 1) := by decide +kernel
theorem dX5_waysToSync_147 : decode cX5_waysToSync 147 = .ok (.istore 10, 2) := by decide +kernel
theorem dX5_waysToSync_149 : decode cX5_waysToSync 149 = .ok (.iload 10, 2) := by decide +kernel
theorem dX5_waysToSync_151 : decode cX5_waysToSync 151 = .ok (.ireturn, 1) := by decide +kernel
theorem dX5_drawnWord_0 : decode cX5_drawnWord 0 = .ok (.aload_n 0, 1) := by decide +kernel
theorem dX5_drawnWord_1 : decode cX5_drawnWord 1 = .ok (.getfield 19, 3) := by decide +kernel
theorem dX5_drawnWord_4 : decode cX5_drawnWord 4 = .ok (.iload_n 2, 1) := by decide +kernel
theorem dX5_drawnWord_5 : decode cX5_drawnWord 5 = .ok (.iload_n 1, 1) := by decide +kernel
theorem dX5_drawnWord_6 : decode cX5_drawnWord 6 = .ok (.sipush 255, 3) := by decide +kernel
theorem dX5_drawnWord_9 : decode cX5_drawnWord 9 = .ok (.iand, 1) := by decide +kernel
theorem dX5_drawnWord_10 : decode cX5_drawnWord 10 = .ok (.invokevirtual 164, 3) := by decide +kernel
theorem dX5_drawnWord_13 : decode cX5_drawnWord 13 = .ok (.istore_n 3, 1) := by decide +kernel
theorem dX5_drawnWord_14 : decode cX5_drawnWord 14 = .ok (.iload_n 1, 1) := by decide +kernel
theorem dX5_drawnWord_15 : decode cX5_drawnWord 15 = .ok (.bipush 8, 2) := by decide +kernel
theorem dX5_drawnWord_17 : decode cX5_drawnWord 17 = .ok (.ishr, 1) := by decide +kernel
theorem dX5_drawnWord_18 : decode cX5_drawnWord 18 = .ok (.iconst 4, 1) := by decide +kernel
theorem dX5_drawnWord_19 : decode cX5_drawnWord 19 = .ok (.irem, 1) := by decide +kernel
theorem dX5_drawnWord_20 : decode cX5_drawnWord 20 = .ok (.ifCond .ne 17, 3) := by decide +kernel
theorem dX5_drawnWord_23 : decode cX5_drawnWord 23 = .ok (.iload_n 3, 1) := by decide +kernel
theorem dX5_drawnWord_24 : decode cX5_drawnWord 24 = .ok (.iconst 1, 1) := by decide +kernel
theorem dX5_drawnWord_25 : decode cX5_drawnWord 25 = .ok (.iload_n 1, 1) := by decide +kernel
theorem dX5_drawnWord_26 : decode cX5_drawnWord 26 = .ok (.bipush 12, 2) := by decide +kernel
theorem dX5_drawnWord_28 : decode cX5_drawnWord 28 = .ok (.ishr, 1) := by decide +kernel
theorem dX5_drawnWord_29 : decode cX5_drawnWord 29 = .ok (.bipush 14, 2) := by decide +kernel
theorem dX5_drawnWord_31 : decode cX5_drawnWord 31 = .ok (.irem, 1) := by decide +kernel
theorem dX5_drawnWord_32 : decode cX5_drawnWord 32 = .ok (.ishl, 1) := by decide +kernel
theorem dX5_drawnWord_33 : decode cX5_drawnWord 33 = .ok (.ixor, 1) := by decide +kernel
theorem dX5_drawnWord_34 : decode cX5_drawnWord 34 = .ok (.goto 4, 3) := by decide +kernel
theorem dX5_drawnWord_37 : decode cX5_drawnWord 37 = .ok (.iload_n 3, 1) := by decide +kernel
theorem dX5_drawnWord_38 : decode cX5_drawnWord 38 = .ok (.ireturn, 1) := by decide +kernel
theorem dX5_fraction_0 : decode cX5_fraction 0 = .ok (.iload_n 0, 1) := by decide +kernel
theorem dX5_fraction_1 : decode cX5_fraction 1 = .ok (.invokestatic 301, 3) := by decide +kernel
theorem dX5_fraction_4 : decode cX5_fraction 4 = .ok (.iload_n 1, 1) := by decide +kernel
theorem dX5_fraction_5 : decode cX5_fraction 5 = .ok (.invokestatic 304, 3) := by decide +kernel
theorem dX5_fraction_8 : decode cX5_fraction 8 = .ok (.istore_n 3, 1) := by decide +kernel
theorem dX5_fraction_9 : decode cX5_fraction 9 = .ok (.iload_n 3, 1) := by decide +kernel
theorem dX5_fraction_10 : decode cX5_fraction 10 = .ok (.iconst 1, 1) := by decide +kernel
theorem dX5_fraction_11 : decode cX5_fraction 11 = .ok (.if_icmp .ge 6, 3) := by decide +kernel
theorem dX5_fraction_14 : decode cX5_fraction 14 = .ok (.bipush (-9), 2) := by decide +kernel
theorem dX5_fraction_16 : decode cX5_fraction 16 = .ok (.ireturn, 1) := by decide +kernel
theorem dX5_fraction_17 : decode cX5_fraction 17 = .ok (.iload_n 2, 1) := by decide +kernel
theorem dX5_fraction_18 : decode cX5_fraction 18 = .ok (.ifCond .eq 9, 3) := by decide +kernel
theorem dX5_fraction_21 : decode cX5_fraction 21 = .ok (.iload_n 0, 1) := by decide +kernel
theorem dX5_fraction_22 : decode cX5_fraction 22 = .ok (.iload_n 3, 1) := by decide +kernel
theorem dX5_fraction_23 : decode cX5_fraction 23 = .ok (.idiv, 1) := by decide +kernel
theorem dX5_fraction_24 : decode cX5_fraction 24 = .ok (.goto 6, 3) := by decide +kernel
theorem dX5_fraction_27 : decode cX5_fraction 27 = .ok (.iload_n 1, 1) := by decide +kernel
theorem dX5_fraction_28 : decode cX5_fraction 28 = .ok (.iload_n 3, 1) := by decide +kernel
theorem dX5_fraction_29 : decode cX5_fraction 29 = .ok (.idiv, 1) := by decide +kernel
theorem dX5_fraction_30 : decode cX5_fraction 30 = .ok (.ireturn, 1) := by decide +kernel
theorem dX5_greatestDivisor_0 : decode cX5_greatestDivisor 0 = .ok (.iload_n 0, 1) := by decide +kernel
theorem dX5_greatestDivisor_1 : decode cX5_greatestDivisor 1 = .ok (.istore_n 2, 1) := by decide +kernel
theorem dX5_greatestDivisor_2 : decode cX5_greatestDivisor 2 = .ok (.iload_n 1, 1) := by decide +kernel
theorem dX5_greatestDivisor_3 : decode cX5_greatestDivisor 3 = .ok (.istore_n 3, 1) := by decide +kernel
theorem dX5_greatestDivisor_4 : decode cX5_greatestDivisor 4 = .ok (.iconst 0, 1) := by decide +kernel
theorem dX5_greatestDivisor_5 : decode cX5_greatestDivisor 5 = .ok (.istore 4, 2) := by decide +kernel
theorem dX5_greatestDivisor_7 : decode cX5_greatestDivisor 7 = .ok (.iload 4, 2) := by decide +kernel
theorem dX5_greatestDivisor_9 : decode cX5_greatestDivisor 9 = .ok (.bipush 64, 2) := by decide +kernel
theorem dX5_greatestDivisor_11 : decode cX5_greatestDivisor 11 = .ok (.if_icmp .ge 23, 3) := by decide +kernel
theorem dX5_greatestDivisor_14 : decode cX5_greatestDivisor 14 = .ok (.iload_n 3, 1) := by decide +kernel
theorem dX5_greatestDivisor_15 : decode cX5_greatestDivisor 15 = .ok (.ifCond .eq 19, 3) := by decide +kernel
theorem dX5_greatestDivisor_18 : decode cX5_greatestDivisor 18 = .ok (.iload_n 2, 1) := by decide +kernel
theorem dX5_greatestDivisor_19 : decode cX5_greatestDivisor 19 = .ok (.iload_n 3, 1) := by decide +kernel
theorem dX5_greatestDivisor_20 : decode cX5_greatestDivisor 20 = .ok (.irem, 1) := by decide +kernel
theorem dX5_greatestDivisor_21 : decode cX5_greatestDivisor 21 = .ok (.istore 5, 2) := by decide +kernel
theorem dX5_greatestDivisor_23 : decode cX5_greatestDivisor 23 = .ok (.iload_n 3, 1) := by decide +kernel
theorem dX5_greatestDivisor_24 : decode cX5_greatestDivisor 24 = .ok (.istore_n 2, 1) := by decide +kernel
theorem dX5_greatestDivisor_25 : decode cX5_greatestDivisor 25 = .ok (.iload 5, 2) := by decide +kernel
theorem dX5_greatestDivisor_27 : decode cX5_greatestDivisor 27 = .ok (.istore_n 3, 1) := by decide +kernel
theorem dX5_greatestDivisor_28 : decode cX5_greatestDivisor 28 = .ok (.iinc 4 1, 3) := by decide +kernel
theorem dX5_greatestDivisor_31 : decode cX5_greatestDivisor 31 = .ok (.goto (-24), 3) := by decide +kernel
theorem dX5_greatestDivisor_34 : decode cX5_greatestDivisor 34 = .ok (.iload_n 2, 1) := by decide +kernel
theorem dX5_greatestDivisor_35 : decode cX5_greatestDivisor 35 = .ok (.ireturn, 1) := by decide +kernel
