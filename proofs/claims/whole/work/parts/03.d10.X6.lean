theorem dX6_slips_126 : decode cX6_slips 126 = .ok (.iload 5, 2) := by decide +kernel
theorem dX6_slips_128 : decode cX6_slips 128 = .ok (.ireturn, 1) := by decide +kernel
theorem dX6_note_0 : decode cX6_note 0 = .ok (.iconst 0, 1) := by decide +kernel
theorem dX6_note_1 : decode cX6_note 1 = .ok (.istore_n 1, 1) := by decide +kernel
theorem dX6_note_2 : decode cX6_note 2 = .ok (.iload_n 1, 1) := by decide +kernel
theorem dX6_note_3 : decode cX6_note 3 = .ok (.bipush 47, 2) := by decide +kernel
theorem dX6_note_5 : decode cX6_note 5 = .ok (.if_icmp .ge 29, 3) := by decide +kernel
theorem dX6_note_8 : decode cX6_note 8 = .ok (.aload_n 0, 1) := by decide +kernel
theorem dX6_note_9 : decode cX6_note 9 = .ok (.getfield 28, 3) := by decide +kernel
theorem dX6_note_12 : decode cX6_note 12 = .ok (.bipush 47, 2) := by decide +kernel
theorem dX6_note_14 : decode cX6_note 14 = .ok (.aload_n 0, 1) := by decide +kernel
theorem dX6_note_15 : decode cX6_note 15 = .ok (.getfield 198, 3) := by decide +kernel
theorem dX6_note_18 : decode cX6_note 18 = .ok (.imul, 1) := by decide +kernel
theorem dX6_note_19 : decode cX6_note 19 = .ok (.iload_n 1, 1) := by decide +kernel
theorem dX6_note_20 : decode cX6_note 20 = .ok (.iadd, 1) := by decide +kernel
theorem dX6_note_21 : decode cX6_note 21 = .ok (.aload_n 0, 1) := by decide +kernel
theorem dX6_note_22 : decode cX6_note 22 = .ok (.getfield 22, 3) := by decide +kernel
theorem dX6_note_25 : decode cX6_note 25 = .ok (.iload_n 1, 1) := by decide +kernel
theorem dX6_note_26 : decode cX6_note 26 = .ok (.iaload, 1) := by decide +kernel
theorem dX6_note_27 : decode cX6_note 27 = .ok (.iastore, 1) := by decide +kernel
theorem dX6_note_28 : decode cX6_note 28 = .ok (.iinc 1 1, 3) := by decide +kernel
theorem dX6_note_31 : decode cX6_note 31 = .ok (.goto (-29), 3) := by decide +kernel
theorem dX6_note_34 : decode cX6_note 34 = .ok (.aload_n 0, 1) := by decide +kernel
theorem dX6_note_35 : decode cX6_note 35 = .ok (.aload_n 0, 1) := by decide +kernel
theorem dX6_note_36 : decode cX6_note 36 = .ok (.getfield 198, 3) := by decide +kernel
theorem dX6_note_39 : decode cX6_note 39 = .ok (.iconst 1, 1) := by decide +kernel
theorem dX6_note_40 : decode cX6_note 40 = .ok (.iadd, 1) := by decide +kernel
theorem dX6_note_41 : decode cX6_note 41 = .ok (.bipush 14, 2) := by decide +kernel
theorem dX6_note_43 : decode cX6_note 43 = .ok (.irem, 1) := by decide +kernel
theorem dX6_note_44 : decode cX6_note 44 = .ok (.putfield 198, 3) := by decide +kernel
theorem dX6_note_47 : decode cX6_note 47 = .ok (.aload_n 0, 1) := by decide +kernel
theorem dX6_note_48 : decode cX6_note 48 = .ok (.aload_n 0, 1) := by decide +kernel
theorem dX6_note_49 : decode cX6_note 49 = .ok (.getfield 118, 3) := by decide +kernel
theorem dX6_note_52 : decode cX6_note 52 = .ok (.bipush 14, 2) := by decide +kernel
theorem dX6_note_54 : decode cX6_note 54 = .ok (.if_icmp .ge 12, 3) := by decide +kernel
theorem dX6_note_57 : decode cX6_note 57 = .ok (.aload_n 0, 1) := by decide +kernel
theorem dX6_note_58 : decode cX6_note 58 = .ok (.getfield 118, 3) := by decide +kernel
theorem dX6_note_61 : decode cX6_note 61 = .ok (.iconst 1, 1) := by decide +kernel
theorem dX6_note_62 : decode cX6_note 62 = .ok (.iadd, 1) := by decide +kernel
theorem dX6_note_63 : decode cX6_note 63 = .ok (.goto 5, 3) := by decide +kernel
theorem dX6_note_66 : decode cX6_note 66 = .ok (.bipush 14, 2) := by decide +kernel
theorem dX6_note_68 : decode cX6_note 68 = .ok (.putfield 118, 3) := by decide +kernel
theorem dX6_note_71 : decode cX6_note 71 = .ok (.return_, 1) := by decide +kernel
theorem dX6_bits_0 : decode cX6_bits 0 = .ok (.iload_n 1, 1) := by decide +kernel
theorem dX6_bits_1 : decode cX6_bits 1 = .ok (.i2l, 1) := by decide +kernel
theorem dX6_bits_2 : decode cX6_bits 2 = .ok (.lconst 1, 1) := by decide +kernel
theorem dX6_bits_3 : decode cX6_bits 3 = .ok (.ldc2_w 201, 3) := by decide +kernel
theorem dX6_bits_6 : decode cX6_bits 6 = .ok (.invokestatic 68, 3) := by decide +kernel
theorem dX6_bits_9 : decode cX6_bits 9 = .ok (.ifCond .eq 18, 3) := by decide +kernel
theorem dX6_bits_12 : decode cX6_bits 12 = .ok (.iload_n 2, 1) := by decide +kernel
theorem dX6_bits_13 : decode cX6_bits 13 = .ok (.i2l, 1) := by decide +kernel
theorem dX6_bits_14 : decode cX6_bits 14 = .ok (.lconst 0, 1) := by decide +kernel
theorem dX6_bits_15 : decode cX6_bits 15 = .ok (.iconst 1, 1) := by decide +kernel
theorem dX6_bits_16 : decode cX6_bits 16 = .ok (.iload_n 1, 1) := by decide +kernel
theorem dX6_bits_17 : decode cX6_bits 17 = .ok (.ishl, 1) := by decide +kernel
theorem dX6_bits_18 : decode cX6_bits 18 = .ok (.iconst 1, 1) := by decide +kernel
theorem dX6_bits_19 : decode cX6_bits 19 = .ok (.isub, 1) := by decide +kernel
theorem dX6_bits_20 : decode cX6_bits 20 = .ok (.i2l, 1) := by decide +kernel
theorem dX6_bits_21 : decode cX6_bits 21 = .ok (.invokestatic 68, 3) := by decide +kernel
theorem dX6_bits_24 : decode cX6_bits 24 = .ok (.ifCond .ne 6, 3) := by decide +kernel
theorem dX6_bits_27 : decode cX6_bits 27 = .ok (.bipush (-2), 2) := by decide +kernel
theorem dX6_bits_29 : decode cX6_bits 29 = .ok (.ireturn, 1) := by decide +kernel
theorem dX6_bits_30 : decode cX6_bits 30 = .ok (.aload_n 0, 1) := by decide +kernel
theorem dX6_bits_31 : decode cX6_bits 31 = .ok (.invokevirtual 203, 3) := by decide +kernel
theorem dX6_bits_34 : decode cX6_bits 34 = .ok (.aload_n 0, 1) := by decide +kernel
theorem dX6_bits_35 : decode cX6_bits 35 = .ok (.aload_n 0, 1) := by decide +kernel
theorem dX6_bits_36 : decode cX6_bits 36 = .ok (.getfield 22, 3) := by decide +kernel
theorem dX6_bits_39 : decode cX6_bits 39 = .ok (.iload_n 1, 1) := by decide +kernel
theorem dX6_bits_40 : decode cX6_bits 40 = .ok (.iload_n 2, 1) := by decide +kernel
theorem dX6_bits_41 : decode cX6_bits 41 = .ok (.invokevirtual 171, 3) := by decide +kernel
theorem dX6_bits_44 : decode cX6_bits 44 = .ok (.aload_n 0, 1) := by decide +kernel
theorem dX6_bits_45 : decode cX6_bits 45 = .ok (.getfield 22, 3) := by decide +kernel
theorem dX6_bits_48 : decode cX6_bits 48 = .ok (.iconst 3, 1) := by decide +kernel
theorem dX6_bits_49 : decode cX6_bits 49 = .ok (.iaload, 1) := by decide +kernel
theorem dX6_bits_50 : decode cX6_bits 50 = .ok (.ireturn, 1) := by decide +kernel
theorem dX6_hear_0 : decode cX6_hear 0 = .ok (.iload_n 1, 1) := by decide +kernel
theorem dX6_hear_1 : decode cX6_hear 1 = .ok (.invokestatic 183, 3) := by decide +kernel
theorem dX6_hear_4 : decode cX6_hear 4 = .ok (.ifCond .ne 5, 3) := by decide +kernel
theorem dX6_hear_7 : decode cX6_hear 7 = .ok (.iconst (-1), 1) := by decide +kernel
theorem dX6_hear_8 : decode cX6_hear 8 = .ok (.ireturn, 1) := by decide +kernel
theorem dX6_hear_9 : decode cX6_hear 9 = .ok (.iload_n 2, 1) := by decide +kernel
theorem dX6_hear_10 : decode cX6_hear 10 = .ok (.i2l, 1) := by decide +kernel
theorem dX6_hear_11 : decode cX6_hear 11 = .ok (.lconst 0, 1) := by decide +kernel
theorem dX6_hear_12 : decode cX6_hear 12 = .ok (.ldc2_w 92, 3) := by decide +kernel
theorem dX6_hear_15 : decode cX6_hear 15 = .ok (.invokestatic 68, 3) := by decide +kernel
theorem dX6_hear_18 : decode cX6_hear 18 = .ok (.ifCond .eq 15, 3) := by decide +kernel
theorem dX6_hear_21 : decode cX6_hear 21 = .ok (.iload_n 3, 1) := by decide +kernel
theorem dX6_hear_22 : decode cX6_hear 22 = .ok (.i2l, 1) := by decide +kernel
theorem dX6_hear_23 : decode cX6_hear 23 = .ok (.lconst 0, 1) := by decide +kernel
theorem dX6_hear_24 : decode cX6_hear 24 = .ok (.ldc2_w 193, 3) := by decide +kernel
theorem dX6_hear_27 : decode cX6_hear 27 = .ok (.invokestatic 68, 3) := by decide +kernel
theorem dX6_hear_30 : decode cX6_hear 30 = .ok (.ifCond .ne 6, 3) := by decide +kernel
theorem dX6_hear_33 : decode cX6_hear 33 = .ok (.bipush (-2), 2) := by decide +kernel
theorem dX6_hear_35 : decode cX6_hear 35 = .ok (.ireturn, 1) := by decide +kernel
theorem dX6_hear_36 : decode cX6_hear 36 = .ok (.aload_n 0, 1) := by decide +kernel
theorem dX6_hear_37 : decode cX6_hear 37 = .ok (.invokevirtual 203, 3) := by decide +kernel
theorem dX6_hear_40 : decode cX6_hear 40 = .ok (.aload_n 0, 1) := by decide +kernel
theorem dX6_hear_41 : decode cX6_hear 41 = .ok (.aload_n 0, 1) := by decide +kernel
theorem dX6_hear_42 : decode cX6_hear 42 = .ok (.getfield 22, 3) := by decide +kernel
theorem dX6_hear_45 : decode cX6_hear 45 = .ok (.bipush 14, 2) := by decide +kernel
theorem dX6_hear_47 : decode cX6_hear 47 = .ok (.aload_n 0, 1) := by decide +kernel
theorem dX6_hear_48 : decode cX6_hear 48 = .ok (.iload_n 1, 1) := by decide +kernel
theorem dX6_hear_49 : decode cX6_hear 49 = .ok (.iload_n 2, 1) := by decide +kernel
theorem dX6_hear_50 : decode cX6_hear 50 = .ok (.invokevirtual 168, 3) := by decide +kernel
theorem dX6_hear_53 : decode cX6_hear 53 = .ok (.iload_n 3, 1) := by decide +kernel
theorem dX6_hear_54 : decode cX6_hear 54 = .ok (.ixor, 1) := by decide +kernel
theorem dX6_hear_55 : decode cX6_hear 55 = .ok (.invokevirtual 171, 3) := by decide +kernel
theorem dX6_hear_58 : decode cX6_hear 58 = .ok (.aload_n 0, 1) := by decide +kernel
theorem dX6_hear_59 : decode cX6_hear 59 = .ok (.getfield 22, 3) := by decide +kernel
theorem dX6_hear_62 : decode cX6_hear 62 = .ok (.iconst 3, 1) := by decide +kernel
theorem dX6_hear_63 : decode cX6_hear 63 = .ok (.iaload, 1) := by decide +kernel
theorem dX6_hear_64 : decode cX6_hear 64 = .ok (.ireturn, 1) := by decide +kernel
theorem dX6_group_0 : decode cX6_group 0 = .ok (.iload_n 2, 1) := by decide +kernel
theorem dX6_group_1 : decode cX6_group 1 = .ok (.i2l, 1) := by decide +kernel
theorem dX6_group_2 : decode cX6_group 2 = .ok (.lconst 1, 1) := by decide +kernel
theorem dX6_group_3 : decode cX6_group 3 = .ok (.ldc2_w 97, 3) := by decide +kernel
theorem dX6_group_6 : decode cX6_group 6 = .ok (.invokestatic 68, 3) := by decide +kernel
theorem dX6_group_9 : decode cX6_group 9 = .ok (.ifCond .ne 6, 3) := by decide +kernel
theorem dX6_group_12 : decode cX6_group 12 = .ok (.bipush (-2), 2) := by decide +kernel
theorem dX6_group_14 : decode cX6_group 14 = .ok (.ireturn, 1) := by decide +kernel
theorem dX6_group_15 : decode cX6_group 15 = .ok (.aload_n 0, 1) := by decide +kernel
theorem dX6_group_16 : decode cX6_group 16 = .ok (.invokevirtual 203, 3) := by decide +kernel
theorem dX6_group_19 : decode cX6_group 19 = .ok (.aload_n 0, 1) := by decide +kernel
theorem dX6_group_20 : decode cX6_group 20 = .ok (.getfield 22, 3) := by decide +kernel
theorem dX6_group_23 : decode cX6_group 23 = .ok (.bipush 10, 2) := by decide +kernel
theorem dX6_group_25 : decode cX6_group 25 = .ok (.iaload, 1) := by decide +kernel
theorem dX6_group_26 : decode cX6_group 26 = .ok (.aload_n 0, 1) := by decide +kernel
theorem dX6_group_27 : decode cX6_group 27 = .ok (.getfield 22, 3) := by decide +kernel
theorem dX6_group_30 : decode cX6_group 30 = .ok (.bipush 11, 2) := by decide +kernel
theorem dX6_group_32 : decode cX6_group 32 = .ok (.iaload, 1) := by decide +kernel
theorem dX6_group_33 : decode cX6_group 33 = .ok (.iadd, 1) := by decide +kernel
theorem dX6_group_34 : decode cX6_group 34 = .ok (.istore_n 3, 1) := by decide +kernel
theorem dX6_group_35 : decode cX6_group 35 = .ok (.iconst 0, 1) := by decide +kernel
theorem dX6_group_36 : decode cX6_group 36 = .ok (.istore 4, 2) := by decide +kernel
theorem dX6_group_38 : decode cX6_group 38 = .ok (.iload 4, 2) := by decide +kernel
theorem dX6_group_40 : decode cX6_group 40 = .ok (.iload_n 2, 1) := by decide +kernel
theorem dX6_group_41 : decode cX6_group 41 = .ok (.if_icmp .ge 19, 3) := by decide +kernel
theorem dX6_group_44 : decode cX6_group 44 = .ok (.aload_n 0, 1) := by decide +kernel
theorem dX6_group_45 : decode cX6_group 45 = .ok (.aload_n 0, 1) := by decide +kernel
theorem dX6_group_46 : decode cX6_group 46 = .ok (.getfield 22, 3) := by decide +kernel
theorem dX6_group_49 : decode cX6_group 49 = .ok (.iload_n 1, 1) := by decide +kernel
theorem dX6_group_50 : decode cX6_group 50 = .ok (.iconst 0, 1) := by decide +kernel
theorem dX6_group_51 : decode cX6_group 51 = .ok (.invokevirtual 206, 3) := by decide +kernel
theorem dX6_group_54 : decode cX6_group 54 = .ok (.iinc 4 1, 3) := by decide +kernel
theorem dX6_group_57 : decode cX6_group 57 = .ok (.goto (-19), 3) := by decide +kernel
theorem dX6_group_60 : decode cX6_group 60 = .ok (.aload_n 0, 1) := by decide +kernel
theorem dX6_group_61 : decode cX6_group 61 = .ok (.getfield 22, 3) := by decide +kernel
theorem dX6_group_64 : decode cX6_group 64 = .ok (.bipush 10, 2) := by decide +kernel
theorem dX6_group_66 : decode cX6_group 66 = .ok (.iaload, 1) := by decide +kernel
theorem dX6_group_67 : decode cX6_group 67 = .ok (.aload_n 0, 1) := by decide +kernel
theorem dX6_group_68 : decode cX6_group 68 = .ok (.getfield 22, 3) := by decide +kernel
theorem dX6_group_71 : decode cX6_group 71 = .ok (.bipush 11, 2) := by decide +kernel
theorem dX6_group_73 : decode cX6_group 73 = .ok (.iaload, 1) := by decide +kernel
theorem dX6_group_74 : decode cX6_group 74 = .ok (.iadd, 1) := by decide +kernel
theorem dX6_group_75 : decode cX6_group 75 = .ok (.iload_n 3, 1) := by decide +kernel
theorem dX6_group_76 : decode cX6_group 76 = .ok (.isub, 1) := by decide +kernel
theorem dX6_group_77 : decode cX6_group 77 = .ok (.ireturn, 1) := by decide +kernel
theorem dX6_resetOn_0 : decode cX6_resetOn 0 = .ok (.aload_n 0, 1) := by decide +kernel
theorem dX6_resetOn_1 : decode cX6_resetOn 1 = .ok (.iconst 3, 1) := by decide +kernel
theorem dX6_resetOn_2 : decode cX6_resetOn 2 = .ok (.iaload, 1) := by decide +kernel
theorem dX6_resetOn_3 : decode cX6_resetOn 3 = .ok (.iconst 1, 1) := by decide +kernel
theorem dX6_resetOn_4 : decode cX6_resetOn 4 = .ok (.if_icmp .ne 7, 3) := by decide +kernel
theorem dX6_resetOn_7 : decode cX6_resetOn 7 = .ok (.aload_n 0, 1) := by decide +kernel
theorem dX6_resetOn_8 : decode cX6_resetOn 8 = .ok (.invokestatic 153, 3) := by decide +kernel
theorem dX6_resetOn_11 : decode cX6_resetOn 11 = .ok (.aload_n 0, 1) := by decide +kernel
theorem dX6_resetOn_12 : decode cX6_resetOn 12 = .ok (.invokestatic 121, 3) := by decide +kernel
theorem dX6_resetOn_15 : decode cX6_resetOn 15 = .ok (.return_, 1) := by decide +kernel
theorem dX6_reset_0 : decode cX6_reset 0 = .ok (.aload_n 0, 1) := by decide +kernel
theorem dX6_reset_1 : decode cX6_reset 1 = .ok (.invokevirtual 203, 3) := by decide +kernel
theorem dX6_reset_4 : decode cX6_reset 4 = .ok (.aload_n 0, 1) := by decide +kernel
theorem dX6_reset_5 : decode cX6_reset 5 = .ok (.getfield 22, 3) := by decide +kernel
theorem dX6_reset_8 : decode cX6_reset 8 = .ok (.iconst 3, 1) := by decide +kernel
theorem dX6_reset_9 : decode cX6_reset 9 = .ok (.iaload, 1) := by decide +kernel
theorem dX6_reset_10 : decode cX6_reset 10 = .ok (.istore_n 1, 1) := by decide +kernel
theorem dX6_reset_11 : decode cX6_reset 11 = .ok (.aload_n 0, 1) := by decide +kernel
theorem dX6_reset_12 : decode cX6_reset 12 = .ok (.getfield 22, 3) := by decide +kernel
theorem dX6_reset_15 : decode cX6_reset 15 = .ok (.invokestatic 209, 3) := by decide +kernel
theorem dX6_reset_18 : decode cX6_reset 18 = .ok (.iload_n 1, 1) := by decide +kernel
theorem dX6_reset_19 : decode cX6_reset 19 = .ok (.ireturn, 1) := by decide +kernel
theorem dX6_undo_0 : decode cX6_undo 0 = .ok (.aload_n 0, 1) := by decide +kernel
theorem dX6_undo_1 : decode cX6_undo 1 = .ok (.getfield 118, 3) := by decide +kernel
theorem dX6_undo_4 : decode cX6_undo 4 = .ok (.ifCond .ne 6, 3) := by decide +kernel
theorem dX6_undo_7 : decode cX6_undo 7 = .ok (.bipush (-3), 2) := by decide +kernel
theorem dX6_undo_9 : decode cX6_undo 9 = .ok (.ireturn, 1) := by decide +kernel
theorem dX6_undo_10 : decode cX6_undo 10 = .ok (.aload_n 0, 1) := by decide +kernel
theorem dX6_undo_11 : decode cX6_undo 11 = .ok (.dup, 1) := by decide +kernel
theorem dX6_undo_12 : decode cX6_undo 12 = .ok (.getfield 118, 3) := by decide +kernel
theorem dX6_undo_15 : decode cX6_undo 15 = .ok (.iconst 1, 1) := by decide +kernel
theorem dX6_undo_16 : decode cX6_undo 16 = .ok (.isub, 1) := by decide +kernel
theorem dX6_undo_17 : decode cX6_undo 17 = .ok (.putfield 118, 3) := by decide +kernel
theorem dX6_undo_20 : decode cX6_undo 20 = .ok (.aload_n 0, 1) := by decide +kernel
theorem dX6_undo_21 : decode cX6_undo 21 = .ok (.aload_n 0, 1) := by decide +kernel
theorem dX6_undo_22 : decode cX6_undo 22 = .ok (.getfield 198, 3) := by decide +kernel
theorem dX6_undo_25 : decode cX6_undo 25 = .ok (.bipush 14, 2) := by decide +kernel
theorem dX6_undo_27 : decode cX6_undo 27 = .ok (.iadd, 1) := by decide +kernel
theorem dX6_undo_28 : decode cX6_undo 28 = .ok (.iconst 1, 1) := by decide +kernel
theorem dX6_undo_29 : decode cX6_undo 29 = .ok (.isub, 1) := by decide +kernel
theorem dX6_undo_30 : decode cX6_undo 30 = .ok (.bipush 14, 2) := by decide +kernel
theorem dX6_undo_32 : decode cX6_undo 32 = .ok (.irem, 1) := by decide +kernel
theorem dX6_undo_33 : decode cX6_undo 33 = .ok (.putfield 198, 3) := by decide +kernel
theorem dX6_undo_36 : decode cX6_undo 36 = .ok (.iconst 0, 1) := by decide +kernel
theorem dX6_undo_37 : decode cX6_undo 37 = .ok (.istore_n 1, 1) := by decide +kernel
theorem dX6_undo_38 : decode cX6_undo 38 = .ok (.iload_n 1, 1) := by decide +kernel
theorem dX6_undo_39 : decode cX6_undo 39 = .ok (.bipush 47, 2) := by decide +kernel
theorem dX6_undo_41 : decode cX6_undo 41 = .ok (.if_icmp .ge 29, 3) := by decide +kernel
theorem dX6_undo_44 : decode cX6_undo 44 = .ok (.aload_n 0, 1) := by decide +kernel
theorem dX6_undo_45 : decode cX6_undo 45 = .ok (.getfield 22, 3) := by decide +kernel
theorem dX6_undo_48 : decode cX6_undo 48 = .ok (.iload_n 1, 1) := by decide +kernel
theorem dX6_undo_49 : decode cX6_undo 49 = .ok (.aload_n 0, 1) := by decide +kernel
theorem dX6_undo_50 : decode cX6_undo 50 = .ok (.getfield 28, 3) := by decide +kernel
theorem dX6_undo_53 : decode cX6_undo 53 = .ok (.bipush 47, 2) := by decide +kernel
theorem dX6_undo_55 : decode cX6_undo 55 = .ok (.aload_n 0, 1) := by decide +kernel
theorem dX6_undo_56 : decode cX6_undo 56 = .ok (.getfield 198, 3) := by decide +kernel
theorem dX6_undo_59 : decode cX6_undo 59 = .ok (.imul, 1) := by decide +kernel
theorem dX6_undo_60 : decode cX6_undo 60 = .ok (.iload_n 1, 1) := by decide +kernel
theorem dX6_undo_61 : decode cX6_undo 61 = .ok (.iadd, 1) := by decide +kernel
theorem dX6_undo_62 : decode cX6_undo 62 = .ok (.iaload, 1) := by decide +kernel
theorem dX6_undo_63 : decode cX6_undo 63 = .ok (.iastore, 1) := by decide +kernel
theorem dX6_undo_64 : decode cX6_undo 64 = .ok (.iinc 1 1, 3) := by decide +kernel
theorem dX6_undo_67 : decode cX6_undo 67 = .ok (.goto (-29), 3) := by decide +kernel
theorem dX6_undo_70 : decode cX6_undo 70 = .ok (.aload_n 0, 1) := by decide +kernel
theorem dX6_undo_71 : decode cX6_undo 71 = .ok (.getfield 118, 3) := by decide +kernel
theorem dX6_undo_74 : decode cX6_undo 74 = .ok (.ireturn, 1) := by decide +kernel
theorem dX6_ahead_0 : decode cX6_ahead 0 = .ok (.iload_n 2, 1) := by decide +kernel
theorem dX6_ahead_1 : decode cX6_ahead 1 = .ok (.i2l, 1) := by decide +kernel
theorem dX6_ahead_2 : decode cX6_ahead 2 = .ok (.lconst 0, 1) := by decide +kernel
theorem dX6_ahead_3 : decode cX6_ahead 3 = .ok (.ldc2_w 97, 3) := by decide +kernel
theorem dX6_ahead_6 : decode cX6_ahead 6 = .ok (.invokestatic 68, 3) := by decide +kernel
theorem dX6_ahead_9 : decode cX6_ahead 9 = .ok (.ifCond .eq 17, 3) := by decide +kernel
theorem dX6_ahead_12 : decode cX6_ahead 12 = .ok (.iload_n 3, 1) := by decide +kernel
theorem dX6_ahead_13 : decode cX6_ahead 13 = .ok (.i2l, 1) := by decide +kernel
theorem dX6_ahead_14 : decode cX6_ahead 14 = .ok (.ldc2_w 66, 3) := by decide +kernel
theorem dX6_ahead_17 : decode cX6_ahead 17 = .ok (.ldc2_w 177, 3) := by decide +kernel
theorem dX6_ahead_20 : decode cX6_ahead 20 = .ok (.invokestatic 68, 3) := by decide +kernel
theorem dX6_ahead_23 : decode cX6_ahead 23 = .ok (.ifCond .ne 6, 3) := by decide +kernel
theorem dX6_ahead_26 : decode cX6_ahead 26 = .ok (.bipush (-2), 2) := by decide +kernel
theorem dX6_ahead_28 : decode cX6_ahead 28 = .ok (.ireturn, 1) := by decide +kernel
theorem dX6_ahead_29 : decode cX6_ahead 29 = .ok (.aload_n 0, 1) := by decide +kernel
theorem dX6_ahead_30 : decode cX6_ahead 30 = .ok (.getfield 22, 3) := by decide +kernel
theorem dX6_ahead_33 : decode cX6_ahead 33 = .ok (.aload_n 0, 1) := by decide +kernel
theorem dX6_ahead_34 : decode cX6_ahead 34 = .ok (.getfield 25, 3) := by decide +kernel
theorem dX6_ahead_37 : decode cX6_ahead 37 = .ok (.invokestatic 212, 3) := by decide +kernel
theorem dX6_ahead_40 : decode cX6_ahead 40 = .ok (.iconst 0, 1) := by decide +kernel
theorem dX6_ahead_41 : decode cX6_ahead 41 = .ok (.istore 4, 2) := by decide +kernel
theorem dX6_ahead_43 : decode cX6_ahead 43 = .ok (.iload 4, 2) := by decide +kernel
theorem dX6_ahead_45 : decode cX6_ahead 45 = .ok (.iload_n 2, 1) := by decide +kernel
theorem dX6_ahead_46 : decode cX6_ahead 46 = .ok (.if_icmp .ge 19, 3) := by decide +kernel
theorem dX6_ahead_49 : decode cX6_ahead 49 = .ok (.aload_n 0, 1) := by decide +kernel
theorem dX6_ahead_50 : decode cX6_ahead 50 = .ok (.aload_n 0, 1) := by decide +kernel
theorem dX6_ahead_51 : decode cX6_ahead 51 = .ok (.getfield 25, 3) := by decide +kernel
theorem dX6_ahead_54 : decode cX6_ahead 54 = .ok (.iload_n 1, 1) := by decide +kernel
theorem dX6_ahead_55 : decode cX6_ahead 55 = .ok (.iconst 0, 1) := by decide +kernel
theorem dX6_ahead_56 : decode cX6_ahead 56 = .ok (.invokevirtual 206, 3) := by decide +kernel
theorem dX6_ahead_59 : decode cX6_ahead 59 = .ok (.iinc 4 1, 3) := by decide +kernel
theorem dX6_ahead_62 : decode cX6_ahead 62 = .ok (.goto (-19), 3) := by decide +kernel
theorem dX6_ahead_65 : decode cX6_ahead 65 = .ok (.aload_n 0, 1) := by decide +kernel
theorem dX6_ahead_66 : decode cX6_ahead 66 = .ok (.aload_n 0, 1) := by decide +kernel
theorem dX6_ahead_67 : decode cX6_ahead 67 = .ok (.getfield 25, 3) := by decide +kernel
theorem dX6_ahead_70 : decode cX6_ahead 70 = .ok (.iload_n 3, 1) := by decide +kernel
theorem dX6_ahead_71 : decode cX6_ahead 71 = .ok (.invokevirtual 179, 3) := by decide +kernel
theorem dX6_ahead_74 : decode cX6_ahead 74 = .ok (.ireturn, 1) := by decide +kernel
theorem dX6_needs_0 : decode cX6_needs 0 = .ok (.aload_n 0, 1) := by decide +kernel
theorem dX6_needs_1 : decode cX6_needs 1 = .ok (.getfield 22, 3) := by decide +kernel
theorem dX6_needs_4 : decode cX6_needs 4 = .ok (.aload_n 0, 1) := by decide +kernel
theorem dX6_needs_5 : decode cX6_needs 5 = .ok (.getfield 25, 3) := by decide +kernel
theorem dX6_needs_8 : decode cX6_needs 8 = .ok (.invokestatic 212, 3) := by decide +kernel
theorem dX6_needs_11 : decode cX6_needs 11 = .ok (.iconst 0, 1) := by decide +kernel
theorem dX6_needs_12 : decode cX6_needs 12 = .ok (.istore_n 2, 1) := by decide +kernel
theorem dX6_needs_13 : decode cX6_needs 13 = .ok (.iload_n 2, 1) := by decide +kernel
theorem dX6_needs_14 : decode cX6_needs 14 = .ok (.bipush 10, 2) := by decide +kernel
theorem dX6_needs_16 : decode cX6_needs 16 = .ok (.if_icmp .ge 31, 3) := by decide +kernel
theorem dX6_needs_19 : decode cX6_needs 19 = .ok (.aload_n 0, 1) := by decide +kernel
theorem dX6_needs_20 : decode cX6_needs 20 = .ok (.getfield 25, 3) := by decide +kernel
theorem dX6_needs_23 : decode cX6_needs 23 = .ok (.iconst 3, 1) := by decide +kernel
theorem dX6_needs_24 : decode cX6_needs 24 = .ok (.iaload, 1) := by decide +kernel
theorem dX6_needs_25 : decode cX6_needs 25 = .ok (.iconst 1, 1) := by decide +kernel
theorem dX6_needs_26 : decode cX6_needs 26 = .ok (.if_icmp .ne 5, 3) := by decide +kernel
theorem dX6_needs_29 : decode cX6_needs 29 = .ok (.iload_n 2, 1) := by decide +kernel
theorem dX6_needs_30 : decode cX6_needs 30 = .ok (.ireturn, 1) := by decide +kernel
theorem dX6_needs_31 : decode cX6_needs 31 = .ok (.aload_n 0, 1) := by decide +kernel
theorem dX6_needs_32 : decode cX6_needs 32 = .ok (.aload_n 0, 1) := by decide +kernel
theorem dX6_needs_33 : decode cX6_needs 33 = .ok (.getfield 25, 3) := by decide +kernel
theorem dX6_needs_36 : decode cX6_needs 36 = .ok (.iload_n 1, 1) := by decide +kernel
theorem dX6_needs_37 : decode cX6_needs 37 = .ok (.iconst 0, 1) := by decide +kernel
theorem dX6_needs_38 : decode cX6_needs 38 = .ok (.invokevirtual 206, 3) := by decide +kernel
theorem dX6_needs_41 : decode cX6_needs 41 = .ok (.iinc 2 1, 3) := by decide +kernel
theorem dX6_needs_44 : decode cX6_needs 44 = .ok (.goto (-31), 3) := by decide +kernel
theorem dX6_needs_47 : decode cX6_needs 47 = .ok (.bipush (-9), 2) := by decide +kernel
theorem dX6_needs_49 : decode cX6_needs 49 = .ok (.ireturn, 1) := by decide +kernel
theorem dX6_judged_0 : decode cX6_judged 0 = .ok (.iload_n 1, 1) := by decide +kernel
theorem dX6_judged_1 : decode cX6_judged 1 = .ok (.tableswitch 234 1 6 #[39, 73, 102, 127, 187, 213], 39) := by decide +kernel
theorem dX6_judged_40 : decode cX6_judged 40 = .ok (.iload_n 2, 1) := by decide +kernel
theorem dX6_judged_41 : decode cX6_judged 41 = .ok (.invokestatic 183, 3) := by decide +kernel
theorem dX6_judged_44 : decode cX6_judged 44 = .ok (.ifCond .eq 10, 3) := by decide +kernel
theorem dX6_judged_47 : decode cX6_judged 47 = .ok (.iload_n 3, 1) := by decide +kernel
theorem dX6_judged_48 : decode cX6_judged 48 = .ok (.sipush 255, 3) := by decide +kernel
theorem dX6_judged_51 : decode cX6_judged 51 = .ok (.if_icmp .le 5, 3) := by decide +kernel
theorem dX6_judged_54 : decode cX6_judged 54 = .ok (.iconst 0, 1) := by decide +kernel
theorem dX6_judged_55 : decode cX6_judged 55 = .ok (.ireturn, 1) := by decide +kernel
theorem dX6_judged_56 : decode cX6_judged 56 = .ok (.aload_n 0, 1) := by decide +kernel
theorem dX6_judged_57 : decode cX6_judged 57 = .ok (.aload_n 0, 1) := by decide +kernel
theorem dX6_judged_58 : decode cX6_judged 58 = .ok (.getfield 25, 3) := by decide +kernel
theorem dX6_judged_61 : decode cX6_judged 61 = .ok (.bipush 14, 2) := by decide +kernel
theorem dX6_judged_63 : decode cX6_judged 63 = .ok (.aload_n 0, 1) := by decide +kernel
theorem dX6_judged_64 : decode cX6_judged 64 = .ok (.iload_n 2, 1) := by decide +kernel
theorem dX6_judged_65 : decode cX6_judged 65 = .ok (.iload_n 3, 1) := by decide +kernel
theorem dX6_judged_66 : decode cX6_judged 66 = .ok (.invokevirtual 168, 3) := by decide +kernel
theorem dX6_judged_69 : decode cX6_judged 69 = .ok (.invokevirtual 171, 3) := by decide +kernel
theorem dX6_judged_72 : decode cX6_judged 72 = .ok (.iconst 1, 1) := by decide +kernel
theorem dX6_judged_73 : decode cX6_judged 73 = .ok (.ireturn, 1) := by decide +kernel
theorem dX6_judged_74 : decode cX6_judged 74 = .ok (.iload_n 2, 1) := by decide +kernel
theorem dX6_judged_75 : decode cX6_judged 75 = .ok (.ifCond .ne 14, 3) := by decide +kernel
theorem dX6_judged_78 : decode cX6_judged 78 = .ok (.iload_n 3, 1) := by decide +kernel
theorem dX6_judged_79 : decode cX6_judged 79 = .ok (.ifCond .ne 10, 3) := by decide +kernel
theorem dX6_judged_82 : decode cX6_judged 82 = .ok (.aload_n 0, 1) := by decide +kernel
theorem dX6_judged_83 : decode cX6_judged 83 = .ok (.getfield 25, 3) := by decide +kernel
theorem dX6_judged_86 : decode cX6_judged 86 = .ok (.invokestatic 209, 3) := by decide +kernel
theorem dX6_judged_89 : decode cX6_judged 89 = .ok (.iload_n 2, 1) := by decide +kernel
theorem dX6_judged_90 : decode cX6_judged 90 = .ok (.ifCond .ne 11, 3) := by decide +kernel
theorem dX6_judged_93 : decode cX6_judged 93 = .ok (.iload_n 3, 1) := by decide +kernel
theorem dX6_judged_94 : decode cX6_judged 94 = .ok (.ifCond .ne 7, 3) := by decide +kernel
theorem dX6_judged_97 : decode cX6_judged 97 = .ok (.iconst 1, 1) := by decide +kernel
theorem dX6_judged_98 : decode cX6_judged 98 = .ok (.goto 4, 3) := by decide +kernel
theorem dX6_judged_101 : decode cX6_judged 101 = .ok (.iconst 0, 1) := by decide +kernel
theorem dX6_judged_102 : decode cX6_judged 102 = .ok (.ireturn, 1) := by decide +kernel
theorem dX6_judged_103 : decode cX6_judged 103 = .ok (.iload_n 3, 1) := by decide +kernel
theorem dX6_judged_104 : decode cX6_judged 104 = .ok (.ifCond .ne 22, 3) := by decide +kernel
theorem dX6_judged_107 : decode cX6_judged 107 = .ok (.iload_n 2, 1) := by decide +kernel
theorem dX6_judged_108 : decode cX6_judged 108 = .ok (.iconst 2, 1) := by decide +kernel
theorem dX6_judged_109 : decode cX6_judged 109 = .ok (.if_icmp .ge 17, 3) := by decide +kernel
theorem dX6_judged_112 : decode cX6_judged 112 = .ok (.aload_n 0, 1) := by decide +kernel
theorem dX6_judged_113 : decode cX6_judged 113 = .ok (.getfield 25, 3) := by decide +kernel
theorem dX6_judged_116 : decode cX6_judged 116 = .ok (.iconst 3, 1) := by decide +kernel
theorem dX6_judged_117 : decode cX6_judged 117 = .ok (.iaload, 1) := by decide +kernel
theorem dX6_judged_118 : decode cX6_judged 118 = .ok (.iload_n 2, 1) := by decide +kernel
theorem dX6_judged_119 : decode cX6_judged 119 = .ok (.if_icmp .ne 7, 3) := by decide +kernel
theorem dX6_judged_122 : decode cX6_judged 122 = .ok (.iconst 1, 1) := by decide +kernel
theorem dX6_judged_123 : decode cX6_judged 123 = .ok (.goto 4, 3) := by decide +kernel
theorem dX6_judged_126 : decode cX6_judged 126 = .ok (.iconst 0, 1) := by decide +kernel
theorem dX6_judged_127 : decode cX6_judged 127 = .ok (.ireturn, 1) := by decide +kernel
theorem dX6_judged_128 : decode cX6_judged 128 = .ok (.iload_n 2, 1) := by decide +kernel
theorem dX6_judged_129 : decode cX6_judged 129 = .ok (.invokestatic 183, 3) := by decide +kernel
theorem dX6_judged_132 : decode cX6_judged 132 = .ok (.ifCond .eq 54, 3) := by decide +kernel
theorem dX6_judged_135 : decode cX6_judged 135 = .ok (.iload_n 3, 1) := by decide +kernel
theorem dX6_judged_136 : decode cX6_judged 136 = .ok (.bipush 100, 2) := by decide +kernel
theorem dX6_judged_138 : decode cX6_judged 138 = .ok (.irem, 1) := by decide +kernel
theorem dX6_judged_139 : decode cX6_judged 139 = .ok (.ifCond .ne 47, 3) := by decide +kernel
theorem dX6_judged_142 : decode cX6_judged 142 = .ok (.iload_n 3, 1) := by decide +kernel
theorem dX6_judged_143 : decode cX6_judged 143 = .ok (.sipush 200, 3) := by decide +kernel
theorem dX6_judged_146 : decode cX6_judged 146 = .ok (.if_icmp .ge 40, 3) := by decide +kernel
theorem dX6_judged_149 : decode cX6_judged 149 = .ok (.aload_n 0, 1) := by decide +kernel
theorem dX6_judged_150 : decode cX6_judged 150 = .ok (.getfield 25, 3) := by decide +kernel
theorem dX6_judged_153 : decode cX6_judged 153 = .ok (.bipush 22, 2) := by decide +kernel
theorem dX6_judged_155 : decode cX6_judged 155 = .ok (.iload_n 2, 1) := by decide +kernel
theorem dX6_judged_156 : decode cX6_judged 156 = .ok (.iadd, 1) := by decide +kernel
theorem dX6_judged_157 : decode cX6_judged 157 = .ok (.iaload, 1) := by decide +kernel
theorem dX6_judged_158 : decode cX6_judged 158 = .ok (.bipush (-9), 2) := by decide +kernel
theorem dX6_judged_160 : decode cX6_judged 160 = .ok (.if_icmp .eq 7, 3) := by decide +kernel
theorem dX6_judged_163 : decode cX6_judged 163 = .ok (.iconst 1, 1) := by decide +kernel
theorem dX6_judged_164 : decode cX6_judged 164 = .ok (.goto 4, 3) := by decide +kernel
theorem dX6_judged_167 : decode cX6_judged 167 = .ok (.iconst 0, 1) := by decide +kernel
theorem dX6_judged_168 : decode cX6_judged 168 = .ok (.iload_n 3, 1) := by decide +kernel
theorem dX6_judged_169 : decode cX6_judged 169 = .ok (.bipush 100, 2) := by decide +kernel
theorem dX6_judged_171 : decode cX6_judged 171 = .ok (.if_icmp .ne 7, 3) := by decide +kernel
theorem dX6_judged_174 : decode cX6_judged 174 = .ok (.iconst 1, 1) := by decide +kernel
theorem dX6_judged_175 : decode cX6_judged 175 = .ok (.goto 4, 3) := by decide +kernel
theorem dX6_judged_178 : decode cX6_judged 178 = .ok (.iconst 0, 1) := by decide +kernel
theorem dX6_judged_179 : decode cX6_judged 179 = .ok (.if_icmp .ne 7, 3) := by decide +kernel
theorem dX6_judged_182 : decode cX6_judged 182 = .ok (.iconst 1, 1) := by decide +kernel
theorem dX6_judged_183 : decode cX6_judged 183 = .ok (.goto 4, 3) := by decide +kernel
theorem dX6_judged_186 : decode cX6_judged 186 = .ok (.iconst 0, 1) := by decide +kernel
theorem dX6_judged_187 : decode cX6_judged 187 = .ok (.ireturn, 1) := by decide +kernel
theorem dX6_judged_188 : decode cX6_judged 188 = .ok (.iload_n 2, 1) := by decide +kernel
theorem dX6_judged_189 : decode cX6_judged 189 = .ok (.invokestatic 183, 3) := by decide +kernel
theorem dX6_judged_192 : decode cX6_judged 192 = .ok (.ifCond .eq 20, 3) := by decide +kernel
theorem dX6_judged_195 : decode cX6_judged 195 = .ok (.aload_n 0, 1) := by decide +kernel
theorem dX6_judged_196 : decode cX6_judged 196 = .ok (.getfield 25, 3) := by decide +kernel
theorem dX6_judged_199 : decode cX6_judged 199 = .ok (.bipush 18, 2) := by decide +kernel
theorem dX6_judged_201 : decode cX6_judged 201 = .ok (.iload_n 2, 1) := by decide +kernel
theorem dX6_judged_202 : decode cX6_judged 202 = .ok (.iadd, 1) := by decide +kernel
theorem dX6_judged_203 : decode cX6_judged 203 = .ok (.iaload, 1) := by decide +kernel
theorem dX6_judged_204 : decode cX6_judged 204 = .ok (.iload_n 3, 1) := by decide +kernel
theorem dX6_judged_205 : decode cX6_judged 205 = .ok (.if_icmp .ne 7, 3) := by decide +kernel
theorem dX6_judged_208 : decode cX6_judged 208 = .ok (.iconst 1, 1) := by decide +kernel
theorem dX6_judged_209 : decode cX6_judged 209 = .ok (.goto 4, 3) := by decide +kernel
theorem dX6_judged_212 : decode cX6_judged 212 = .ok (.iconst 0, 1) := by decide +kernel
theorem dX6_judged_213 : decode cX6_judged 213 = .ok (.ireturn, 1) := by decide +kernel
theorem dX6_judged_214 : decode cX6_judged 214 = .ok (.iload_n 2, 1) := by decide +kernel
theorem dX6_judged_215 : decode cX6_judged 215 = .ok (.ifCond .ne 18, 3) := by decide +kernel
theorem dX6_judged_218 : decode cX6_judged 218 = .ok (.aload_n 0, 1) := by decide +kernel
theorem dX6_judged_219 : decode cX6_judged 219 = .ok (.getfield 25, 3) := by decide +kernel
theorem dX6_judged_222 : decode cX6_judged 222 = .ok (.bipush 14, 2) := by decide +kernel
theorem dX6_judged_224 : decode cX6_judged 224 = .ok (.iaload, 1) := by decide +kernel
theorem dX6_judged_225 : decode cX6_judged 225 = .ok (.iload_n 3, 1) := by decide +kernel
theorem dX6_judged_226 : decode cX6_judged 226 = .ok (.if_icmp .ne 7, 3) := by decide +kernel
theorem dX6_judged_229 : decode cX6_judged 229 = .ok (.iconst 1, 1) := by decide +kernel
theorem dX6_judged_230 : decode cX6_judged 230 = .ok (.goto 4, 3) := by decide +kernel
theorem dX6_judged_233 : decode cX6_judged 233 = .ok (.iconst 0, 1) := by decide +kernel
theorem dX6_judged_234 : decode cX6_judged 234 = .ok (.ireturn, 1) := by decide +kernel
theorem dX6_judged_235 : decode cX6_judged 235 = .ok (.iconst 0, 1) := by decide +kernel
theorem dX6_judged_236 : decode cX6_judged 236 = .ok (.ireturn, 1) := by decide +kernel
theorem dX6_hundredThousands_0 : decode cX6_hundredThousands 0 = .ok (.lconst 1, 1) := by decide +kernel
theorem dX6_hundredThousands_1 : decode cX6_hundredThousands 1 = .ok (.lstore_n 1, 1) := by decide +kernel
theorem dX6_hundredThousands_2 : decode cX6_hundredThousands 2 = .ok (.iconst 0, 1) := by decide +kernel
theorem dX6_hundredThousands_3 : decode cX6_hundredThousands 3 = .ok (.istore_n 3, 1) := by decide +kernel
theorem dX6_hundredThousands_4 : decode cX6_hundredThousands 4 = .ok (.iload_n 3, 1) := by decide +kernel
theorem dX6_hundredThousands_5 : decode cX6_hundredThousands 5 = .ok (.iload_n 0, 1) := by decide +kernel
theorem dX6_hundredThousands_6 : decode cX6_hundredThousands 6 = .ok (.if_icmp .ge 15, 3) := by decide +kernel
theorem dX6_hundredThousands_9 : decode cX6_hundredThousands 9 = .ok (.lload_n 1, 1) := by decide +kernel
theorem dX6_hundredThousands_10 : decode cX6_hundredThousands 10 = .ok (.ldc2_w 216, 3) := by decide +kernel
theorem dX6_hundredThousands_13 : decode cX6_hundredThousands 13 = .ok (.lmul, 1) := by decide +kernel
theorem dX6_hundredThousands_14 : decode cX6_hundredThousands 14 = .ok (.lstore_n 1, 1) := by decide +kernel
theorem dX6_hundredThousands_15 : decode cX6_hundredThousands 15 = .ok (.iinc 3 1, 3) := by decide +kernel
theorem dX6_hundredThousands_18 : decode cX6_hundredThousands 18 = .ok (.goto (-14), 3) := by decide +kernel
theorem dX6_hundredThousands_21 : decode cX6_hundredThousands 21 = .ok (.lload_n 1, 1) := by decide +kernel
theorem dX6_hundredThousands_22 : decode cX6_hundredThousands 22 = .ok (.lreturn, 1) := by decide +kernel
theorem dX6_judge_0 : decode cX6_judge 0 = .ok (.iload_n 1, 1) := by decide +kernel
theorem dX6_judge_1 : decode cX6_judge 1 = .ok (.i2l, 1) := by decide +kernel
theorem dX6_judge_2 : decode cX6_judge 2 = .ok (.lconst 1, 1) := by decide +kernel
theorem dX6_judge_3 : decode cX6_judge 3 = .ok (.ldc2_w 66, 3) := by decide +kernel
theorem dX6_judge_6 : decode cX6_judge 6 = .ok (.invokestatic 68, 3) := by decide +kernel
theorem dX6_judge_9 : decode cX6_judge 9 = .ok (.ifCond .eq 17, 3) := by decide +kernel
theorem dX6_judge_12 : decode cX6_judge 12 = .ok (.lload_n 2, 1) := by decide +kernel
theorem dX6_judge_13 : decode cX6_judge 13 = .ok (.lconst 0, 1) := by decide +kernel
theorem dX6_judge_14 : decode cX6_judge 14 = .ok (.iload_n 1, 1) := by decide +kernel
theorem dX6_judge_15 : decode cX6_judge 15 = .ok (.invokestatic 218, 3) := by decide +kernel
theorem dX6_judge_18 : decode cX6_judge 18 = .ok (.lconst 1, 1) := by decide +kernel
theorem dX6_judge_19 : decode cX6_judge 19 = .ok (.lsub, 1) := by decide +kernel
theorem dX6_judge_20 : decode cX6_judge 20 = .ok (.invokestatic 68, 3) := by decide +kernel
theorem dX6_judge_23 : decode cX6_judge 23 = .ok (.ifCond .ne 6, 3) := by decide +kernel
theorem dX6_judge_26 : decode cX6_judge 26 = .ok (.bipush (-2), 2) := by decide +kernel
theorem dX6_judge_28 : decode cX6_judge 28 = .ok (.ireturn, 1) := by decide +kernel
theorem dX6_judge_29 : decode cX6_judge 29 = .ok (.aload_n 0, 1) := by decide +kernel
theorem dX6_judge_30 : decode cX6_judge 30 = .ok (.getfield 22, 3) := by decide +kernel
theorem dX6_judge_33 : decode cX6_judge 33 = .ok (.aload_n 0, 1) := by decide +kernel
theorem dX6_judge_34 : decode cX6_judge 34 = .ok (.getfield 25, 3) := by decide +kernel
theorem dX6_judge_37 : decode cX6_judge 37 = .ok (.invokestatic 212, 3) := by decide +kernel
theorem dX6_judge_40 : decode cX6_judge 40 = .ok (.iconst 0, 1) := by decide +kernel
theorem dX6_judge_41 : decode cX6_judge 41 = .ok (.istore 4, 2) := by decide +kernel
theorem dX6_judge_43 : decode cX6_judge 43 = .ok (.iload 4, 2) := by decide +kernel
theorem dX6_judge_45 : decode cX6_judge 45 = .ok (.iload_n 1, 1) := by decide +kernel
theorem dX6_judge_46 : decode cX6_judge 46 = .ok (.if_icmp .ge 58, 3) := by decide +kernel
theorem dX6_judge_49 : decode cX6_judge 49 = .ok (.lload_n 2, 1) := by decide +kernel
theorem dX6_judge_50 : decode cX6_judge 50 = .ok (.iload_n 1, 1) := by decide +kernel
theorem dX6_judge_51 : decode cX6_judge 51 = .ok (.iconst 1, 1) := by decide +kernel
theorem dX6_judge_52 : decode cX6_judge 52 = .ok (.isub, 1) := by decide +kernel
theorem dX6_judge_53 : decode cX6_judge 53 = .ok (.iload 4, 2) := by decide +kernel
theorem dX6_judge_55 : decode cX6_judge 55 = .ok (.isub, 1) := by decide +kernel
theorem dX6_judge_56 : decode cX6_judge 56 = .ok (.invokestatic 218, 3) := by decide +kernel
theorem dX6_judge_59 : decode cX6_judge 59 = .ok (.ldiv, 1) := by decide +kernel
theorem dX6_judge_60 : decode cX6_judge 60 = .ok (.ldc2_w 216, 3) := by decide +kernel
theorem dX6_judge_63 : decode cX6_judge 63 = .ok (.lrem, 1) := by decide +kernel
theorem dX6_judge_64 : decode cX6_judge 64 = .ok (.l2i, 1) := by decide +kernel
theorem dX6_judge_65 : decode cX6_judge 65 = .ok (.istore 5, 2) := by decide +kernel
theorem dX6_judge_67 : decode cX6_judge 67 = .ok (.aload_n 0, 1) := by decide +kernel
theorem dX6_judge_68 : decode cX6_judge 68 = .ok (.iload 5, 2) := by decide +kernel
theorem dX6_judge_70 : decode cX6_judge 70 = .ok (.sipush 10000, 3) := by decide +kernel
theorem dX6_judge_73 : decode cX6_judge 73 = .ok (.idiv, 1) := by decide +kernel
theorem dX6_judge_74 : decode cX6_judge 74 = .ok (.iload 5, 2) := by decide +kernel
theorem dX6_judge_76 : decode cX6_judge 76 = .ok (.sipush 1000, 3) := by decide +kernel
theorem dX6_judge_79 : decode cX6_judge 79 = .ok (.idiv, 1) := by decide +kernel
theorem dX6_judge_80 : decode cX6_judge 80 = .ok (.bipush 10, 2) := by decide +kernel
theorem dX6_judge_82 : decode cX6_judge 82 = .ok (.irem, 1) := by decide +kernel
theorem dX6_judge_83 : decode cX6_judge 83 = .ok (.iload 5, 2) := by decide +kernel
theorem dX6_judge_85 : decode cX6_judge 85 = .ok (.sipush 1000, 3) := by decide +kernel
theorem dX6_judge_88 : decode cX6_judge 88 = .ok (.irem, 1) := by decide +kernel
theorem dX6_judge_89 : decode cX6_judge 89 = .ok (.invokevirtual 222, 3) := by decide +kernel
theorem dX6_judge_92 : decode cX6_judge 92 = .ok (.ifCond .ne 6, 3) := by decide +kernel
theorem dX6_judge_95 : decode cX6_judge 95 = .ok (.iload 4, 2) := by decide +kernel
theorem dX6_judge_97 : decode cX6_judge 97 = .ok (.ireturn, 1) := by decide +kernel
theorem dX6_judge_98 : decode cX6_judge 98 = .ok (.iinc 4 1, 3) := by decide +kernel
theorem dX6_judge_101 : decode cX6_judge 101 = .ok (.goto (-58), 3) := by decide +kernel
theorem dX6_judge_104 : decode cX6_judge 104 = .ok (.bipush (-9), 2) := by decide +kernel
theorem dX6_judge_106 : decode cX6_judge 106 = .ok (.ireturn, 1) := by decide +kernel
theorem dX6_see_0 : decode cX6_see 0 = .ok (.iload_n 2, 1) := by decide +kernel
theorem dX6_see_1 : decode cX6_see 1 = .ok (.i2l, 1) := by decide +kernel
theorem dX6_see_2 : decode cX6_see 2 = .ok (.lconst 0, 1) := by decide +kernel
theorem dX6_see_3 : decode cX6_see 3 = .ok (.ldc2_w 226, 3) := by decide +kernel
theorem dX6_see_6 : decode cX6_see 6 = .ok (.invokestatic 68, 3) := by decide +kernel
theorem dX6_see_9 : decode cX6_see 9 = .ok (.ifCond .eq 15, 3) := by decide +kernel
theorem dX6_see_12 : decode cX6_see 12 = .ok (.iload_n 3, 1) := by decide +kernel
theorem dX6_see_13 : decode cX6_see 13 = .ok (.i2l, 1) := by decide +kernel
theorem dX6_see_14 : decode cX6_see 14 = .ok (.lconst 0, 1) := by decide +kernel
theorem dX6_see_15 : decode cX6_see 15 = .ok (.ldc2_w 97, 3) := by decide +kernel
theorem dX6_see_18 : decode cX6_see 18 = .ok (.invokestatic 68, 3) := by decide +kernel
theorem dX6_see_21 : decode cX6_see 21 = .ok (.ifCond .ne 6, 3) := by decide +kernel
theorem dX6_see_24 : decode cX6_see 24 = .ok (.bipush (-2), 2) := by decide +kernel
theorem dX6_see_26 : decode cX6_see 26 = .ok (.ireturn, 1) := by decide +kernel
theorem dX6_see_27 : decode cX6_see 27 = .ok (.aload_n 0, 1) := by decide +kernel
theorem dX6_see_28 : decode cX6_see 28 = .ok (.getfield 174, 3) := by decide +kernel
theorem dX6_see_31 : decode cX6_see 31 = .ok (.iconst 4, 1) := by decide +kernel
theorem dX6_see_32 : decode cX6_see 32 = .ok (.if_icmp .ne 6, 3) := by decide +kernel
theorem dX6_see_35 : decode cX6_see 35 = .ok (.bipush (-4), 2) := by decide +kernel
theorem dX6_see_37 : decode cX6_see 37 = .ok (.ireturn, 1) := by decide +kernel
theorem dX6_see_38 : decode cX6_see 38 = .ok (.aload_n 0, 1) := by decide +kernel
theorem dX6_see_39 : decode cX6_see 39 = .ok (.getfield 38, 3) := by decide +kernel
theorem dX6_see_42 : decode cX6_see 42 = .ok (.aload_n 0, 1) := by decide +kernel
theorem dX6_see_43 : decode cX6_see 43 = .ok (.getfield 174, 3) := by decide +kernel
theorem dX6_see_46 : decode cX6_see 46 = .ok (.iload_n 1, 1) := by decide +kernel
theorem dX6_see_47 : decode cX6_see 47 = .ok (.iastore, 1) := by decide +kernel
theorem dX6_see_48 : decode cX6_see 48 = .ok (.aload_n 0, 1) := by decide +kernel
theorem dX6_see_49 : decode cX6_see 49 = .ok (.getfield 41, 3) := by decide +kernel
theorem dX6_see_52 : decode cX6_see 52 = .ok (.aload_n 0, 1) := by decide +kernel
theorem dX6_see_53 : decode cX6_see 53 = .ok (.getfield 174, 3) := by decide +kernel
theorem dX6_see_56 : decode cX6_see 56 = .ok (.iload_n 2, 1) := by decide +kernel
theorem dX6_see_57 : decode cX6_see 57 = .ok (.iastore, 1) := by decide +kernel
theorem dX6_see_58 : decode cX6_see 58 = .ok (.aload_n 0, 1) := by decide +kernel
theorem dX6_see_59 : decode cX6_see 59 = .ok (.getfield 44, 3) := by decide +kernel
theorem dX6_see_62 : decode cX6_see 62 = .ok (.aload_n 0, 1) := by decide +kernel
theorem dX6_see_63 : decode cX6_see 63 = .ok (.getfield 174, 3) := by decide +kernel
theorem dX6_see_66 : decode cX6_see 66 = .ok (.iload_n 3, 1) := by decide +kernel
theorem dX6_see_67 : decode cX6_see 67 = .ok (.iastore, 1) := by decide +kernel
theorem dX6_see_68 : decode cX6_see 68 = .ok (.aload_n 0, 1) := by decide +kernel
theorem dX6_see_69 : decode cX6_see 69 = .ok (.dup, 1) := by decide +kernel
theorem dX6_see_70 : decode cX6_see 70 = .ok (.getfield 174, 3) := by decide +kernel
theorem dX6_see_73 : decode cX6_see 73 = .ok (.iconst 1, 1) := by decide +kernel
theorem dX6_see_74 : decode cX6_see 74 = .ok (.iadd, 1) := by decide +kernel
theorem dX6_see_75 : decode cX6_see 75 = .ok (.putfield 174, 3) := by decide +kernel
theorem dX6_see_78 : decode cX6_see 78 = .ok (.aload_n 0, 1) := by decide +kernel
theorem dX6_see_79 : decode cX6_see 79 = .ok (.getfield 174, 3) := by decide +kernel
theorem dX6_see_82 : decode cX6_see 82 = .ok (.ireturn, 1) := by decide +kernel
theorem dX6_unsee_0 : decode cX6_unsee 0 = .ok (.aload_n 0, 1) := by decide +kernel
theorem dX6_unsee_1 : decode cX6_unsee 1 = .ok (.getfield 174, 3) := by decide +kernel
theorem dX6_unsee_4 : decode cX6_unsee 4 = .ok (.istore_n 1, 1) := by decide +kernel
theorem dX6_unsee_5 : decode cX6_unsee 5 = .ok (.aload_n 0, 1) := by decide +kernel
theorem dX6_unsee_6 : decode cX6_unsee 6 = .ok (.iconst 0, 1) := by decide +kernel
theorem dX6_unsee_7 : decode cX6_unsee 7 = .ok (.putfield 174, 3) := by decide +kernel
theorem dX6_unsee_10 : decode cX6_unsee 10 = .ok (.iload_n 1, 1) := by decide +kernel
theorem dX6_unsee_11 : decode cX6_unsee 11 = .ok (.ireturn, 1) := by decide +kernel
theorem dX6_isSoBy_0 : decode cX6_isSoBy 0 = .ok (.aload_n 0, 1) := by decide +kernel
theorem dX6_isSoBy_1 : decode cX6_isSoBy 1 = .ok (.getfield 22, 3) := by decide +kernel
theorem dX6_isSoBy_4 : decode cX6_isSoBy 4 = .ok (.aload_n 0, 1) := by decide +kernel
theorem dX6_isSoBy_5 : decode cX6_isSoBy 5 = .ok (.getfield 25, 3) := by decide +kernel
theorem dX6_isSoBy_8 : decode cX6_isSoBy 8 = .ok (.invokestatic 212, 3) := by decide +kernel
theorem dX6_isSoBy_11 : decode cX6_isSoBy 11 = .ok (.iconst 0, 1) := by decide +kernel
theorem dX6_isSoBy_12 : decode cX6_isSoBy 12 = .ok (.istore_n 3, 1) := by decide +kernel
theorem dX6_isSoBy_13 : decode cX6_isSoBy 13 = .ok (.iload_n 3, 1) := by decide +kernel
theorem dX6_isSoBy_14 : decode cX6_isSoBy 14 = .ok (.iconst 4, 1) := by decide +kernel
theorem dX6_isSoBy_15 : decode cX6_isSoBy 15 = .ok (.if_icmp .ge 60, 3) := by decide +kernel
theorem dX6_isSoBy_18 : decode cX6_isSoBy 18 = .ok (.iload_n 1, 1) := by decide +kernel
theorem dX6_isSoBy_19 : decode cX6_isSoBy 19 = .ok (.bipush 14, 2) := by decide +kernel
theorem dX6_isSoBy_21 : decode cX6_isSoBy 21 = .ok (.idiv, 1) := by decide +kernel
theorem dX6_isSoBy_22 : decode cX6_isSoBy 22 = .ok (.iload_n 3, 1) := by decide +kernel
theorem dX6_isSoBy_23 : decode cX6_isSoBy 23 = .ok (.if_icmp .ne 15, 3) := by decide +kernel
theorem dX6_isSoBy_26 : decode cX6_isSoBy 26 = .ok (.iconst 1, 1) := by decide +kernel
theorem dX6_isSoBy_27 : decode cX6_isSoBy 27 = .ok (.bipush 13, 2) := by decide +kernel
theorem dX6_isSoBy_29 : decode cX6_isSoBy 29 = .ok (.iload_n 1, 1) := by decide +kernel
theorem dX6_isSoBy_30 : decode cX6_isSoBy 30 = .ok (.bipush 14, 2) := by decide +kernel
theorem dX6_isSoBy_32 : decode cX6_isSoBy 32 = .ok (.irem, 1) := by decide +kernel
theorem dX6_isSoBy_33 : decode cX6_isSoBy 33 = .ok (.isub, 1) := by decide +kernel
theorem dX6_isSoBy_34 : decode cX6_isSoBy 34 = .ok (.ishl, 1) := by decide +kernel
theorem dX6_isSoBy_35 : decode cX6_isSoBy 35 = .ok (.goto 4, 3) := by decide +kernel
theorem dX6_isSoBy_38 : decode cX6_isSoBy 38 = .ok (.iconst 0, 1) := by decide +kernel
theorem dX6_isSoBy_39 : decode cX6_isSoBy 39 = .ok (.istore 4, 2) := by decide +kernel
theorem dX6_isSoBy_41 : decode cX6_isSoBy 41 = .ok (.aload_n 0, 1) := by decide +kernel
theorem dX6_isSoBy_42 : decode cX6_isSoBy 42 = .ok (.aload_n 0, 1) := by decide +kernel
theorem dX6_isSoBy_43 : decode cX6_isSoBy 43 = .ok (.getfield 25, 3) := by decide +kernel
theorem dX6_isSoBy_46 : decode cX6_isSoBy 46 = .ok (.bipush 14, 2) := by decide +kernel
theorem dX6_isSoBy_48 : decode cX6_isSoBy 48 = .ok (.aload_n 0, 1) := by decide +kernel
theorem dX6_isSoBy_49 : decode cX6_isSoBy 49 = .ok (.iload_n 3, 1) := by decide +kernel
theorem dX6_isSoBy_50 : decode cX6_isSoBy 50 = .ok (.aload_n 0, 1) := by decide +kernel
theorem dX6_isSoBy_51 : decode cX6_isSoBy 51 = .ok (.getfield 38, 3) := by decide +kernel
theorem dX6_isSoBy_54 : decode cX6_isSoBy 54 = .ok (.iload_n 2, 1) := by decide +kernel
theorem dX6_isSoBy_55 : decode cX6_isSoBy 55 = .ok (.iaload, 1) := by decide +kernel
theorem dX6_isSoBy_56 : decode cX6_isSoBy 56 = .ok (.iload_n 3, 1) := by decide +kernel
theorem dX6_isSoBy_57 : decode cX6_isSoBy 57 = .ok (.invokestatic 165, 3) := by decide +kernel
theorem dX6_isSoBy_60 : decode cX6_isSoBy 60 = .ok (.invokevirtual 168, 3) := by decide +kernel
theorem dX6_isSoBy_63 : decode cX6_isSoBy 63 = .ok (.iload 4, 2) := by decide +kernel
theorem dX6_isSoBy_65 : decode cX6_isSoBy 65 = .ok (.ixor, 1) := by decide +kernel
theorem dX6_isSoBy_66 : decode cX6_isSoBy 66 = .ok (.invokevirtual 171, 3) := by decide +kernel
theorem dX6_isSoBy_69 : decode cX6_isSoBy 69 = .ok (.iinc 3 1, 3) := by decide +kernel
theorem dX6_isSoBy_72 : decode cX6_isSoBy 72 = .ok (.goto (-59), 3) := by decide +kernel
theorem dX6_isSoBy_75 : decode cX6_isSoBy 75 = .ok (.bipush 10, 2) := by decide +kernel
theorem dX6_isSoBy_77 : decode cX6_isSoBy 77 = .ok (.aload_n 0, 1) := by decide +kernel
theorem dX6_isSoBy_78 : decode cX6_isSoBy 78 = .ok (.getfield 41, 3) := by decide +kernel
theorem dX6_isSoBy_81 : decode cX6_isSoBy 81 = .ok (.iload_n 2, 1) := by decide +kernel
theorem dX6_isSoBy_82 : decode cX6_isSoBy 82 = .ok (.iaload, 1) := by decide +kernel
theorem dX6_isSoBy_83 : decode cX6_isSoBy 83 = .ok (.iadd, 1) := by decide +kernel
theorem dX6_isSoBy_84 : decode cX6_isSoBy 84 = .ok (.istore_n 3, 1) := by decide +kernel
theorem dX6_isSoBy_85 : decode cX6_isSoBy 85 = .ok (.aload_n 0, 1) := by decide +kernel
theorem dX6_isSoBy_86 : decode cX6_isSoBy 86 = .ok (.getfield 25, 3) := by decide +kernel
theorem dX6_isSoBy_89 : decode cX6_isSoBy 89 = .ok (.iload_n 3, 1) := by decide +kernel
theorem dX6_isSoBy_90 : decode cX6_isSoBy 90 = .ok (.iaload, 1) := by decide +kernel
theorem dX6_isSoBy_91 : decode cX6_isSoBy 91 = .ok (.aload_n 0, 1) := by decide +kernel
theorem dX6_isSoBy_92 : decode cX6_isSoBy 92 = .ok (.getfield 22, 3) := by decide +kernel
theorem dX6_isSoBy_95 : decode cX6_isSoBy 95 = .ok (.iload_n 3, 1) := by decide +kernel
theorem dX6_isSoBy_96 : decode cX6_isSoBy 96 = .ok (.iaload, 1) := by decide +kernel
theorem dX6_isSoBy_97 : decode cX6_isSoBy 97 = .ok (.isub, 1) := by decide +kernel
theorem dX6_isSoBy_98 : decode cX6_isSoBy 98 = .ok (.aload_n 0, 1) := by decide +kernel
theorem dX6_isSoBy_99 : decode cX6_isSoBy 99 = .ok (.getfield 44, 3) := by decide +kernel
theorem dX6_isSoBy_102 : decode cX6_isSoBy 102 = .ok (.iload_n 2, 1) := by decide +kernel
theorem dX6_isSoBy_103 : decode cX6_isSoBy 103 = .ok (.iaload, 1) := by decide +kernel
theorem dX6_isSoBy_104 : decode cX6_isSoBy 104 = .ok (.if_icmp .ne 7, 3) := by decide +kernel
theorem dX6_isSoBy_107 : decode cX6_isSoBy 107 = .ok (.iconst 1, 1) := by decide +kernel
theorem dX6_isSoBy_108 : decode cX6_isSoBy 108 = .ok (.goto 4, 3) := by decide +kernel
theorem dX6_isSoBy_111 : decode cX6_isSoBy 111 = .ok (.iconst 0, 1) := by decide +kernel
theorem dX6_isSoBy_112 : decode cX6_isSoBy 112 = .ok (.ireturn, 1) := by decide +kernel
theorem dX6_which_0 : decode cX6_which 0 = .ok (.lconst 0, 1) := by decide +kernel
theorem dX6_which_1 : decode cX6_which 1 = .ok (.lstore_n 1, 1) := by decide +kernel
theorem dX6_which_2 : decode cX6_which 2 = .ok (.iconst 0, 1) := by decide +kernel
theorem dX6_which_3 : decode cX6_which 3 = .ok (.istore_n 3, 1) := by decide +kernel
theorem dX6_which_4 : decode cX6_which 4 = .ok (.iload_n 3, 1) := by decide +kernel
theorem dX6_which_5 : decode cX6_which 5 = .ok (.bipush 56, 2) := by decide +kernel
theorem dX6_which_7 : decode cX6_which 7 = .ok (.if_icmp .ge 67, 3) := by decide +kernel
theorem dX6_which_10 : decode cX6_which 10 = .ok (.iconst 1, 1) := by decide +kernel
theorem dX6_which_11 : decode cX6_which 11 = .ok (.istore 4, 2) := by decide +kernel
theorem dX6_which_13 : decode cX6_which 13 = .ok (.iconst 0, 1) := by decide +kernel
theorem dX6_which_14 : decode cX6_which 14 = .ok (.istore 5, 2) := by decide +kernel
theorem dX6_which_16 : decode cX6_which 16 = .ok (.iload 5, 2) := by decide +kernel
theorem dX6_which_18 : decode cX6_which 18 = .ok (.aload_n 0, 1) := by decide +kernel
theorem dX6_which_19 : decode cX6_which 19 = .ok (.getfield 174, 3) := by decide +kernel
theorem dX6_which_22 : decode cX6_which 22 = .ok (.if_icmp .ge 31, 3) := by decide +kernel
theorem dX6_which_25 : decode cX6_which 25 = .ok (.iload 4, 2) := by decide +kernel
theorem dX6_which_27 : decode cX6_which 27 = .ok (.ifCond .eq 17, 3) := by decide +kernel
theorem dX6_which_30 : decode cX6_which 30 = .ok (.aload_n 0, 1) := by decide +kernel
theorem dX6_which_31 : decode cX6_which 31 = .ok (.iload_n 3, 1) := by decide +kernel
theorem dX6_which_32 : decode cX6_which 32 = .ok (.iload 5, 2) := by decide +kernel
theorem dX6_which_34 : decode cX6_which 34 = .ok (.invokevirtual 228, 3) := by decide +kernel
theorem dX6_which_37 : decode cX6_which 37 = .ok (.ifCond .eq 7, 3) := by decide +kernel
theorem dX6_which_40 : decode cX6_which 40 = .ok (.iconst 1, 1) := by decide +kernel
theorem dX6_which_41 : decode cX6_which 41 = .ok (.goto 4, 3) := by decide +kernel
theorem dX6_which_44 : decode cX6_which 44 = .ok (.iconst 0, 1) := by decide +kernel
theorem dX6_which_45 : decode cX6_which 45 = .ok (.istore 4, 2) := by decide +kernel
theorem dX6_which_47 : decode cX6_which 47 = .ok (.iinc 5 1, 3) := by decide +kernel
theorem dX6_which_50 : decode cX6_which 50 = .ok (.goto (-34), 3) := by decide +kernel
theorem dX6_which_53 : decode cX6_which 53 = .ok (.lload_n 1, 1) := by decide +kernel
theorem dX6_which_54 : decode cX6_which 54 = .ok (.iload 4, 2) := by decide +kernel
theorem dX6_which_56 : decode cX6_which 56 = .ok (.ifCond .eq 9, 3) := by decide +kernel
theorem dX6_which_59 : decode cX6_which 59 = .ok (.lconst 1, 1) := by decide +kernel
theorem dX6_which_60 : decode cX6_which 60 = .ok (.iload_n 3, 1) := by decide +kernel
theorem dX6_which_61 : decode cX6_which 61 = .ok (.lshl, 1) := by decide +kernel
theorem dX6_which_62 : decode cX6_which 62 = .ok (.goto 4, 3) := by decide +kernel
theorem dX6_which_65 : decode cX6_which 65 = .ok (.lconst 0, 1) := by decide +kernel
theorem dX6_which_66 : decode cX6_which 66 = .ok (.lor, 1) := by decide +kernel
theorem dX6_which_67 : decode cX6_which 67 = .ok (.lstore_n 1, 1) := by decide +kernel
theorem dX6_which_68 : decode cX6_which 68 = .ok (.iinc 3 1, 3) := by decide +kernel
theorem dX6_which_71 : decode cX6_which 71 = .ok (.goto (-67), 3) := by decide +kernel
theorem dX6_which_74 : decode cX6_which 74 = .ok (.lload_n 1, 1) := by decide +kernel
theorem dX6_which_75 : decode cX6_which 75 = .ok (.lreturn, 1) := by decide +kernel
theorem dX6_share_0 : decode cX6_share 0 = .ok (.iload_n 2, 1) := by decide +kernel
theorem dX6_share_1 : decode cX6_share 1 = .ok (.invokestatic 183, 3) := by decide +kernel
theorem dX6_share_4 : decode cX6_share 4 = .ok (.ifCond .ne 5, 3) := by decide +kernel
theorem dX6_share_7 : decode cX6_share 7 = .ok (.iconst (-1), 1) := by decide +kernel
theorem dX6_share_8 : decode cX6_share 8 = .ok (.ireturn, 1) := by decide +kernel
theorem dX6_share_9 : decode cX6_share 9 = .ok (.iconst 0, 1) := by decide +kernel
theorem dX6_share_10 : decode cX6_share 10 = .ok (.istore 4, 2) := by decide +kernel
theorem dX6_share_12 : decode cX6_share 12 = .ok (.iload 4, 2) := by decide +kernel
theorem dX6_share_14 : decode cX6_share 14 = .ok (.bipush 16, 2) := by decide +kernel
theorem dX6_share_16 : decode cX6_share 16 = .ok (.if_icmp .ge 65, 3) := by decide +kernel
theorem dX6_share_19 : decode cX6_share 19 = .ok (.aload_n 0, 1) := by decide +kernel
theorem dX6_share_20 : decode cX6_share 20 = .ok (.getfield 22, 3) := by decide +kernel
theorem dX6_share_23 : decode cX6_share 23 = .ok (.aload_n 0, 1) := by decide +kernel
theorem dX6_share_24 : decode cX6_share 24 = .ok (.getfield 25, 3) := by decide +kernel
theorem dX6_share_27 : decode cX6_share 27 = .ok (.invokestatic 212, 3) := by decide +kernel
theorem dX6_share_30 : decode cX6_share 30 = .ok (.iconst 0, 1) := by decide +kernel
theorem dX6_share_31 : decode cX6_share 31 = .ok (.istore 5, 2) := by decide +kernel
theorem dX6_share_33 : decode cX6_share 33 = .ok (.iload 5, 2) := by decide +kernel
theorem dX6_share_35 : decode cX6_share 35 = .ok (.iconst 3, 1) := by decide +kernel
theorem dX6_share_36 : decode cX6_share 36 = .ok (.if_icmp .ge 25, 3) := by decide +kernel
theorem dX6_share_39 : decode cX6_share 39 = .ok (.aload_n 0, 1) := by decide +kernel
theorem dX6_share_40 : decode cX6_share 40 = .ok (.aload_n 0, 1) := by decide +kernel
theorem dX6_share_41 : decode cX6_share 41 = .ok (.getfield 25, 3) := by decide +kernel
theorem dX6_share_44 : decode cX6_share 44 = .ok (.iload_n 1, 1) := by decide +kernel
theorem dX6_share_45 : decode cX6_share 45 = .ok (.bipush 15, 2) := by decide +kernel
theorem dX6_share_47 : decode cX6_share 47 = .ok (.iload 4, 2) := by decide +kernel
theorem dX6_share_49 : decode cX6_share 49 = .ok (.iconst (-1), 1) := by decide +kernel
theorem dX6_share_50 : decode cX6_share 50 = .ok (.ixor, 1) := by decide +kernel
theorem dX6_share_51 : decode cX6_share 51 = .ok (.iand, 1) := by decide +kernel
theorem dX6_share_52 : decode cX6_share 52 = .ok (.invokevirtual 206, 3) := by decide +kernel
theorem dX6_share_55 : decode cX6_share 55 = .ok (.iinc 5 1, 3) := by decide +kernel
theorem dX6_share_58 : decode cX6_share 58 = .ok (.goto (-25), 3) := by decide +kernel
theorem dX6_share_61 : decode cX6_share 61 = .ok (.aload_n 0, 1) := by decide +kernel
theorem dX6_share_62 : decode cX6_share 62 = .ok (.getfield 47, 3) := by decide +kernel
theorem dX6_share_65 : decode cX6_share 65 = .ok (.iload 4, 2) := by decide +kernel
theorem dX6_share_67 : decode cX6_share 67 = .ok (.aload_n 0, 1) := by decide +kernel
theorem dX6_share_68 : decode cX6_share 68 = .ok (.getfield 25, 3) := by decide +kernel
theorem dX6_share_71 : decode cX6_share 71 = .ok (.bipush 10, 2) := by decide +kernel
theorem dX6_share_73 : decode cX6_share 73 = .ok (.iaload, 1) := by decide +kernel
theorem dX6_share_74 : decode cX6_share 74 = .ok (.iastore, 1) := by decide +kernel
theorem dX6_share_75 : decode cX6_share 75 = .ok (.iinc 4 1, 3) := by decide +kernel
theorem dX6_share_78 : decode cX6_share 78 = .ok (.goto (-66), 3) := by decide +kernel
theorem dX6_share_81 : decode cX6_share 81 = .ok (.iconst 0, 1) := by decide +kernel
theorem dX6_share_82 : decode cX6_share 82 = .ok (.istore 4, 2) := by decide +kernel
theorem dX6_share_84 : decode cX6_share 84 = .ok (.iconst 0, 1) := by decide +kernel
theorem dX6_share_85 : decode cX6_share 85 = .ok (.istore 5, 2) := by decide +kernel
theorem dX6_share_87 : decode cX6_share 87 = .ok (.iload 5, 2) := by decide +kernel
theorem dX6_share_89 : decode cX6_share 89 = .ok (.bipush 16, 2) := by decide +kernel
theorem dX6_share_91 : decode cX6_share 91 = .ok (.if_icmp .ge 63, 3) := by decide +kernel
theorem dX6_share_94 : decode cX6_share 94 = .ok (.iload 5, 2) := by decide +kernel
theorem dX6_share_96 : decode cX6_share 96 = .ok (.iload_n 2, 1) := by decide +kernel
theorem dX6_share_97 : decode cX6_share 97 = .ok (.invokestatic 72, 3) := by decide +kernel
theorem dX6_share_100 : decode cX6_share 100 = .ok (.ifCond .ne 48, 3) := by decide +kernel
theorem dX6_share_103 : decode cX6_share 103 = .ok (.iload 5, 2) := by decide +kernel
theorem dX6_share_105 : decode cX6_share 105 = .ok (.invokestatic 195, 3) := by decide +kernel
theorem dX6_share_108 : decode cX6_share 108 = .ok (.istore 6, 2) := by decide +kernel
theorem dX6_share_110 : decode cX6_share 110 = .ok (.iload 4, 2) := by decide +kernel
theorem dX6_share_112 : decode cX6_share 112 = .ok (.iload 6, 2) := by decide +kernel
theorem dX6_share_114 : decode cX6_share 114 = .ok (.invokestatic 231, 3) := by decide +kernel
theorem dX6_share_117 : decode cX6_share 117 = .ok (.iconst 3, 1) := by decide +kernel
theorem dX6_share_118 : decode cX6_share 118 = .ok (.iload 6, 2) := by decide +kernel
theorem dX6_share_120 : decode cX6_share 120 = .ok (.isub, 1) := by decide +kernel
theorem dX6_share_121 : decode cX6_share 121 = .ok (.invokestatic 231, 3) := by decide +kernel
theorem dX6_share_124 : decode cX6_share 124 = .ok (.imul, 1) := by decide +kernel
theorem dX6_share_125 : decode cX6_share 125 = .ok (.aload_n 0, 1) := by decide +kernel
theorem dX6_share_126 : decode cX6_share 126 = .ok (.getfield 47, 3) := by decide +kernel
theorem dX6_share_129 : decode cX6_share 129 = .ok (.iload 5, 2) := by decide +kernel
theorem dX6_share_131 : decode cX6_share 131 = .ok (.iconst 1, 1) := by decide +kernel
theorem dX6_share_132 : decode cX6_share 132 = .ok (.iload_n 2, 1) := by decide +kernel
theorem dX6_share_133 : decode cX6_share 133 = .ok (.ishl, 1) := by decide +kernel
theorem dX6_share_134 : decode cX6_share 134 = .ok (.ior, 1) := by decide +kernel
theorem dX6_share_135 : decode cX6_share 135 = .ok (.iaload, 1) := by decide +kernel
theorem dX6_share_136 : decode cX6_share 136 = .ok (.aload_n 0, 1) := by decide +kernel
theorem dX6_share_137 : decode cX6_share 137 = .ok (.getfield 47, 3) := by decide +kernel
theorem dX6_share_140 : decode cX6_share 140 = .ok (.iload 5, 2) := by decide +kernel
theorem dX6_share_142 : decode cX6_share 142 = .ok (.iaload, 1) := by decide +kernel
theorem dX6_share_143 : decode cX6_share 143 = .ok (.isub, 1) := by decide +kernel
theorem dX6_share_144 : decode cX6_share 144 = .ok (.imul, 1) := by decide +kernel
theorem dX6_share_145 : decode cX6_share 145 = .ok (.iadd, 1) := by decide +kernel
theorem dX6_share_146 : decode cX6_share 146 = .ok (.istore 4, 2) := by decide +kernel
theorem dX6_share_148 : decode cX6_share 148 = .ok (.iinc 5 1, 3) := by decide +kernel
theorem dX6_share_151 : decode cX6_share 151 = .ok (.goto (-64), 3) := by decide +kernel
theorem dX6_share_154 : decode cX6_share 154 = .ok (.iload 4, 2) := by decide +kernel
theorem dX6_share_156 : decode cX6_share 156 = .ok (.bipush 24, 2) := by decide +kernel
theorem dX6_share_158 : decode cX6_share 158 = .ok (.iload_n 3, 1) := by decide +kernel
theorem dX6_share_159 : decode cX6_share 159 = .ok (.invokestatic 234, 3) := by decide +kernel
theorem dX6_share_162 : decode cX6_share 162 = .ok (.ireturn, 1) := by decide +kernel
theorem dX6_chance_0 : decode cX6_chance 0 = .ok (.iload_n 2, 1) := by decide +kernel
theorem dX6_chance_1 : decode cX6_chance 1 = .ok (.i2l, 1) := by decide +kernel
theorem dX6_chance_2 : decode cX6_chance 2 = .ok (.lconst 1, 1) := by decide +kernel
theorem dX6_chance_3 : decode cX6_chance 3 = .ok (.ldc2_w 226, 3) := by decide +kernel
theorem dX6_chance_6 : decode cX6_chance 6 = .ok (.invokestatic 68, 3) := by decide +kernel
theorem dX6_chance_9 : decode cX6_chance 9 = .ok (.ifCond .eq 15, 3) := by decide +kernel
theorem dX6_chance_12 : decode cX6_chance 12 = .ok (.iload_n 3, 1) := by decide +kernel
theorem dX6_chance_13 : decode cX6_chance 13 = .ok (.i2l, 1) := by decide +kernel
theorem dX6_chance_14 : decode cX6_chance 14 = .ok (.lconst 0, 1) := by decide +kernel
theorem dX6_chance_15 : decode cX6_chance 15 = .ok (.ldc2_w 238, 3) := by decide +kernel
theorem dX6_chance_18 : decode cX6_chance 18 = .ok (.invokestatic 68, 3) := by decide +kernel
theorem dX6_chance_21 : decode cX6_chance 21 = .ok (.ifCond .ne 6, 3) := by decide +kernel
theorem dX6_chance_24 : decode cX6_chance 24 = .ok (.bipush (-2), 2) := by decide +kernel
theorem dX6_chance_26 : decode cX6_chance 26 = .ok (.ireturn, 1) := by decide +kernel
theorem dX6_chance_27 : decode cX6_chance 27 = .ok (.iconst 0, 1) := by decide +kernel
theorem dX6_chance_28 : decode cX6_chance 28 = .ok (.istore 5, 2) := by decide +kernel
theorem dX6_chance_30 : decode cX6_chance 30 = .ok (.iconst 0, 1) := by decide +kernel
theorem dX6_chance_31 : decode cX6_chance 31 = .ok (.istore 6, 2) := by decide +kernel
theorem dX6_chance_33 : decode cX6_chance 33 = .ok (.iload 6, 2) := by decide +kernel
theorem dX6_chance_35 : decode cX6_chance 35 = .ok (.iconst 1, 1) := by decide +kernel
theorem dX6_chance_36 : decode cX6_chance 36 = .ok (.iconst 4, 1) := by decide +kernel
theorem dX6_chance_37 : decode cX6_chance 37 = .ok (.iload_n 2, 1) := by decide +kernel
theorem dX6_chance_38 : decode cX6_chance 38 = .ok (.imul, 1) := by decide +kernel
theorem dX6_chance_39 : decode cX6_chance 39 = .ok (.ishl, 1) := by decide +kernel
theorem dX6_chance_40 : decode cX6_chance 40 = .ok (.if_icmp .ge 99, 3) := by decide +kernel
theorem dX6_chance_43 : decode cX6_chance 43 = .ok (.aload_n 0, 1) := by decide +kernel
theorem dX6_chance_44 : decode cX6_chance 44 = .ok (.getfield 22, 3) := by decide +kernel
theorem dX6_chance_47 : decode cX6_chance 47 = .ok (.aload_n 0, 1) := by decide +kernel
theorem dX6_chance_48 : decode cX6_chance 48 = .ok (.getfield 25, 3) := by decide +kernel
theorem dX6_chance_51 : decode cX6_chance 51 = .ok (.invokestatic 212, 3) := by decide +kernel
theorem dX6_chance_54 : decode cX6_chance 54 = .ok (.iconst 0, 1) := by decide +kernel
theorem dX6_chance_55 : decode cX6_chance 55 = .ok (.istore 7, 2) := by decide +kernel
theorem dX6_chance_57 : decode cX6_chance 57 = .ok (.iload 7, 2) := by decide +kernel
theorem dX6_chance_59 : decode cX6_chance 59 = .ok (.iload_n 2, 1) := by decide +kernel
theorem dX6_chance_60 : decode cX6_chance 60 = .ok (.if_icmp .ge 28, 3) := by decide +kernel
theorem dX6_chance_63 : decode cX6_chance 63 = .ok (.aload_n 0, 1) := by decide +kernel
theorem dX6_chance_64 : decode cX6_chance 64 = .ok (.aload_n 0, 1) := by decide +kernel
theorem dX6_chance_65 : decode cX6_chance 65 = .ok (.getfield 25, 3) := by decide +kernel
theorem dX6_chance_68 : decode cX6_chance 68 = .ok (.iload_n 1, 1) := by decide +kernel
theorem dX6_chance_69 : decode cX6_chance 69 = .ok (.iload 6, 2) := by decide +kernel
theorem dX6_chance_71 : decode cX6_chance 71 = .ok (.iconst 4, 1) := by decide +kernel
theorem dX6_chance_72 : decode cX6_chance 72 = .ok (.iload 7, 2) := by decide +kernel
theorem dX6_chance_74 : decode cX6_chance 74 = .ok (.imul, 1) := by decide +kernel
theorem dX6_chance_75 : decode cX6_chance 75 = .ok (.ishr, 1) := by decide +kernel
theorem dX6_chance_76 : decode cX6_chance 76 = .ok (.bipush 15, 2) := by decide +kernel
theorem dX6_chance_78 : decode cX6_chance 78 = .ok (.iand, 1) := by decide +kernel
theorem dX6_chance_79 : decode cX6_chance 79 = .ok (.invokevirtual 206, 3) := by decide +kernel
theorem dX6_chance_82 : decode cX6_chance 82 = .ok (.iinc 7 1, 3) := by decide +kernel
theorem dX6_chance_85 : decode cX6_chance 85 = .ok (.goto (-28), 3) := by decide +kernel
theorem dX6_chance_88 : decode cX6_chance 88 = .ok (.iload 5, 2) := by decide +kernel
theorem dX6_chance_90 : decode cX6_chance 90 = .ok (.aload_n 0, 1) := by decide +kernel
theorem dX6_chance_91 : decode cX6_chance 91 = .ok (.getfield 25, 3) := by decide +kernel
theorem dX6_chance_94 : decode cX6_chance 94 = .ok (.iconst 3, 1) := by decide +kernel
theorem dX6_chance_95 : decode cX6_chance 95 = .ok (.iaload, 1) := by decide +kernel
theorem dX6_chance_96 : decode cX6_chance 96 = .ok (.iconst 1, 1) := by decide +kernel
theorem dX6_chance_97 : decode cX6_chance 97 = .ok (.if_icmp .ne 32, 3) := by decide +kernel
theorem dX6_chance_100 : decode cX6_chance 100 = .ok (.iload_n 3, 1) := by decide +kernel
theorem dX6_chance_101 : decode cX6_chance 101 = .ok (.iload 6, 2) := by decide +kernel
theorem dX6_chance_103 : decode cX6_chance 103 = .ok (.invokestatic 195, 3) := by decide +kernel
theorem dX6_chance_106 : decode cX6_chance 106 = .ok (.invokestatic 240, 3) := by decide +kernel
theorem dX6_chance_109 : decode cX6_chance 109 = .ok (.bipush 10, 2) := by decide +kernel
theorem dX6_chance_111 : decode cX6_chance 111 = .ok (.iload_n 3, 1) := by decide +kernel
theorem dX6_chance_112 : decode cX6_chance 112 = .ok (.isub, 1) := by decide +kernel
theorem dX6_chance_113 : decode cX6_chance 113 = .ok (.iconst 4, 1) := by decide +kernel
theorem dX6_chance_114 : decode cX6_chance 114 = .ok (.iload_n 2, 1) := by decide +kernel
theorem dX6_chance_115 : decode cX6_chance 115 = .ok (.imul, 1) := by decide +kernel
theorem dX6_chance_116 : decode cX6_chance 116 = .ok (.iload 6, 2) := by decide +kernel
theorem dX6_chance_118 : decode cX6_chance 118 = .ok (.invokestatic 195, 3) := by decide +kernel
theorem dX6_chance_121 : decode cX6_chance 121 = .ok (.isub, 1) := by decide +kernel
theorem dX6_chance_122 : decode cX6_chance 122 = .ok (.invokestatic 240, 3) := by decide +kernel
theorem dX6_chance_125 : decode cX6_chance 125 = .ok (.imul, 1) := by decide +kernel
theorem dX6_chance_126 : decode cX6_chance 126 = .ok (.goto 4, 3) := by decide +kernel
theorem dX6_chance_129 : decode cX6_chance 129 = .ok (.iconst 0, 1) := by decide +kernel
theorem dX6_chance_130 : decode cX6_chance 130 = .ok (.iadd, 1) := by decide +kernel
theorem dX6_chance_131 : decode cX6_chance 131 = .ok (.istore 5, 2) := by decide +kernel
theorem dX6_chance_133 : decode cX6_chance 133 = .ok (.iinc 6 1, 3) := by decide +kernel
theorem dX6_chance_136 : decode cX6_chance 136 = .ok (.goto (-103), 3) := by decide +kernel
theorem dX6_chance_139 : decode cX6_chance 139 = .ok (.iload 5, 2) := by decide +kernel
theorem dX6_chance_141 : decode cX6_chance 141 = .ok (.bipush 10, 2) := by decide +kernel
theorem dX6_chance_143 : decode cX6_chance 143 = .ok (.iconst 4, 1) := by decide +kernel
theorem dX6_chance_144 : decode cX6_chance 144 = .ok (.iload_n 2, 1) := by decide +kernel
theorem dX6_chance_145 : decode cX6_chance 145 = .ok (.imul, 1) := by decide +kernel
theorem dX6_chance_146 : decode cX6_chance 146 = .ok (.invokestatic 240, 3) := by decide +kernel
theorem dX6_chance_149 : decode cX6_chance 149 = .ok (.iload 4, 2) := by decide +kernel
theorem dX6_chance_151 : decode cX6_chance 151 = .ok (.invokestatic 234, 3) := by decide +kernel
theorem dX6_chance_154 : decode cX6_chance 154 = .ok (.ireturn, 1) := by decide +kernel
theorem dX6_seed_0 : decode cX6_seed 0 = .ok (.aload_n 0, 1) := by decide +kernel
theorem dX6_seed_1 : decode cX6_seed 1 = .ok (.getfield 243, 3) := by decide +kernel
theorem dX6_seed_4 : decode cX6_seed 4 = .ok (.lstore_n 3, 1) := by decide +kernel
theorem dX6_seed_5 : decode cX6_seed 5 = .ok (.aload_n 0, 1) := by decide +kernel
theorem dX6_seed_6 : decode cX6_seed 6 = .ok (.lload_n 1, 1) := by decide +kernel
theorem dX6_seed_7 : decode cX6_seed 7 = .ok (.putfield 243, 3) := by decide +kernel
theorem dX6_seed_10 : decode cX6_seed 10 = .ok (.lload_n 3, 1) := by decide +kernel
theorem dX6_seed_11 : decode cX6_seed 11 = .ok (.lreturn, 1) := by decide +kernel
theorem dX6_drawn_0 : decode cX6_drawn 0 = .ok (.iload_n 1, 1) := by decide +kernel
theorem dX6_drawn_1 : decode cX6_drawn 1 = .ok (.i2l, 1) := by decide +kernel
theorem dX6_drawn_2 : decode cX6_drawn 2 = .ok (.lconst 1, 1) := by decide +kernel
theorem dX6_drawn_3 : decode cX6_drawn 3 = .ok (.ldc2_w 247, 3) := by decide +kernel
theorem dX6_drawn_6 : decode cX6_drawn 6 = .ok (.invokestatic 68, 3) := by decide +kernel
theorem dX6_drawn_9 : decode cX6_drawn 9 = .ok (.ifCond .ne 6, 3) := by decide +kernel
theorem dX6_drawn_12 : decode cX6_drawn 12 = .ok (.bipush (-2), 2) := by decide +kernel
theorem dX6_drawn_14 : decode cX6_drawn 14 = .ok (.ireturn, 1) := by decide +kernel
theorem dX6_drawn_15 : decode cX6_drawn 15 = .ok (.aload_n 0, 1) := by decide +kernel
theorem dX6_drawn_16 : decode cX6_drawn 16 = .ok (.getfield 22, 3) := by decide +kernel
theorem dX6_drawn_19 : decode cX6_drawn 19 = .ok (.aload_n 0, 1) := by decide +kernel
theorem dX6_drawn_20 : decode cX6_drawn 20 = .ok (.getfield 25, 3) := by decide +kernel
theorem dX6_drawn_23 : decode cX6_drawn 23 = .ok (.invokestatic 212, 3) := by decide +kernel
theorem dX6_drawn_26 : decode cX6_drawn 26 = .ok (.iconst 0, 1) := by decide +kernel
theorem dX6_drawn_27 : decode cX6_drawn 27 = .ok (.istore_n 2, 1) := by decide +kernel
theorem dX6_drawn_28 : decode cX6_drawn 28 = .ok (.iconst 0, 1) := by decide +kernel
theorem dX6_drawn_29 : decode cX6_drawn 29 = .ok (.istore_n 3, 1) := by decide +kernel
theorem dX6_drawn_30 : decode cX6_drawn 30 = .ok (.iload_n 3, 1) := by decide +kernel
theorem dX6_drawn_31 : decode cX6_drawn 31 = .ok (.iload_n 1, 1) := by decide +kernel
theorem dX6_drawn_32 : decode cX6_drawn 32 = .ok (.if_icmp .ge 96, 3) := by decide +kernel
theorem dX6_drawn_35 : decode cX6_drawn 35 = .ok (.aload_n 0, 1) := by decide +kernel
theorem dX6_drawn_36 : decode cX6_drawn 36 = .ok (.aload_n 0, 1) := by decide +kernel
theorem dX6_drawn_37 : decode cX6_drawn 37 = .ok (.getfield 243, 3) := by decide +kernel
theorem dX6_drawn_40 : decode cX6_drawn 40 = .ok (.ldc2_w 249, 3) := by decide +kernel
theorem dX6_drawn_43 : decode cX6_drawn 43 = .ok (.lmul, 1) := by decide +kernel
theorem dX6_drawn_44 : decode cX6_drawn 44 = .ok (.ldc2_w 251, 3) := by decide +kernel
theorem dX6_drawn_47 : decode cX6_drawn 47 = .ok (.ladd, 1) := by decide +kernel
theorem dX6_drawn_48 : decode cX6_drawn 48 = .ok (.putfield 243, 3) := by decide +kernel
theorem dX6_drawn_51 : decode cX6_drawn 51 = .ok (.aload_n 0, 1) := by decide +kernel
theorem dX6_drawn_52 : decode cX6_drawn 52 = .ok (.getfield 243, 3) := by decide +kernel
theorem dX6_drawn_55 : decode cX6_drawn 55 = .ok (.bipush 33, 2) := by decide +kernel
theorem dX6_drawn_57 : decode cX6_drawn 57 = .ok (.lushr, 1) := by decide +kernel
theorem dX6_drawn_58 : decode cX6_drawn 58 = .ok (.l2i, 1) := by decide +kernel
theorem dX6_drawn_59 : decode cX6_drawn 59 = .ok (.istore 4, 2) := by decide +kernel
theorem dX6_drawn_61 : decode cX6_drawn 61 = .ok (.iload 4, 2) := by decide +kernel
theorem dX6_drawn_63 : decode cX6_drawn 63 = .ok (.bipush 8, 2) := by decide +kernel
theorem dX6_drawn_65 : decode cX6_drawn 65 = .ok (.ishr, 1) := by decide +kernel
theorem dX6_drawn_66 : decode cX6_drawn 66 = .ok (.iconst 4, 1) := by decide +kernel
theorem dX6_drawn_67 : decode cX6_drawn 67 = .ok (.irem, 1) := by decide +kernel
theorem dX6_drawn_68 : decode cX6_drawn 68 = .ok (.ifCond .ne 16, 3) := by decide +kernel
theorem dX6_drawn_71 : decode cX6_drawn 71 = .ok (.iconst 1, 1) := by decide +kernel
theorem dX6_drawn_72 : decode cX6_drawn 72 = .ok (.iload 4, 2) := by decide +kernel
theorem dX6_drawn_74 : decode cX6_drawn 74 = .ok (.bipush 12, 2) := by decide +kernel
theorem dX6_drawn_76 : decode cX6_drawn 76 = .ok (.ishr, 1) := by decide +kernel
theorem dX6_drawn_77 : decode cX6_drawn 77 = .ok (.bipush 14, 2) := by decide +kernel
theorem dX6_drawn_79 : decode cX6_drawn 79 = .ok (.irem, 1) := by decide +kernel
theorem dX6_drawn_80 : decode cX6_drawn 80 = .ok (.ishl, 1) := by decide +kernel
theorem dX6_drawn_81 : decode cX6_drawn 81 = .ok (.goto 4, 3) := by decide +kernel
theorem dX6_drawn_84 : decode cX6_drawn 84 = .ok (.iconst 0, 1) := by decide +kernel
theorem dX6_drawn_85 : decode cX6_drawn 85 = .ok (.istore 5, 2) := by decide +kernel
theorem dX6_drawn_87 : decode cX6_drawn 87 = .ok (.aload_n 0, 1) := by decide +kernel
theorem dX6_drawn_88 : decode cX6_drawn 88 = .ok (.aload_n 0, 1) := by decide +kernel
theorem dX6_drawn_89 : decode cX6_drawn 89 = .ok (.getfield 25, 3) := by decide +kernel
theorem dX6_drawn_92 : decode cX6_drawn 92 = .ok (.bipush 14, 2) := by decide +kernel
theorem dX6_drawn_94 : decode cX6_drawn 94 = .ok (.aload_n 0, 1) := by decide +kernel
theorem dX6_drawn_95 : decode cX6_drawn 95 = .ok (.iload_n 3, 1) := by decide +kernel
theorem dX6_drawn_96 : decode cX6_drawn 96 = .ok (.iconst 3, 1) := by decide +kernel
theorem dX6_drawn_97 : decode cX6_drawn 97 = .ok (.iand, 1) := by decide +kernel
theorem dX6_drawn_98 : decode cX6_drawn 98 = .ok (.iload 4, 2) := by decide +kernel
theorem dX6_drawn_100 : decode cX6_drawn 100 = .ok (.sipush 255, 3) := by decide +kernel
theorem dX6_drawn_103 : decode cX6_drawn 103 = .ok (.iand, 1) := by decide +kernel
theorem dX6_drawn_104 : decode cX6_drawn 104 = .ok (.invokevirtual 168, 3) := by decide +kernel
theorem dX6_drawn_107 : decode cX6_drawn 107 = .ok (.iload 5, 2) := by decide +kernel
theorem dX6_drawn_109 : decode cX6_drawn 109 = .ok (.ixor, 1) := by decide +kernel
theorem dX6_drawn_110 : decode cX6_drawn 110 = .ok (.invokevirtual 171, 3) := by decide +kernel
theorem dX6_drawn_113 : decode cX6_drawn 113 = .ok (.iload_n 2, 1) := by decide +kernel
theorem dX6_drawn_114 : decode cX6_drawn 114 = .ok (.aload_n 0, 1) := by decide +kernel
theorem dX6_drawn_115 : decode cX6_drawn 115 = .ok (.getfield 25, 3) := by decide +kernel
theorem dX6_drawn_118 : decode cX6_drawn 118 = .ok (.iconst 3, 1) := by decide +kernel
theorem dX6_drawn_119 : decode cX6_drawn 119 = .ok (.iaload, 1) := by decide +kernel
theorem dX6_drawn_120 : decode cX6_drawn 120 = .ok (.iadd, 1) := by decide +kernel
theorem dX6_drawn_121 : decode cX6_drawn 121 = .ok (.istore_n 2, 1) := by decide +kernel
theorem dX6_drawn_122 : decode cX6_drawn 122 = .ok (.iinc 3 1, 3) := by decide +kernel
theorem dX6_drawn_125 : decode cX6_drawn 125 = .ok (.goto (-95), 3) := by decide +kernel
theorem dX6_drawn_128 : decode cX6_drawn 128 = .ok (.iload_n 2, 1) := by decide +kernel
theorem dX6_drawn_129 : decode cX6_drawn 129 = .ok (.ireturn, 1) := by decide +kernel
theorem dX6_keep_0 : decode cX6_keep 0 = .ok (.iload_n 1, 1) := by decide +kernel
theorem dX6_keep_1 : decode cX6_keep 1 = .ok (.i2l, 1) := by decide +kernel
theorem dX6_keep_2 : decode cX6_keep 2 = .ok (.lconst 0, 1) := by decide +kernel
theorem dX6_keep_3 : decode cX6_keep 3 = .ok (.lconst 1, 1) := by decide +kernel
