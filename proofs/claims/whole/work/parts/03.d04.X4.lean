theorem dX4_init_0 : decode cX4_init 0 = .ok (.aload_n 0, 1) := by decide +kernel
theorem dX4_init_1 : decode cX4_init 1 = .ok (.invokespecial 3, 3) := by decide +kernel
theorem dX4_init_4 : decode cX4_init 4 = .ok (.aload_n 0, 1) := by decide +kernel
theorem dX4_init_5 : decode cX4_init 5 = .ok (.bipush 40, 2) := by decide +kernel
theorem dX4_init_7 : decode cX4_init 7 = .ok (.newarray .int, 2) := by decide +kernel
theorem dX4_init_9 : decode cX4_init 9 = .ok (.putfield 11, 3) := by decide +kernel
theorem dX4_init_12 : decode cX4_init 12 = .ok (.aload_n 0, 1) := by decide +kernel
theorem dX4_init_13 : decode cX4_init 13 = .ok (.iconst 0, 1) := by decide +kernel
theorem dX4_init_14 : decode cX4_init 14 = .ok (.putfield 15, 3) := by decide +kernel
theorem dX4_init_17 : decode cX4_init 17 = .ok (.return_, 1) := by decide +kernel
theorem dX4_add_0 : decode cX4_add 0 = .ok (.aload_n 0, 1) := by decide +kernel
theorem dX4_add_1 : decode cX4_add 1 = .ok (.getfield 15, 3) := by decide +kernel
theorem dX4_add_4 : decode cX4_add 4 = .ok (.bipush 40, 2) := by decide +kernel
theorem dX4_add_6 : decode cX4_add 6 = .ok (.if_icmp .lt 5, 3) := by decide +kernel
theorem dX4_add_9 : decode cX4_add 9 = .ok (.iconst 0, 1) := by decide +kernel
theorem dX4_add_10 : decode cX4_add 10 = .ok (.ireturn, 1) := by decide +kernel
theorem dX4_add_11 : decode cX4_add 11 = .ok (.aload_n 0, 1) := by decide +kernel
theorem dX4_add_12 : decode cX4_add 12 = .ok (.getfield 11, 3) := by decide +kernel
theorem dX4_add_15 : decode cX4_add 15 = .ok (.aload_n 0, 1) := by decide +kernel
theorem dX4_add_16 : decode cX4_add 16 = .ok (.getfield 15, 3) := by decide +kernel
theorem dX4_add_19 : decode cX4_add 19 = .ok (.iload_n 1, 1) := by decide +kernel
theorem dX4_add_20 : decode cX4_add 20 = .ok (.iastore, 1) := by decide +kernel
theorem dX4_add_21 : decode cX4_add 21 = .ok (.aload_n 0, 1) := by decide +kernel
theorem dX4_add_22 : decode cX4_add 22 = .ok (.dup, 1) := by decide +kernel
theorem dX4_add_23 : decode cX4_add 23 = .ok (.getfield 15, 3) := by decide +kernel
theorem dX4_add_26 : decode cX4_add 26 = .ok (.iconst 1, 1) := by decide +kernel
theorem dX4_add_27 : decode cX4_add 27 = .ok (.iadd, 1) := by decide +kernel
theorem dX4_add_28 : decode cX4_add 28 = .ok (.putfield 15, 3) := by decide +kernel
theorem dX4_add_31 : decode cX4_add 31 = .ok (.iconst 1, 1) := by decide +kernel
theorem dX4_add_32 : decode cX4_add 32 = .ok (.ireturn, 1) := by decide +kernel
theorem dX4_firstFault_0 : decode cX4_firstFault 0 = .ok (.aload_n 0, 1) := by decide +kernel
theorem dX4_firstFault_1 : decode cX4_firstFault 1 = .ok (.getfield 15, 3) := by decide +kernel
theorem dX4_firstFault_4 : decode cX4_firstFault 4 = .ok (.bipush 13, 2) := by decide +kernel
theorem dX4_firstFault_6 : decode cX4_firstFault 6 = .ok (.invokestatic 19, 3) := by decide +kernel
theorem dX4_firstFault_9 : decode cX4_firstFault 9 = .ok (.istore_n 1, 1) := by decide +kernel
theorem dX4_firstFault_10 : decode cX4_firstFault 10 = .ok (.iconst 0, 1) := by decide +kernel
theorem dX4_firstFault_11 : decode cX4_firstFault 11 = .ok (.istore_n 2, 1) := by decide +kernel
theorem dX4_firstFault_12 : decode cX4_firstFault 12 = .ok (.iload_n 2, 1) := by decide +kernel
theorem dX4_firstFault_13 : decode cX4_firstFault 13 = .ok (.iload_n 1, 1) := by decide +kernel
theorem dX4_firstFault_14 : decode cX4_firstFault 14 = .ok (.if_icmp .ge 19, 3) := by decide +kernel
theorem dX4_firstFault_17 : decode cX4_firstFault 17 = .ok (.aload_n 0, 1) := by decide +kernel
theorem dX4_firstFault_18 : decode cX4_firstFault 18 = .ok (.iload_n 2, 1) := by decide +kernel
theorem dX4_firstFault_19 : decode cX4_firstFault 19 = .ok (.invokevirtual 25, 3) := by decide +kernel
theorem dX4_firstFault_22 : decode cX4_firstFault 22 = .ok (.ifCond .ne 5, 3) := by decide +kernel
theorem dX4_firstFault_25 : decode cX4_firstFault 25 = .ok (.iload_n 2, 1) := by decide +kernel
theorem dX4_firstFault_26 : decode cX4_firstFault 26 = .ok (.ireturn, 1) := by decide +kernel
theorem dX4_firstFault_27 : decode cX4_firstFault 27 = .ok (.iinc 2 1, 3) := by decide +kernel
theorem dX4_firstFault_30 : decode cX4_firstFault 30 = .ok (.goto (-18), 3) := by decide +kernel
theorem dX4_firstFault_33 : decode cX4_firstFault 33 = .ok (.aload_n 0, 1) := by decide +kernel
theorem dX4_firstFault_34 : decode cX4_firstFault 34 = .ok (.getfield 15, 3) := by decide +kernel
theorem dX4_firstFault_37 : decode cX4_firstFault 37 = .ok (.bipush 13, 2) := by decide +kernel
theorem dX4_firstFault_39 : decode cX4_firstFault 39 = .ok (.if_icmp .ne 8, 3) := by decide +kernel
theorem dX4_firstFault_42 : decode cX4_firstFault 42 = .ok (.bipush (-9), 2) := by decide +kernel
theorem dX4_firstFault_44 : decode cX4_firstFault 44 = .ok (.goto 4, 3) := by decide +kernel
theorem dX4_firstFault_47 : decode cX4_firstFault 47 = .ok (.iload_n 1, 1) := by decide +kernel
theorem dX4_firstFault_48 : decode cX4_firstFault 48 = .ok (.ireturn, 1) := by decide +kernel
theorem dX4_fits_0 : decode cX4_fits 0 = .ok (.iload_n 1, 1) := by decide +kernel
theorem dX4_fits_1 : decode cX4_fits 1 = .ok (.ifCond .ne 20, 3) := by decide +kernel
theorem dX4_fits_4 : decode cX4_fits 4 = .ok (.aload_n 0, 1) := by decide +kernel
theorem dX4_fits_5 : decode cX4_fits 5 = .ok (.getfield 11, 3) := by decide +kernel
theorem dX4_fits_8 : decode cX4_fits 8 = .ok (.iconst 0, 1) := by decide +kernel
theorem dX4_fits_9 : decode cX4_fits 9 = .ok (.iaload, 1) := by decide +kernel
theorem dX4_fits_10 : decode cX4_fits 10 = .ok (.bipush 83, 2) := by decide +kernel
theorem dX4_fits_12 : decode cX4_fits 12 = .ok (.if_icmp .ne 7, 3) := by decide +kernel
theorem dX4_fits_15 : decode cX4_fits 15 = .ok (.iconst 1, 1) := by decide +kernel
theorem dX4_fits_16 : decode cX4_fits 16 = .ok (.goto 4, 3) := by decide +kernel
theorem dX4_fits_19 : decode cX4_fits 19 = .ok (.iconst 0, 1) := by decide +kernel
theorem dX4_fits_20 : decode cX4_fits 20 = .ok (.ireturn, 1) := by decide +kernel
theorem dX4_fits_21 : decode cX4_fits 21 = .ok (.aload_n 0, 1) := by decide +kernel
theorem dX4_fits_22 : decode cX4_fits 22 = .ok (.iload_n 1, 1) := by decide +kernel
theorem dX4_fits_23 : decode cX4_fits 23 = .ok (.invokevirtual 29, 3) := by decide +kernel
theorem dX4_fits_26 : decode cX4_fits 26 = .ok (.istore_n 2, 1) := by decide +kernel
theorem dX4_fits_27 : decode cX4_fits 27 = .ok (.iload_n 2, 1) := by decide +kernel
theorem dX4_fits_28 : decode cX4_fits 28 = .ok (.ifCond .lt 9, 3) := by decide +kernel
theorem dX4_fits_31 : decode cX4_fits 31 = .ok (.iload_n 2, 1) := by decide +kernel
theorem dX4_fits_32 : decode cX4_fits 32 = .ok (.bipush 9, 2) := by decide +kernel
theorem dX4_fits_34 : decode cX4_fits 34 = .ok (.if_icmp .le 5, 3) := by decide +kernel
theorem dX4_fits_37 : decode cX4_fits 37 = .ok (.iconst 0, 1) := by decide +kernel
theorem dX4_fits_38 : decode cX4_fits 38 = .ok (.ireturn, 1) := by decide +kernel
theorem dX4_fits_39 : decode cX4_fits 39 = .ok (.iload_n 1, 1) := by decide +kernel
theorem dX4_fits_40 : decode cX4_fits 40 = .ok (.bipush 11, 2) := by decide +kernel
theorem dX4_fits_42 : decode cX4_fits 42 = .ok (.if_icmp .ne 14, 3) := by decide +kernel
theorem dX4_fits_45 : decode cX4_fits 45 = .ok (.iload_n 2, 1) := by decide +kernel
theorem dX4_fits_46 : decode cX4_fits 46 = .ok (.iconst 3, 1) := by decide +kernel
theorem dX4_fits_47 : decode cX4_fits 47 = .ok (.if_icmp .gt 7, 3) := by decide +kernel
theorem dX4_fits_50 : decode cX4_fits 50 = .ok (.iconst 1, 1) := by decide +kernel
theorem dX4_fits_51 : decode cX4_fits 51 = .ok (.goto 4, 3) := by decide +kernel
theorem dX4_fits_54 : decode cX4_fits 54 = .ok (.iconst 0, 1) := by decide +kernel
theorem dX4_fits_55 : decode cX4_fits 55 = .ok (.ireturn, 1) := by decide +kernel
theorem dX4_fits_56 : decode cX4_fits 56 = .ok (.iload_n 1, 1) := by decide +kernel
theorem dX4_fits_57 : decode cX4_fits 57 = .ok (.bipush 12, 2) := by decide +kernel
theorem dX4_fits_59 : decode cX4_fits 59 = .ok (.if_icmp .ne 14, 3) := by decide +kernel
theorem dX4_fits_62 : decode cX4_fits 62 = .ok (.iload_n 2, 1) := by decide +kernel
theorem dX4_fits_63 : decode cX4_fits 63 = .ok (.iconst 1, 1) := by decide +kernel
theorem dX4_fits_64 : decode cX4_fits 64 = .ok (.if_icmp .lt 7, 3) := by decide +kernel
theorem dX4_fits_67 : decode cX4_fits 67 = .ok (.iconst 1, 1) := by decide +kernel
theorem dX4_fits_68 : decode cX4_fits 68 = .ok (.goto 4, 3) := by decide +kernel
theorem dX4_fits_71 : decode cX4_fits 71 = .ok (.iconst 0, 1) := by decide +kernel
theorem dX4_fits_72 : decode cX4_fits 72 = .ok (.ireturn, 1) := by decide +kernel
theorem dX4_fits_73 : decode cX4_fits 73 = .ok (.iload_n 1, 1) := by decide +kernel
theorem dX4_fits_74 : decode cX4_fits 74 = .ok (.iconst 1, 1) := by decide +kernel
theorem dX4_fits_75 : decode cX4_fits 75 = .ok (.iand, 1) := by decide +kernel
theorem dX4_fits_76 : decode cX4_fits 76 = .ok (.iconst 1, 1) := by decide +kernel
theorem dX4_fits_77 : decode cX4_fits 77 = .ok (.if_icmp .ne 17, 3) := by decide +kernel
theorem dX4_fits_80 : decode cX4_fits 80 = .ok (.iload_n 2, 1) := by decide +kernel
theorem dX4_fits_81 : decode cX4_fits 81 = .ok (.bipush 6, 2) := by decide +kernel
theorem dX4_fits_83 : decode cX4_fits 83 = .ok (.if_icmp .gt 7, 3) := by decide +kernel
theorem dX4_fits_86 : decode cX4_fits 86 = .ok (.iconst 1, 1) := by decide +kernel
theorem dX4_fits_87 : decode cX4_fits 87 = .ok (.goto 12, 3) := by decide +kernel
theorem dX4_fits_90 : decode cX4_fits 90 = .ok (.iconst 0, 1) := by decide +kernel
theorem dX4_fits_91 : decode cX4_fits 91 = .ok (.goto 8, 3) := by decide +kernel
theorem dX4_fits_94 : decode cX4_fits 94 = .ok (.aload_n 0, 1) := by decide +kernel
theorem dX4_fits_95 : decode cX4_fits 95 = .ok (.iload_n 1, 1) := by decide +kernel
theorem dX4_fits_96 : decode cX4_fits 96 = .ok (.invokevirtual 33, 3) := by decide +kernel
theorem dX4_fits_99 : decode cX4_fits 99 = .ok (.ireturn, 1) := by decide +kernel
theorem dX4_endsNumber_0 : decode cX4_endsNumber 0 = .ok (.aload_n 0, 1) := by decide +kernel
theorem dX4_endsNumber_1 : decode cX4_endsNumber 1 = .ok (.iload_n 1, 1) := by decide +kernel
theorem dX4_endsNumber_2 : decode cX4_endsNumber 2 = .ok (.iconst 1, 1) := by decide +kernel
theorem dX4_endsNumber_3 : decode cX4_endsNumber 3 = .ok (.isub, 1) := by decide +kernel
theorem dX4_endsNumber_4 : decode cX4_endsNumber 4 = .ok (.invokevirtual 36, 3) := by decide +kernel
theorem dX4_endsNumber_7 : decode cX4_endsNumber 7 = .ok (.istore_n 2, 1) := by decide +kernel
theorem dX4_endsNumber_8 : decode cX4_endsNumber 8 = .ok (.iload_n 2, 1) := by decide +kernel
theorem dX4_endsNumber_9 : decode cX4_endsNumber 9 = .ok (.bipush 63, 2) := by decide +kernel
theorem dX4_endsNumber_11 : decode cX4_endsNumber 11 = .ok (.if_icmp .le 5, 3) := by decide +kernel
theorem dX4_endsNumber_14 : decode cX4_endsNumber 14 = .ok (.iconst 0, 1) := by decide +kernel
theorem dX4_endsNumber_15 : decode cX4_endsNumber 15 = .ok (.ireturn, 1) := by decide +kernel
theorem dX4_endsNumber_16 : decode cX4_endsNumber 16 = .ok (.iload_n 1, 1) := by decide +kernel
theorem dX4_endsNumber_17 : decode cX4_endsNumber 17 = .ok (.iconst 3, 1) := by decide +kernel
theorem dX4_endsNumber_18 : decode cX4_endsNumber 18 = .ok (.if_icmp .ge 16, 3) := by decide +kernel
theorem dX4_endsNumber_21 : decode cX4_endsNumber 21 = .ok (.iload_n 2, 1) := by decide +kernel
theorem dX4_endsNumber_22 : decode cX4_endsNumber 22 = .ok (.iconst 1, 1) := by decide +kernel
theorem dX4_endsNumber_23 : decode cX4_endsNumber 23 = .ok (.iand, 1) := by decide +kernel
theorem dX4_endsNumber_24 : decode cX4_endsNumber 24 = .ok (.iconst 1, 1) := by decide +kernel
theorem dX4_endsNumber_25 : decode cX4_endsNumber 25 = .ok (.if_icmp .ne 7, 3) := by decide +kernel
theorem dX4_endsNumber_28 : decode cX4_endsNumber 28 = .ok (.iconst 1, 1) := by decide +kernel
theorem dX4_endsNumber_29 : decode cX4_endsNumber 29 = .ok (.goto 4, 3) := by decide +kernel
theorem dX4_endsNumber_32 : decode cX4_endsNumber 32 = .ok (.iconst 0, 1) := by decide +kernel
theorem dX4_endsNumber_33 : decode cX4_endsNumber 33 = .ok (.ireturn, 1) := by decide +kernel
theorem dX4_endsNumber_34 : decode cX4_endsNumber 34 = .ok (.iconst 3, 1) := by decide +kernel
theorem dX4_endsNumber_35 : decode cX4_endsNumber 35 = .ok (.istore_n 3, 1) := by decide +kernel
theorem dX4_endsNumber_36 : decode cX4_endsNumber 36 = .ok (.iload_n 3, 1) := by decide +kernel
theorem dX4_endsNumber_37 : decode cX4_endsNumber 37 = .ok (.iload_n 1, 1) := by decide +kernel
theorem dX4_endsNumber_38 : decode cX4_endsNumber 38 = .ok (.iconst 1, 1) := by decide +kernel
theorem dX4_endsNumber_39 : decode cX4_endsNumber 39 = .ok (.isub, 1) := by decide +kernel
theorem dX4_endsNumber_40 : decode cX4_endsNumber 40 = .ok (.if_icmp .ge 20, 3) := by decide +kernel
theorem dX4_endsNumber_43 : decode cX4_endsNumber 43 = .ok (.aload_n 0, 1) := by decide +kernel
theorem dX4_endsNumber_44 : decode cX4_endsNumber 44 = .ok (.iload_n 3, 1) := by decide +kernel
theorem dX4_endsNumber_45 : decode cX4_endsNumber 45 = .ok (.invokevirtual 36, 3) := by decide +kernel
theorem dX4_endsNumber_48 : decode cX4_endsNumber 48 = .ok (.iload_n 2, 1) := by decide +kernel
theorem dX4_endsNumber_49 : decode cX4_endsNumber 49 = .ok (.if_icmp .ne 5, 3) := by decide +kernel
theorem dX4_endsNumber_52 : decode cX4_endsNumber 52 = .ok (.iconst 0, 1) := by decide +kernel
theorem dX4_endsNumber_53 : decode cX4_endsNumber 53 = .ok (.ireturn, 1) := by decide +kernel
theorem dX4_endsNumber_54 : decode cX4_endsNumber 54 = .ok (.iinc 3 2, 3) := by decide +kernel
theorem dX4_endsNumber_57 : decode cX4_endsNumber 57 = .ok (.goto (-21), 3) := by decide +kernel
theorem dX4_endsNumber_60 : decode cX4_endsNumber 60 = .ok (.iconst 1, 1) := by decide +kernel
theorem dX4_endsNumber_61 : decode cX4_endsNumber 61 = .ok (.ireturn, 1) := by decide +kernel
theorem dX4_figureAt_0 : decode cX4_figureAt 0 = .ok (.aload_n 0, 1) := by decide +kernel
theorem dX4_figureAt_1 : decode cX4_figureAt 1 = .ok (.getfield 11, 3) := by decide +kernel
theorem dX4_figureAt_4 : decode cX4_figureAt 4 = .ok (.iload_n 1, 1) := by decide +kernel
theorem dX4_figureAt_5 : decode cX4_figureAt 5 = .ok (.iaload, 1) := by decide +kernel
theorem dX4_figureAt_6 : decode cX4_figureAt 6 = .ok (.bipush 48, 2) := by decide +kernel
theorem dX4_figureAt_8 : decode cX4_figureAt 8 = .ok (.isub, 1) := by decide +kernel
theorem dX4_figureAt_9 : decode cX4_figureAt 9 = .ok (.ireturn, 1) := by decide +kernel
theorem dX4_numberAt_0 : decode cX4_numberAt 0 = .ok (.bipush 10, 2) := by decide +kernel
theorem dX4_numberAt_2 : decode cX4_numberAt 2 = .ok (.aload_n 0, 1) := by decide +kernel
theorem dX4_numberAt_3 : decode cX4_numberAt 3 = .ok (.iload_n 1, 1) := by decide +kernel
theorem dX4_numberAt_4 : decode cX4_numberAt 4 = .ok (.invokevirtual 29, 3) := by decide +kernel
theorem dX4_numberAt_7 : decode cX4_numberAt 7 = .ok (.imul, 1) := by decide +kernel
theorem dX4_numberAt_8 : decode cX4_numberAt 8 = .ok (.aload_n 0, 1) := by decide +kernel
theorem dX4_numberAt_9 : decode cX4_numberAt 9 = .ok (.iload_n 1, 1) := by decide +kernel
theorem dX4_numberAt_10 : decode cX4_numberAt 10 = .ok (.iconst 1, 1) := by decide +kernel
theorem dX4_numberAt_11 : decode cX4_numberAt 11 = .ok (.iadd, 1) := by decide +kernel
theorem dX4_numberAt_12 : decode cX4_numberAt 12 = .ok (.invokevirtual 29, 3) := by decide +kernel
theorem dX4_numberAt_15 : decode cX4_numberAt 15 = .ok (.iadd, 1) := by decide +kernel
theorem dX4_numberAt_16 : decode cX4_numberAt 16 = .ok (.ireturn, 1) := by decide +kernel
