theorem dX1_init_0 : decode cX1_init 0 = .ok (.aload_n 0, 1) := by decide +kernel
theorem dX1_init_1 : decode cX1_init 1 = .ok (.invokespecial 3, 3) := by decide +kernel
theorem dX1_init_4 : decode cX1_init 4 = .ok (.aload_n 0, 1) := by decide +kernel
theorem dX1_init_5 : decode cX1_init 5 = .ok (.iconst 4, 1) := by decide +kernel
theorem dX1_init_6 : decode cX1_init 6 = .ok (.newarray .int, 2) := by decide +kernel
theorem dX1_init_8 : decode cX1_init 8 = .ok (.putfield 9, 3) := by decide +kernel
theorem dX1_init_11 : decode cX1_init 11 = .ok (.aload_n 0, 1) := by decide +kernel
theorem dX1_init_12 : decode cX1_init 12 = .ok (.sipush 256, 3) := by decide +kernel
theorem dX1_init_15 : decode cX1_init 15 = .ok (.newarray .int, 2) := by decide +kernel
theorem dX1_init_17 : decode cX1_init 17 = .ok (.putfield 15, 3) := by decide +kernel
theorem dX1_init_20 : decode cX1_init 20 = .ok (.aload_n 0, 1) := by decide +kernel
theorem dX1_init_21 : decode cX1_init 21 = .ok (.bipush 64, 2) := by decide +kernel
theorem dX1_init_23 : decode cX1_init 23 = .ok (.newarray .int, 2) := by decide +kernel
theorem dX1_init_25 : decode cX1_init 25 = .ok (.putfield 18, 3) := by decide +kernel
theorem dX1_init_28 : decode cX1_init 28 = .ok (.aload_n 0, 1) := by decide +kernel
theorem dX1_init_29 : decode cX1_init 29 = .ok (.bipush 64, 2) := by decide +kernel
theorem dX1_init_31 : decode cX1_init 31 = .ok (.newarray .int, 2) := by decide +kernel
theorem dX1_init_33 : decode cX1_init 33 = .ok (.putfield 21, 3) := by decide +kernel
theorem dX1_init_36 : decode cX1_init 36 = .ok (.aload_n 0, 1) := by decide +kernel
theorem dX1_init_37 : decode cX1_init 37 = .ok (.iconst 1, 1) := by decide +kernel
theorem dX1_init_38 : decode cX1_init 38 = .ok (.putfield 24, 3) := by decide +kernel
theorem dX1_init_41 : decode cX1_init 41 = .ok (.aload_n 0, 1) := by decide +kernel
theorem dX1_init_42 : decode cX1_init 42 = .ok (.iconst 0, 1) := by decide +kernel
theorem dX1_init_43 : decode cX1_init 43 = .ok (.putfield 28, 3) := by decide +kernel
theorem dX1_init_46 : decode cX1_init 46 = .ok (.aload_n 0, 1) := by decide +kernel
theorem dX1_init_47 : decode cX1_init 47 = .ok (.iconst 1, 1) := by decide +kernel
theorem dX1_init_48 : decode cX1_init 48 = .ok (.putfield 31, 3) := by decide +kernel
theorem dX1_init_51 : decode cX1_init 51 = .ok (.aload_n 0, 1) := by decide +kernel
theorem dX1_init_52 : decode cX1_init 52 = .ok (.iconst 0, 1) := by decide +kernel
theorem dX1_init_53 : decode cX1_init 53 = .ok (.putfield 34, 3) := by decide +kernel
theorem dX1_init_56 : decode cX1_init 56 = .ok (.aload_n 0, 1) := by decide +kernel
theorem dX1_init_57 : decode cX1_init 57 = .ok (.iconst 0, 1) := by decide +kernel
theorem dX1_init_58 : decode cX1_init 58 = .ok (.putfield 37, 3) := by decide +kernel
theorem dX1_init_61 : decode cX1_init 61 = .ok (.iconst 0, 1) := by decide +kernel
theorem dX1_init_62 : decode cX1_init 62 = .ok (.istore_n 1, 1) := by decide +kernel
theorem dX1_init_63 : decode cX1_init 63 = .ok (.iload_n 1, 1) := by decide +kernel
theorem dX1_init_64 : decode cX1_init 64 = .ok (.iconst 4, 1) := by decide +kernel
theorem dX1_init_65 : decode cX1_init 65 = .ok (.if_icmp .ge 16, 3) := by decide +kernel
theorem dX1_init_68 : decode cX1_init 68 = .ok (.aload_n 0, 1) := by decide +kernel
theorem dX1_init_69 : decode cX1_init 69 = .ok (.getfield 9, 3) := by decide +kernel
theorem dX1_init_72 : decode cX1_init 72 = .ok (.iload_n 1, 1) := by decide +kernel
theorem dX1_init_73 : decode cX1_init 73 = .ok (.iload_n 1, 1) := by decide +kernel
theorem dX1_init_74 : decode cX1_init 74 = .ok (.iastore, 1) := by decide +kernel
theorem dX1_init_75 : decode cX1_init 75 = .ok (.iinc 1 1, 3) := by decide +kernel
theorem dX1_init_78 : decode cX1_init 78 = .ok (.goto (-15), 3) := by decide +kernel
theorem dX1_init_81 : decode cX1_init 81 = .ok (.aload_n 0, 1) := by decide +kernel
theorem dX1_init_82 : decode cX1_init 82 = .ok (.invokevirtual 40, 3) := by decide +kernel
theorem dX1_init_85 : decode cX1_init 85 = .ok (.return_, 1) := by decide +kernel
theorem dX1_takeFrom_0 : decode cX1_takeFrom 0 = .ok (.aload_n 0, 1) := by decide +kernel
theorem dX1_takeFrom_1 : decode cX1_takeFrom 1 = .ok (.aload_n 1, 1) := by decide +kernel
theorem dX1_takeFrom_2 : decode cX1_takeFrom 2 = .ok (.iconst 1, 1) := by decide +kernel
theorem dX1_takeFrom_3 : decode cX1_takeFrom 3 = .ok (.invokevirtual 45, 3) := by decide +kernel
theorem dX1_takeFrom_6 : decode cX1_takeFrom 6 = .ok (.putfield 24, 3) := by decide +kernel
theorem dX1_takeFrom_9 : decode cX1_takeFrom 9 = .ok (.iconst 0, 1) := by decide +kernel
theorem dX1_takeFrom_10 : decode cX1_takeFrom 10 = .ok (.istore_n 2, 1) := by decide +kernel
theorem dX1_takeFrom_11 : decode cX1_takeFrom 11 = .ok (.iload_n 2, 1) := by decide +kernel
theorem dX1_takeFrom_12 : decode cX1_takeFrom 12 = .ok (.iconst 4, 1) := by decide +kernel
theorem dX1_takeFrom_13 : decode cX1_takeFrom 13 = .ok (.if_icmp .ge 27, 3) := by decide +kernel
theorem dX1_takeFrom_16 : decode cX1_takeFrom 16 = .ok (.aload_n 0, 1) := by decide +kernel
theorem dX1_takeFrom_17 : decode cX1_takeFrom 17 = .ok (.getfield 9, 3) := by decide +kernel
theorem dX1_takeFrom_20 : decode cX1_takeFrom 20 = .ok (.iload_n 2, 1) := by decide +kernel
theorem dX1_takeFrom_21 : decode cX1_takeFrom 21 = .ok (.aload_n 1, 1) := by decide +kernel
theorem dX1_takeFrom_22 : decode cX1_takeFrom 22 = .ok (.iconst 3, 1) := by decide +kernel
theorem dX1_takeFrom_23 : decode cX1_takeFrom 23 = .ok (.iconst 2, 1) := by decide +kernel
theorem dX1_takeFrom_24 : decode cX1_takeFrom 24 = .ok (.iload_n 2, 1) := by decide +kernel
theorem dX1_takeFrom_25 : decode cX1_takeFrom 25 = .ok (.imul, 1) := by decide +kernel
theorem dX1_takeFrom_26 : decode cX1_takeFrom 26 = .ok (.iadd, 1) := by decide +kernel
theorem dX1_takeFrom_27 : decode cX1_takeFrom 27 = .ok (.invokevirtual 45, 3) := by decide +kernel
theorem dX1_takeFrom_30 : decode cX1_takeFrom 30 = .ok (.bipush 63, 2) := by decide +kernel
theorem dX1_takeFrom_32 : decode cX1_takeFrom 32 = .ok (.iand, 1) := by decide +kernel
theorem dX1_takeFrom_33 : decode cX1_takeFrom 33 = .ok (.iastore, 1) := by decide +kernel
theorem dX1_takeFrom_34 : decode cX1_takeFrom 34 = .ok (.iinc 2 1, 3) := by decide +kernel
theorem dX1_takeFrom_37 : decode cX1_takeFrom 37 = .ok (.goto (-26), 3) := by decide +kernel
theorem dX1_takeFrom_40 : decode cX1_takeFrom 40 = .ok (.aload_n 0, 1) := by decide +kernel
theorem dX1_takeFrom_41 : decode cX1_takeFrom 41 = .ok (.aload_n 1, 1) := by decide +kernel
theorem dX1_takeFrom_42 : decode cX1_takeFrom 42 = .ok (.bipush 11, 2) := by decide +kernel
theorem dX1_takeFrom_44 : decode cX1_takeFrom 44 = .ok (.invokevirtual 49, 3) := by decide +kernel
theorem dX1_takeFrom_47 : decode cX1_takeFrom 47 = .ok (.putfield 28, 3) := by decide +kernel
theorem dX1_takeFrom_50 : decode cX1_takeFrom 50 = .ok (.aload_n 0, 1) := by decide +kernel
theorem dX1_takeFrom_51 : decode cX1_takeFrom 51 = .ok (.aload_n 1, 1) := by decide +kernel
theorem dX1_takeFrom_52 : decode cX1_takeFrom 52 = .ok (.bipush 12, 2) := by decide +kernel
theorem dX1_takeFrom_54 : decode cX1_takeFrom 54 = .ok (.invokevirtual 49, 3) := by decide +kernel
theorem dX1_takeFrom_57 : decode cX1_takeFrom 57 = .ok (.putfield 31, 3) := by decide +kernel
theorem dX1_takeFrom_60 : decode cX1_takeFrom 60 = .ok (.aload_n 0, 1) := by decide +kernel
theorem dX1_takeFrom_61 : decode cX1_takeFrom 61 = .ok (.invokevirtual 40, 3) := by decide +kernel
theorem dX1_takeFrom_64 : decode cX1_takeFrom 64 = .ok (.return_, 1) := by decide +kernel
theorem dX1_fillRows_0 : decode cX1_fillRows 0 = .ok (.aload_n 0, 1) := by decide +kernel
theorem dX1_fillRows_1 : decode cX1_fillRows 1 = .ok (.getfield 15, 3) := by decide +kernel
theorem dX1_fillRows_4 : decode cX1_fillRows 4 = .ok (.iconst 0, 1) := by decide +kernel
theorem dX1_fillRows_5 : decode cX1_fillRows 5 = .ok (.iconst 0, 1) := by decide +kernel
theorem dX1_fillRows_6 : decode cX1_fillRows 6 = .ok (.iastore, 1) := by decide +kernel
theorem dX1_fillRows_7 : decode cX1_fillRows 7 = .ok (.iconst 1, 1) := by decide +kernel
theorem dX1_fillRows_8 : decode cX1_fillRows 8 = .ok (.istore_n 1, 1) := by decide +kernel
theorem dX1_fillRows_9 : decode cX1_fillRows 9 = .ok (.iload_n 1, 1) := by decide +kernel
theorem dX1_fillRows_10 : decode cX1_fillRows 10 = .ok (.sipush 256, 3) := by decide +kernel
theorem dX1_fillRows_13 : decode cX1_fillRows 13 = .ok (.if_icmp .ge 63, 3) := by decide +kernel
theorem dX1_fillRows_16 : decode cX1_fillRows 16 = .ok (.aload_n 0, 1) := by decide +kernel
theorem dX1_fillRows_17 : decode cX1_fillRows 17 = .ok (.getfield 15, 3) := by decide +kernel
theorem dX1_fillRows_20 : decode cX1_fillRows 20 = .ok (.iload_n 1, 1) := by decide +kernel
theorem dX1_fillRows_21 : decode cX1_fillRows 21 = .ok (.iconst 1, 1) := by decide +kernel
theorem dX1_fillRows_22 : decode cX1_fillRows 22 = .ok (.ishr, 1) := by decide +kernel
theorem dX1_fillRows_23 : decode cX1_fillRows 23 = .ok (.iaload, 1) := by decide +kernel
theorem dX1_fillRows_24 : decode cX1_fillRows 24 = .ok (.iconst 1, 1) := by decide +kernel
theorem dX1_fillRows_25 : decode cX1_fillRows 25 = .ok (.ishl, 1) := by decide +kernel
theorem dX1_fillRows_26 : decode cX1_fillRows 26 = .ok (.istore_n 2, 1) := by decide +kernel
theorem dX1_fillRows_27 : decode cX1_fillRows 27 = .ok (.iload_n 2, 1) := by decide +kernel
theorem dX1_fillRows_28 : decode cX1_fillRows 28 = .ok (.bipush 63, 2) := by decide +kernel
theorem dX1_fillRows_30 : decode cX1_fillRows 30 = .ok (.if_icmp .le 15, 3) := by decide +kernel
theorem dX1_fillRows_33 : decode cX1_fillRows 33 = .ok (.iload_n 2, 1) := by decide +kernel
theorem dX1_fillRows_34 : decode cX1_fillRows 34 = .ok (.aload_n 0, 1) := by decide +kernel
theorem dX1_fillRows_35 : decode cX1_fillRows 35 = .ok (.getfield 24, 3) := by decide +kernel
theorem dX1_fillRows_38 : decode cX1_fillRows 38 = .ok (.ixor, 1) := by decide +kernel
theorem dX1_fillRows_39 : decode cX1_fillRows 39 = .ok (.bipush 63, 2) := by decide +kernel
theorem dX1_fillRows_41 : decode cX1_fillRows 41 = .ok (.iand, 1) := by decide +kernel
theorem dX1_fillRows_42 : decode cX1_fillRows 42 = .ok (.goto 4, 3) := by decide +kernel
theorem dX1_fillRows_45 : decode cX1_fillRows 45 = .ok (.iload_n 2, 1) := by decide +kernel
theorem dX1_fillRows_46 : decode cX1_fillRows 46 = .ok (.istore_n 3, 1) := by decide +kernel
theorem dX1_fillRows_47 : decode cX1_fillRows 47 = .ok (.aload_n 0, 1) := by decide +kernel
theorem dX1_fillRows_48 : decode cX1_fillRows 48 = .ok (.getfield 15, 3) := by decide +kernel
theorem dX1_fillRows_51 : decode cX1_fillRows 51 = .ok (.iload_n 1, 1) := by decide +kernel
theorem dX1_fillRows_52 : decode cX1_fillRows 52 = .ok (.iload_n 1, 1) := by decide +kernel
theorem dX1_fillRows_53 : decode cX1_fillRows 53 = .ok (.iconst 1, 1) := by decide +kernel
theorem dX1_fillRows_54 : decode cX1_fillRows 54 = .ok (.iand, 1) := by decide +kernel
theorem dX1_fillRows_55 : decode cX1_fillRows 55 = .ok (.iconst 1, 1) := by decide +kernel
theorem dX1_fillRows_56 : decode cX1_fillRows 56 = .ok (.if_icmp .ne 12, 3) := by decide +kernel
theorem dX1_fillRows_59 : decode cX1_fillRows 59 = .ok (.iload_n 3, 1) := by decide +kernel
theorem dX1_fillRows_60 : decode cX1_fillRows 60 = .ok (.aload_n 0, 1) := by decide +kernel
theorem dX1_fillRows_61 : decode cX1_fillRows 61 = .ok (.getfield 24, 3) := by decide +kernel
theorem dX1_fillRows_64 : decode cX1_fillRows 64 = .ok (.ixor, 1) := by decide +kernel
theorem dX1_fillRows_65 : decode cX1_fillRows 65 = .ok (.goto 4, 3) := by decide +kernel
theorem dX1_fillRows_68 : decode cX1_fillRows 68 = .ok (.iload_n 3, 1) := by decide +kernel
theorem dX1_fillRows_69 : decode cX1_fillRows 69 = .ok (.iastore, 1) := by decide +kernel
theorem dX1_fillRows_70 : decode cX1_fillRows 70 = .ok (.iinc 1 1, 3) := by decide +kernel
theorem dX1_fillRows_73 : decode cX1_fillRows 73 = .ok (.goto (-64), 3) := by decide +kernel
theorem dX1_fillRows_76 : decode cX1_fillRows 76 = .ok (.aload_n 0, 1) := by decide +kernel
theorem dX1_fillRows_77 : decode cX1_fillRows 77 = .ok (.getfield 18, 3) := by decide +kernel
theorem dX1_fillRows_80 : decode cX1_fillRows 80 = .ok (.bipush (-9), 2) := by decide +kernel
theorem dX1_fillRows_82 : decode cX1_fillRows 82 = .ok (.invokestatic 52, 3) := by decide +kernel
theorem dX1_fillRows_85 : decode cX1_fillRows 85 = .ok (.iconst 0, 1) := by decide +kernel
theorem dX1_fillRows_86 : decode cX1_fillRows 86 = .ok (.istore_n 1, 1) := by decide +kernel
theorem dX1_fillRows_87 : decode cX1_fillRows 87 = .ok (.iload_n 1, 1) := by decide +kernel
theorem dX1_fillRows_88 : decode cX1_fillRows 88 = .ok (.iconst 4, 1) := by decide +kernel
theorem dX1_fillRows_89 : decode cX1_fillRows 89 = .ok (.if_icmp .ge 21, 3) := by decide +kernel
theorem dX1_fillRows_92 : decode cX1_fillRows 92 = .ok (.aload_n 0, 1) := by decide +kernel
theorem dX1_fillRows_93 : decode cX1_fillRows 93 = .ok (.getfield 18, 3) := by decide +kernel
theorem dX1_fillRows_96 : decode cX1_fillRows 96 = .ok (.aload_n 0, 1) := by decide +kernel
theorem dX1_fillRows_97 : decode cX1_fillRows 97 = .ok (.getfield 9, 3) := by decide +kernel
theorem dX1_fillRows_100 : decode cX1_fillRows 100 = .ok (.iload_n 1, 1) := by decide +kernel
theorem dX1_fillRows_101 : decode cX1_fillRows 101 = .ok (.iaload, 1) := by decide +kernel
theorem dX1_fillRows_102 : decode cX1_fillRows 102 = .ok (.iload_n 1, 1) := by decide +kernel
theorem dX1_fillRows_103 : decode cX1_fillRows 103 = .ok (.iastore, 1) := by decide +kernel
theorem dX1_fillRows_104 : decode cX1_fillRows 104 = .ok (.iinc 1 1, 3) := by decide +kernel
theorem dX1_fillRows_107 : decode cX1_fillRows 107 = .ok (.goto (-20), 3) := by decide +kernel
theorem dX1_fillRows_110 : decode cX1_fillRows 110 = .ok (.aload_n 0, 1) := by decide +kernel
theorem dX1_fillRows_111 : decode cX1_fillRows 111 = .ok (.invokevirtual 58, 3) := by decide +kernel
theorem dX1_fillRows_114 : decode cX1_fillRows 114 = .ok (.return_, 1) := by decide +kernel
theorem dX1_findBursts_0 : decode cX1_findBursts 0 = .ok (.aload_n 0, 1) := by decide +kernel
theorem dX1_findBursts_1 : decode cX1_findBursts 1 = .ok (.getfield 21, 3) := by decide +kernel
theorem dX1_findBursts_4 : decode cX1_findBursts 4 = .ok (.iconst 0, 1) := by decide +kernel
theorem dX1_findBursts_5 : decode cX1_findBursts 5 = .ok (.invokestatic 52, 3) := by decide +kernel
theorem dX1_findBursts_8 : decode cX1_findBursts 8 = .ok (.aload_n 0, 1) := by decide +kernel
theorem dX1_findBursts_9 : decode cX1_findBursts 9 = .ok (.iconst 0, 1) := by decide +kernel
theorem dX1_findBursts_10 : decode cX1_findBursts 10 = .ok (.putfield 34, 3) := by decide +kernel
theorem dX1_findBursts_13 : decode cX1_findBursts 13 = .ok (.iconst 1, 1) := by decide +kernel
theorem dX1_findBursts_14 : decode cX1_findBursts 14 = .ok (.istore_n 1, 1) := by decide +kernel
theorem dX1_findBursts_15 : decode cX1_findBursts 15 = .ok (.iload_n 1, 1) := by decide +kernel
theorem dX1_findBursts_16 : decode cX1_findBursts 16 = .ok (.iconst 1, 1) := by decide +kernel
theorem dX1_findBursts_17 : decode cX1_findBursts 17 = .ok (.aload_n 0, 1) := by decide +kernel
theorem dX1_findBursts_18 : decode cX1_findBursts 18 = .ok (.getfield 28, 3) := by decide +kernel
theorem dX1_findBursts_21 : decode cX1_findBursts 21 = .ok (.ishl, 1) := by decide +kernel
theorem dX1_findBursts_22 : decode cX1_findBursts 22 = .ok (.if_icmp .ge 39, 3) := by decide +kernel
theorem dX1_findBursts_25 : decode cX1_findBursts 25 = .ok (.iconst 0, 1) := by decide +kernel
theorem dX1_findBursts_26 : decode cX1_findBursts 26 = .ok (.istore_n 2, 1) := by decide +kernel
theorem dX1_findBursts_27 : decode cX1_findBursts 27 = .ok (.iload_n 2, 1) := by decide +kernel
theorem dX1_findBursts_28 : decode cX1_findBursts 28 = .ok (.bipush 14, 2) := by decide +kernel
theorem dX1_findBursts_30 : decode cX1_findBursts 30 = .ok (.if_icmp .ge 25, 3) := by decide +kernel
theorem dX1_findBursts_33 : decode cX1_findBursts 33 = .ok (.iload_n 1, 1) := by decide +kernel
theorem dX1_findBursts_34 : decode cX1_findBursts 34 = .ok (.iload_n 2, 1) := by decide +kernel
theorem dX1_findBursts_35 : decode cX1_findBursts 35 = .ok (.ishl, 1) := by decide +kernel
theorem dX1_findBursts_36 : decode cX1_findBursts 36 = .ok (.sipush 16383, 3) := by decide +kernel
theorem dX1_findBursts_39 : decode cX1_findBursts 39 = .ok (.if_icmp .gt 10, 3) := by decide +kernel
theorem dX1_findBursts_42 : decode cX1_findBursts 42 = .ok (.aload_n 0, 1) := by decide +kernel
theorem dX1_findBursts_43 : decode cX1_findBursts 43 = .ok (.iload_n 1, 1) := by decide +kernel
theorem dX1_findBursts_44 : decode cX1_findBursts 44 = .ok (.iload_n 2, 1) := by decide +kernel
theorem dX1_findBursts_45 : decode cX1_findBursts 45 = .ok (.ishl, 1) := by decide +kernel
theorem dX1_findBursts_46 : decode cX1_findBursts 46 = .ok (.invokevirtual 61, 3) := by decide +kernel
theorem dX1_findBursts_49 : decode cX1_findBursts 49 = .ok (.iinc 2 1, 3) := by decide +kernel
theorem dX1_findBursts_52 : decode cX1_findBursts 52 = .ok (.goto (-25), 3) := by decide +kernel
theorem dX1_findBursts_55 : decode cX1_findBursts 55 = .ok (.iinc 1 2, 3) := by decide +kernel
theorem dX1_findBursts_58 : decode cX1_findBursts 58 = .ok (.goto (-43), 3) := by decide +kernel
theorem dX1_findBursts_61 : decode cX1_findBursts 61 = .ok (.aload_n 0, 1) := by decide +kernel
theorem dX1_findBursts_62 : decode cX1_findBursts 62 = .ok (.iconst 0, 1) := by decide +kernel
theorem dX1_findBursts_63 : decode cX1_findBursts 63 = .ok (.putfield 37, 3) := by decide +kernel
theorem dX1_findBursts_66 : decode cX1_findBursts 66 = .ok (.iconst 0, 1) := by decide +kernel
theorem dX1_findBursts_67 : decode cX1_findBursts 67 = .ok (.istore_n 1, 1) := by decide +kernel
theorem dX1_findBursts_68 : decode cX1_findBursts 68 = .ok (.iload_n 1, 1) := by decide +kernel
theorem dX1_findBursts_69 : decode cX1_findBursts 69 = .ok (.bipush 63, 2) := by decide +kernel
theorem dX1_findBursts_71 : decode cX1_findBursts 71 = .ok (.if_icmp .gt 48, 3) := by decide +kernel
theorem dX1_findBursts_74 : decode cX1_findBursts 74 = .ok (.aload_n 0, 1) := by decide +kernel
theorem dX1_findBursts_75 : decode cX1_findBursts 75 = .ok (.getfield 21, 3) := by decide +kernel
theorem dX1_findBursts_78 : decode cX1_findBursts 78 = .ok (.iload_n 1, 1) := by decide +kernel
theorem dX1_findBursts_79 : decode cX1_findBursts 79 = .ok (.aload_n 0, 1) := by decide +kernel
theorem dX1_findBursts_80 : decode cX1_findBursts 80 = .ok (.getfield 21, 3) := by decide +kernel
theorem dX1_findBursts_83 : decode cX1_findBursts 83 = .ok (.iload_n 1, 1) := by decide +kernel
theorem dX1_findBursts_84 : decode cX1_findBursts 84 = .ok (.iaload, 1) := by decide +kernel
theorem dX1_findBursts_85 : decode cX1_findBursts 85 = .ok (.iconst 0, 1) := by decide +kernel
theorem dX1_findBursts_86 : decode cX1_findBursts 86 = .ok (.invokestatic 65, 3) := by decide +kernel
theorem dX1_findBursts_89 : decode cX1_findBursts 89 = .ok (.iastore, 1) := by decide +kernel
theorem dX1_findBursts_90 : decode cX1_findBursts 90 = .ok (.aload_n 0, 1) := by decide +kernel
theorem dX1_findBursts_91 : decode cX1_findBursts 91 = .ok (.dup, 1) := by decide +kernel
theorem dX1_findBursts_92 : decode cX1_findBursts 92 = .ok (.getfield 37, 3) := by decide +kernel
theorem dX1_findBursts_95 : decode cX1_findBursts 95 = .ok (.aload_n 0, 1) := by decide +kernel
theorem dX1_findBursts_96 : decode cX1_findBursts 96 = .ok (.getfield 21, 3) := by decide +kernel
theorem dX1_findBursts_99 : decode cX1_findBursts 99 = .ok (.iload_n 1, 1) := by decide +kernel
theorem dX1_findBursts_100 : decode cX1_findBursts 100 = .ok (.iaload, 1) := by decide +kernel
theorem dX1_findBursts_101 : decode cX1_findBursts 101 = .ok (.ifCond .ne 7, 3) := by decide +kernel
theorem dX1_findBursts_104 : decode cX1_findBursts 104 = .ok (.iconst 0, 1) := by decide +kernel
theorem dX1_findBursts_105 : decode cX1_findBursts 105 = .ok (.goto 4, 3) := by decide +kernel
theorem dX1_findBursts_108 : decode cX1_findBursts 108 = .ok (.iconst 1, 1) := by decide +kernel
theorem dX1_findBursts_109 : decode cX1_findBursts 109 = .ok (.iadd, 1) := by decide +kernel
theorem dX1_findBursts_110 : decode cX1_findBursts 110 = .ok (.putfield 37, 3) := by decide +kernel
theorem dX1_findBursts_113 : decode cX1_findBursts 113 = .ok (.iinc 1 1, 3) := by decide +kernel
theorem dX1_findBursts_116 : decode cX1_findBursts 116 = .ok (.goto (-48), 3) := by decide +kernel
theorem dX1_findBursts_119 : decode cX1_findBursts 119 = .ok (.return_, 1) := by decide +kernel
theorem dX1_noteBurst_0 : decode cX1_noteBurst 0 = .ok (.aload_n 0, 1) := by decide +kernel
theorem dX1_noteBurst_1 : decode cX1_noteBurst 1 = .ok (.iload_n 1, 1) := by decide +kernel
theorem dX1_noteBurst_2 : decode cX1_noteBurst 2 = .ok (.invokevirtual 71, 3) := by decide +kernel
theorem dX1_noteBurst_5 : decode cX1_noteBurst 5 = .ok (.istore_n 2, 1) := by decide +kernel
theorem dX1_noteBurst_6 : decode cX1_noteBurst 6 = .ok (.aload_n 0, 1) := by decide +kernel
theorem dX1_noteBurst_7 : decode cX1_noteBurst 7 = .ok (.getfield 21, 3) := by decide +kernel
theorem dX1_noteBurst_10 : decode cX1_noteBurst 10 = .ok (.iload_n 2, 1) := by decide +kernel
theorem dX1_noteBurst_11 : decode cX1_noteBurst 11 = .ok (.iload_n 2, 1) := by decide +kernel
theorem dX1_noteBurst_12 : decode cX1_noteBurst 12 = .ok (.ifCond .eq 12, 3) := by decide +kernel
theorem dX1_noteBurst_15 : decode cX1_noteBurst 15 = .ok (.aload_n 0, 1) := by decide +kernel
theorem dX1_noteBurst_16 : decode cX1_noteBurst 16 = .ok (.getfield 21, 3) := by decide +kernel
theorem dX1_noteBurst_19 : decode cX1_noteBurst 19 = .ok (.iload_n 2, 1) := by decide +kernel
theorem dX1_noteBurst_20 : decode cX1_noteBurst 20 = .ok (.iaload, 1) := by decide +kernel
theorem dX1_noteBurst_21 : decode cX1_noteBurst 21 = .ok (.ifCond .eq 7, 3) := by decide +kernel
theorem dX1_noteBurst_24 : decode cX1_noteBurst 24 = .ok (.iconst (-1), 1) := by decide +kernel
theorem dX1_noteBurst_25 : decode cX1_noteBurst 25 = .ok (.goto 4, 3) := by decide +kernel
theorem dX1_noteBurst_28 : decode cX1_noteBurst 28 = .ok (.iload_n 1, 1) := by decide +kernel
theorem dX1_noteBurst_29 : decode cX1_noteBurst 29 = .ok (.iastore, 1) := by decide +kernel
theorem dX1_noteBurst_30 : decode cX1_noteBurst 30 = .ok (.aload_n 0, 1) := by decide +kernel
theorem dX1_noteBurst_31 : decode cX1_noteBurst 31 = .ok (.dup, 1) := by decide +kernel
theorem dX1_noteBurst_32 : decode cX1_noteBurst 32 = .ok (.getfield 34, 3) := by decide +kernel
theorem dX1_noteBurst_35 : decode cX1_noteBurst 35 = .ok (.iconst 1, 1) := by decide +kernel
theorem dX1_noteBurst_36 : decode cX1_noteBurst 36 = .ok (.iadd, 1) := by decide +kernel
theorem dX1_noteBurst_37 : decode cX1_noteBurst 37 = .ok (.putfield 34, 3) := by decide +kernel
theorem dX1_noteBurst_40 : decode cX1_noteBurst 40 = .ok (.return_, 1) := by decide +kernel
theorem dX1_restOf_0 : decode cX1_restOf 0 = .ok (.aload_n 0, 1) := by decide +kernel
theorem dX1_restOf_1 : decode cX1_restOf 1 = .ok (.getfield 15, 3) := by decide +kernel
theorem dX1_restOf_4 : decode cX1_restOf 4 = .ok (.iload_n 1, 1) := by decide +kernel
theorem dX1_restOf_5 : decode cX1_restOf 5 = .ok (.bipush 6, 2) := by decide +kernel
theorem dX1_restOf_7 : decode cX1_restOf 7 = .ok (.ishr, 1) := by decide +kernel
theorem dX1_restOf_8 : decode cX1_restOf 8 = .ok (.sipush 255, 3) := by decide +kernel
theorem dX1_restOf_11 : decode cX1_restOf 11 = .ok (.iand, 1) := by decide +kernel
theorem dX1_restOf_12 : decode cX1_restOf 12 = .ok (.iaload, 1) := by decide +kernel
theorem dX1_restOf_13 : decode cX1_restOf 13 = .ok (.iload_n 1, 1) := by decide +kernel
theorem dX1_restOf_14 : decode cX1_restOf 14 = .ok (.bipush 63, 2) := by decide +kernel
theorem dX1_restOf_16 : decode cX1_restOf 16 = .ok (.iand, 1) := by decide +kernel
theorem dX1_restOf_17 : decode cX1_restOf 17 = .ok (.ixor, 1) := by decide +kernel
theorem dX1_restOf_18 : decode cX1_restOf 18 = .ok (.ireturn, 1) := by decide +kernel
theorem dX1_restFor_0 : decode cX1_restFor 0 = .ok (.aload_n 0, 1) := by decide +kernel
theorem dX1_restFor_1 : decode cX1_restFor 1 = .ok (.iload_n 2, 1) := by decide +kernel
theorem dX1_restFor_2 : decode cX1_restFor 2 = .ok (.invokevirtual 71, 3) := by decide +kernel
theorem dX1_restFor_5 : decode cX1_restFor 5 = .ok (.aload_n 0, 1) := by decide +kernel
theorem dX1_restFor_6 : decode cX1_restFor 6 = .ok (.getfield 9, 3) := by decide +kernel
theorem dX1_restFor_9 : decode cX1_restFor 9 = .ok (.iload_n 1, 1) := by decide +kernel
theorem dX1_restFor_10 : decode cX1_restFor 10 = .ok (.iaload, 1) := by decide +kernel
theorem dX1_restFor_11 : decode cX1_restFor 11 = .ok (.ixor, 1) := by decide +kernel
theorem dX1_restFor_12 : decode cX1_restFor 12 = .ok (.ireturn, 1) := by decide +kernel
theorem dX1_plainWord_0 : decode cX1_plainWord 0 = .ok (.iload_n 1, 1) := by decide +kernel
theorem dX1_plainWord_1 : decode cX1_plainWord 1 = .ok (.bipush 6, 2) := by decide +kernel
theorem dX1_plainWord_3 : decode cX1_plainWord 3 = .ok (.ishl, 1) := by decide +kernel
theorem dX1_plainWord_4 : decode cX1_plainWord 4 = .ok (.aload_n 0, 1) := by decide +kernel
theorem dX1_plainWord_5 : decode cX1_plainWord 5 = .ok (.getfield 15, 3) := by decide +kernel
theorem dX1_plainWord_8 : decode cX1_plainWord 8 = .ok (.iload_n 1, 1) := by decide +kernel
theorem dX1_plainWord_9 : decode cX1_plainWord 9 = .ok (.iaload, 1) := by decide +kernel
theorem dX1_plainWord_10 : decode cX1_plainWord 10 = .ok (.ior, 1) := by decide +kernel
theorem dX1_plainWord_11 : decode cX1_plainWord 11 = .ok (.ireturn, 1) := by decide +kernel
theorem dX1_wordOf_0 : decode cX1_wordOf 0 = .ok (.aload_n 0, 1) := by decide +kernel
theorem dX1_wordOf_1 : decode cX1_wordOf 1 = .ok (.iload_n 2, 1) := by decide +kernel
theorem dX1_wordOf_2 : decode cX1_wordOf 2 = .ok (.invokevirtual 74, 3) := by decide +kernel
theorem dX1_wordOf_5 : decode cX1_wordOf 5 = .ok (.aload_n 0, 1) := by decide +kernel
theorem dX1_wordOf_6 : decode cX1_wordOf 6 = .ok (.getfield 9, 3) := by decide +kernel
theorem dX1_wordOf_9 : decode cX1_wordOf 9 = .ok (.iload_n 1, 1) := by decide +kernel
theorem dX1_wordOf_10 : decode cX1_wordOf 10 = .ok (.iaload, 1) := by decide +kernel
theorem dX1_wordOf_11 : decode cX1_wordOf 11 = .ok (.ixor, 1) := by decide +kernel
theorem dX1_wordOf_12 : decode cX1_wordOf 12 = .ok (.ireturn, 1) := by decide +kernel
theorem dX1_hitOf_0 : decode cX1_hitOf 0 = .ok (.aload_n 0, 1) := by decide +kernel
theorem dX1_hitOf_1 : decode cX1_hitOf 1 = .ok (.getfield 18, 3) := by decide +kernel
theorem dX1_hitOf_4 : decode cX1_hitOf 4 = .ok (.aload_n 0, 1) := by decide +kernel
theorem dX1_hitOf_5 : decode cX1_hitOf 5 = .ok (.iload_n 1, 1) := by decide +kernel
theorem dX1_hitOf_6 : decode cX1_hitOf 6 = .ok (.invokevirtual 71, 3) := by decide +kernel
theorem dX1_hitOf_9 : decode cX1_hitOf 9 = .ok (.iaload, 1) := by decide +kernel
theorem dX1_hitOf_10 : decode cX1_hitOf 10 = .ok (.ireturn, 1) := by decide +kernel
theorem dX1_blockOf_0 : decode cX1_blockOf 0 = .ok (.iload_n 2, 1) := by decide +kernel
theorem dX1_blockOf_1 : decode cX1_blockOf 1 = .ok (.ifCond .ne 5, 3) := by decide +kernel
theorem dX1_blockOf_4 : decode cX1_blockOf 4 = .ok (.iload_n 1, 1) := by decide +kernel
theorem dX1_blockOf_5 : decode cX1_blockOf 5 = .ok (.ireturn, 1) := by decide +kernel
theorem dX1_blockOf_6 : decode cX1_blockOf 6 = .ok (.aload_n 0, 1) := by decide +kernel
theorem dX1_blockOf_7 : decode cX1_blockOf 7 = .ok (.getfield 21, 3) := by decide +kernel
theorem dX1_blockOf_10 : decode cX1_blockOf 10 = .ok (.iload_n 2, 1) := by decide +kernel
theorem dX1_blockOf_11 : decode cX1_blockOf 11 = .ok (.iaload, 1) := by decide +kernel
theorem dX1_blockOf_12 : decode cX1_blockOf 12 = .ok (.ifCond .ne 8, 3) := by decide +kernel
theorem dX1_blockOf_15 : decode cX1_blockOf 15 = .ok (.bipush (-9), 2) := by decide +kernel
theorem dX1_blockOf_17 : decode cX1_blockOf 17 = .ok (.goto 11, 3) := by decide +kernel
theorem dX1_blockOf_20 : decode cX1_blockOf 20 = .ok (.iload_n 1, 1) := by decide +kernel
theorem dX1_blockOf_21 : decode cX1_blockOf 21 = .ok (.aload_n 0, 1) := by decide +kernel
theorem dX1_blockOf_22 : decode cX1_blockOf 22 = .ok (.getfield 21, 3) := by decide +kernel
theorem dX1_blockOf_25 : decode cX1_blockOf 25 = .ok (.iload_n 2, 1) := by decide +kernel
theorem dX1_blockOf_26 : decode cX1_blockOf 26 = .ok (.iaload, 1) := by decide +kernel
theorem dX1_blockOf_27 : decode cX1_blockOf 27 = .ok (.ixor, 1) := by decide +kernel
theorem dX1_blockOf_28 : decode cX1_blockOf 28 = .ok (.ireturn, 1) := by decide +kernel
theorem dX1_fateOf_0 : decode cX1_fateOf 0 = .ok (.aload_n 0, 1) := by decide +kernel
theorem dX1_fateOf_1 : decode cX1_fateOf 1 = .ok (.iload_n 1, 1) := by decide +kernel
theorem dX1_fateOf_2 : decode cX1_fateOf 2 = .ok (.invokevirtual 71, 3) := by decide +kernel
theorem dX1_fateOf_5 : decode cX1_fateOf 5 = .ok (.istore_n 2, 1) := by decide +kernel
theorem dX1_fateOf_6 : decode cX1_fateOf 6 = .ok (.iload_n 2, 1) := by decide +kernel
theorem dX1_fateOf_7 : decode cX1_fateOf 7 = .ok (.ifCond .ne 5, 3) := by decide +kernel
theorem dX1_fateOf_10 : decode cX1_fateOf 10 = .ok (.iconst 0, 1) := by decide +kernel
theorem dX1_fateOf_11 : decode cX1_fateOf 11 = .ok (.ireturn, 1) := by decide +kernel
theorem dX1_fateOf_12 : decode cX1_fateOf 12 = .ok (.aload_n 0, 1) := by decide +kernel
theorem dX1_fateOf_13 : decode cX1_fateOf 13 = .ok (.getfield 21, 3) := by decide +kernel
theorem dX1_fateOf_16 : decode cX1_fateOf 16 = .ok (.iload_n 2, 1) := by decide +kernel
theorem dX1_fateOf_17 : decode cX1_fateOf 17 = .ok (.iaload, 1) := by decide +kernel
theorem dX1_fateOf_18 : decode cX1_fateOf 18 = .ok (.ifCond .ne 5, 3) := by decide +kernel
theorem dX1_fateOf_21 : decode cX1_fateOf 21 = .ok (.iconst 3, 1) := by decide +kernel
theorem dX1_fateOf_22 : decode cX1_fateOf 22 = .ok (.ireturn, 1) := by decide +kernel
theorem dX1_fateOf_23 : decode cX1_fateOf 23 = .ok (.aload_n 0, 1) := by decide +kernel
theorem dX1_fateOf_24 : decode cX1_fateOf 24 = .ok (.getfield 21, 3) := by decide +kernel
theorem dX1_fateOf_27 : decode cX1_fateOf 27 = .ok (.iload_n 2, 1) := by decide +kernel
theorem dX1_fateOf_28 : decode cX1_fateOf 28 = .ok (.iaload, 1) := by decide +kernel
theorem dX1_fateOf_29 : decode cX1_fateOf 29 = .ok (.iload_n 1, 1) := by decide +kernel
theorem dX1_fateOf_30 : decode cX1_fateOf 30 = .ok (.if_icmp .ne 7, 3) := by decide +kernel
theorem dX1_fateOf_33 : decode cX1_fateOf 33 = .ok (.iconst 1, 1) := by decide +kernel
theorem dX1_fateOf_34 : decode cX1_fateOf 34 = .ok (.goto 4, 3) := by decide +kernel
theorem dX1_fateOf_37 : decode cX1_fateOf 37 = .ok (.iconst 2, 1) := by decide +kernel
theorem dX1_fateOf_38 : decode cX1_fateOf 38 = .ok (.ireturn, 1) := by decide +kernel
theorem dX1_groupRow_0 : decode cX1_groupRow 0 = .ok (.lconst 0, 1) := by decide +kernel
theorem dX1_groupRow_1 : decode cX1_groupRow 1 = .ok (.lstore_n 2, 1) := by decide +kernel
theorem dX1_groupRow_2 : decode cX1_groupRow 2 = .ok (.iconst 0, 1) := by decide +kernel
theorem dX1_groupRow_3 : decode cX1_groupRow 3 = .ok (.istore 4, 2) := by decide +kernel
theorem dX1_groupRow_5 : decode cX1_groupRow 5 = .ok (.iload 4, 2) := by decide +kernel
theorem dX1_groupRow_7 : decode cX1_groupRow 7 = .ok (.iconst 4, 1) := by decide +kernel
theorem dX1_groupRow_8 : decode cX1_groupRow 8 = .ok (.if_icmp .ge 39, 3) := by decide +kernel
theorem dX1_groupRow_11 : decode cX1_groupRow 11 = .ok (.iload_n 1, 1) := by decide +kernel
theorem dX1_groupRow_12 : decode cX1_groupRow 12 = .ok (.bipush 8, 2) := by decide +kernel
theorem dX1_groupRow_14 : decode cX1_groupRow 14 = .ok (.iconst 3, 1) := by decide +kernel
theorem dX1_groupRow_15 : decode cX1_groupRow 15 = .ok (.iload 4, 2) := by decide +kernel
theorem dX1_groupRow_17 : decode cX1_groupRow 17 = .ok (.isub, 1) := by decide +kernel
theorem dX1_groupRow_18 : decode cX1_groupRow 18 = .ok (.imul, 1) := by decide +kernel
theorem dX1_groupRow_19 : decode cX1_groupRow 19 = .ok (.ishr, 1) := by decide +kernel
theorem dX1_groupRow_20 : decode cX1_groupRow 20 = .ok (.sipush 255, 3) := by decide +kernel
theorem dX1_groupRow_23 : decode cX1_groupRow 23 = .ok (.iand, 1) := by decide +kernel
theorem dX1_groupRow_24 : decode cX1_groupRow 24 = .ok (.istore 5, 2) := by decide +kernel
theorem dX1_groupRow_26 : decode cX1_groupRow 26 = .ok (.lload_n 2, 1) := by decide +kernel
theorem dX1_groupRow_27 : decode cX1_groupRow 27 = .ok (.bipush 14, 2) := by decide +kernel
theorem dX1_groupRow_29 : decode cX1_groupRow 29 = .ok (.lshl, 1) := by decide +kernel
theorem dX1_groupRow_30 : decode cX1_groupRow 30 = .ok (.aload_n 0, 1) := by decide +kernel
theorem dX1_groupRow_31 : decode cX1_groupRow 31 = .ok (.iload 4, 2) := by decide +kernel
theorem dX1_groupRow_33 : decode cX1_groupRow 33 = .ok (.iload 5, 2) := by decide +kernel
theorem dX1_groupRow_35 : decode cX1_groupRow 35 = .ok (.invokevirtual 77, 3) := by decide +kernel
theorem dX1_groupRow_38 : decode cX1_groupRow 38 = .ok (.i2l, 1) := by decide +kernel
theorem dX1_groupRow_39 : decode cX1_groupRow 39 = .ok (.lor, 1) := by decide +kernel
theorem dX1_groupRow_40 : decode cX1_groupRow 40 = .ok (.lstore_n 2, 1) := by decide +kernel
theorem dX1_groupRow_41 : decode cX1_groupRow 41 = .ok (.iinc 4 1, 3) := by decide +kernel
theorem dX1_groupRow_44 : decode cX1_groupRow 44 = .ok (.goto (-39), 3) := by decide +kernel
theorem dX1_groupRow_47 : decode cX1_groupRow 47 = .ok (.lload_n 2, 1) := by decide +kernel
theorem dX1_groupRow_48 : decode cX1_groupRow 48 = .ok (.lreturn, 1) := by decide +kernel
