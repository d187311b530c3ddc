theorem dX3_init_0 : decode cX3_init 0 = .ok (.aload_n 0, 1) := by decide +kernel
theorem dX3_init_1 : decode cX3_init 1 = .ok (.invokespecial 3, 3) := by decide +kernel
theorem dX3_init_4 : decode cX3_init 4 = .ok (.aload_n 0, 1) := by decide +kernel
theorem dX3_init_5 : decode cX3_init 5 = .ok (.iconst 4, 1) := by decide +kernel
theorem dX3_init_6 : decode cX3_init 6 = .ok (.newarray .int, 2) := by decide +kernel
theorem dX3_init_8 : decode cX3_init 8 = .ok (.putfield 11, 3) := by decide +kernel
theorem dX3_init_11 : decode cX3_init 11 = .ok (.aload_n 0, 1) := by decide +kernel
theorem dX3_init_12 : decode cX3_init 12 = .ok (.iconst 4, 1) := by decide +kernel
theorem dX3_init_13 : decode cX3_init 13 = .ok (.newarray .int, 2) := by decide +kernel
theorem dX3_init_15 : decode cX3_init 15 = .ok (.putfield 15, 3) := by decide +kernel
theorem dX3_init_18 : decode cX3_init 18 = .ok (.aload_n 0, 1) := by decide +kernel
theorem dX3_init_19 : decode cX3_init 19 = .ok (.bipush 8, 2) := by decide +kernel
theorem dX3_init_21 : decode cX3_init 21 = .ok (.newarray .int, 2) := by decide +kernel
theorem dX3_init_23 : decode cX3_init 23 = .ok (.putfield 18, 3) := by decide +kernel
theorem dX3_init_26 : decode cX3_init 26 = .ok (.aload_n 0, 1) := by decide +kernel
theorem dX3_init_27 : decode cX3_init 27 = .ok (.bipush 8, 2) := by decide +kernel
theorem dX3_init_29 : decode cX3_init 29 = .ok (.newarray .int, 2) := by decide +kernel
theorem dX3_init_31 : decode cX3_init 31 = .ok (.putfield 21, 3) := by decide +kernel
theorem dX3_init_34 : decode cX3_init 34 = .ok (.return_, 1) := by decide +kernel
theorem dX3_clear_0 : decode cX3_clear 0 = .ok (.aload_n 0, 1) := by decide +kernel
theorem dX3_clear_1 : decode cX3_clear 1 = .ok (.getfield 18, 3) := by decide +kernel
theorem dX3_clear_4 : decode cX3_clear 4 = .ok (.iconst 0, 1) := by decide +kernel
theorem dX3_clear_5 : decode cX3_clear 5 = .ok (.invokestatic 24, 3) := by decide +kernel
theorem dX3_clear_8 : decode cX3_clear 8 = .ok (.aload_n 0, 1) := by decide +kernel
theorem dX3_clear_9 : decode cX3_clear 9 = .ok (.getfield 21, 3) := by decide +kernel
theorem dX3_clear_12 : decode cX3_clear 12 = .ok (.iconst 0, 1) := by decide +kernel
theorem dX3_clear_13 : decode cX3_clear 13 = .ok (.invokestatic 24, 3) := by decide +kernel
theorem dX3_clear_16 : decode cX3_clear 16 = .ok (.aload_n 0, 1) := by decide +kernel
theorem dX3_clear_17 : decode cX3_clear 17 = .ok (.iconst 0, 1) := by decide +kernel
theorem dX3_clear_18 : decode cX3_clear 18 = .ok (.putfield 30, 3) := by decide +kernel
theorem dX3_clear_21 : decode cX3_clear 21 = .ok (.aload_n 0, 1) := by decide +kernel
theorem dX3_clear_22 : decode cX3_clear 22 = .ok (.bipush (-9), 2) := by decide +kernel
theorem dX3_clear_24 : decode cX3_clear 24 = .ok (.putfield 34, 3) := by decide +kernel
theorem dX3_clear_27 : decode cX3_clear 27 = .ok (.aload_n 0, 1) := by decide +kernel
theorem dX3_clear_28 : decode cX3_clear 28 = .ok (.bipush (-9), 2) := by decide +kernel
theorem dX3_clear_30 : decode cX3_clear 30 = .ok (.putfield 37, 3) := by decide +kernel
theorem dX3_clear_33 : decode cX3_clear 33 = .ok (.aload_n 0, 1) := by decide +kernel
theorem dX3_clear_34 : decode cX3_clear 34 = .ok (.bipush (-9), 2) := by decide +kernel
theorem dX3_clear_36 : decode cX3_clear 36 = .ok (.putfield 40, 3) := by decide +kernel
theorem dX3_clear_39 : decode cX3_clear 39 = .ok (.aload_n 0, 1) := by decide +kernel
theorem dX3_clear_40 : decode cX3_clear 40 = .ok (.iconst 0, 1) := by decide +kernel
theorem dX3_clear_41 : decode cX3_clear 41 = .ok (.putfield 43, 3) := by decide +kernel
theorem dX3_clear_44 : decode cX3_clear 44 = .ok (.aload_n 0, 1) := by decide +kernel
theorem dX3_clear_45 : decode cX3_clear 45 = .ok (.invokevirtual 46, 3) := by decide +kernel
theorem dX3_clear_48 : decode cX3_clear 48 = .ok (.return_, 1) := by decide +kernel
theorem dX3_clearNames_0 : decode cX3_clearNames 0 = .ok (.aload_n 0, 1) := by decide +kernel
theorem dX3_clearNames_1 : decode cX3_clearNames 1 = .ok (.getfield 11, 3) := by decide +kernel
theorem dX3_clearNames_4 : decode cX3_clearNames 4 = .ok (.bipush (-9), 2) := by decide +kernel
theorem dX3_clearNames_6 : decode cX3_clearNames 6 = .ok (.invokestatic 24, 3) := by decide +kernel
theorem dX3_clearNames_9 : decode cX3_clearNames 9 = .ok (.aload_n 0, 1) := by decide +kernel
theorem dX3_clearNames_10 : decode cX3_clearNames 10 = .ok (.getfield 15, 3) := by decide +kernel
theorem dX3_clearNames_13 : decode cX3_clearNames 13 = .ok (.bipush (-9), 2) := by decide +kernel
theorem dX3_clearNames_15 : decode cX3_clearNames 15 = .ok (.invokestatic 24, 3) := by decide +kernel
theorem dX3_clearNames_18 : decode cX3_clearNames 18 = .ok (.return_, 1) := by decide +kernel
theorem dX3_copyFrom_0 : decode cX3_copyFrom 0 = .ok (.aload_n 1, 1) := by decide +kernel
theorem dX3_copyFrom_1 : decode cX3_copyFrom 1 = .ok (.getfield 11, 3) := by decide +kernel
theorem dX3_copyFrom_4 : decode cX3_copyFrom 4 = .ok (.iconst 0, 1) := by decide +kernel
theorem dX3_copyFrom_5 : decode cX3_copyFrom 5 = .ok (.aload_n 0, 1) := by decide +kernel
theorem dX3_copyFrom_6 : decode cX3_copyFrom 6 = .ok (.getfield 11, 3) := by decide +kernel
theorem dX3_copyFrom_9 : decode cX3_copyFrom 9 = .ok (.iconst 0, 1) := by decide +kernel
theorem dX3_copyFrom_10 : decode cX3_copyFrom 10 = .ok (.iconst 4, 1) := by decide +kernel
theorem dX3_copyFrom_11 : decode cX3_copyFrom 11 = .ok (.invokestatic 49, 3) := by decide +kernel
theorem dX3_copyFrom_14 : decode cX3_copyFrom 14 = .ok (.aload_n 1, 1) := by decide +kernel
theorem dX3_copyFrom_15 : decode cX3_copyFrom 15 = .ok (.getfield 15, 3) := by decide +kernel
theorem dX3_copyFrom_18 : decode cX3_copyFrom 18 = .ok (.iconst 0, 1) := by decide +kernel
theorem dX3_copyFrom_19 : decode cX3_copyFrom 19 = .ok (.aload_n 0, 1) := by decide +kernel
theorem dX3_copyFrom_20 : decode cX3_copyFrom 20 = .ok (.getfield 15, 3) := by decide +kernel
theorem dX3_copyFrom_23 : decode cX3_copyFrom 23 = .ok (.iconst 0, 1) := by decide +kernel
theorem dX3_copyFrom_24 : decode cX3_copyFrom 24 = .ok (.iconst 4, 1) := by decide +kernel
theorem dX3_copyFrom_25 : decode cX3_copyFrom 25 = .ok (.invokestatic 49, 3) := by decide +kernel
theorem dX3_copyFrom_28 : decode cX3_copyFrom 28 = .ok (.aload_n 1, 1) := by decide +kernel
theorem dX3_copyFrom_29 : decode cX3_copyFrom 29 = .ok (.getfield 18, 3) := by decide +kernel
theorem dX3_copyFrom_32 : decode cX3_copyFrom 32 = .ok (.iconst 0, 1) := by decide +kernel
theorem dX3_copyFrom_33 : decode cX3_copyFrom 33 = .ok (.aload_n 0, 1) := by decide +kernel
theorem dX3_copyFrom_34 : decode cX3_copyFrom 34 = .ok (.getfield 18, 3) := by decide +kernel
theorem dX3_copyFrom_37 : decode cX3_copyFrom 37 = .ok (.iconst 0, 1) := by decide +kernel
theorem dX3_copyFrom_38 : decode cX3_copyFrom 38 = .ok (.bipush 8, 2) := by decide +kernel
theorem dX3_copyFrom_40 : decode cX3_copyFrom 40 = .ok (.invokestatic 49, 3) := by decide +kernel
theorem dX3_copyFrom_43 : decode cX3_copyFrom 43 = .ok (.aload_n 1, 1) := by decide +kernel
theorem dX3_copyFrom_44 : decode cX3_copyFrom 44 = .ok (.getfield 21, 3) := by decide +kernel
theorem dX3_copyFrom_47 : decode cX3_copyFrom 47 = .ok (.iconst 0, 1) := by decide +kernel
theorem dX3_copyFrom_48 : decode cX3_copyFrom 48 = .ok (.aload_n 0, 1) := by decide +kernel
theorem dX3_copyFrom_49 : decode cX3_copyFrom 49 = .ok (.getfield 21, 3) := by decide +kernel
theorem dX3_copyFrom_52 : decode cX3_copyFrom 52 = .ok (.iconst 0, 1) := by decide +kernel
theorem dX3_copyFrom_53 : decode cX3_copyFrom 53 = .ok (.bipush 8, 2) := by decide +kernel
theorem dX3_copyFrom_55 : decode cX3_copyFrom 55 = .ok (.invokestatic 49, 3) := by decide +kernel
theorem dX3_copyFrom_58 : decode cX3_copyFrom 58 = .ok (.aload_n 0, 1) := by decide +kernel
theorem dX3_copyFrom_59 : decode cX3_copyFrom 59 = .ok (.aload_n 1, 1) := by decide +kernel
theorem dX3_copyFrom_60 : decode cX3_copyFrom 60 = .ok (.getfield 30, 3) := by decide +kernel
theorem dX3_copyFrom_63 : decode cX3_copyFrom 63 = .ok (.putfield 30, 3) := by decide +kernel
theorem dX3_copyFrom_66 : decode cX3_copyFrom 66 = .ok (.aload_n 0, 1) := by decide +kernel
theorem dX3_copyFrom_67 : decode cX3_copyFrom 67 = .ok (.aload_n 1, 1) := by decide +kernel
theorem dX3_copyFrom_68 : decode cX3_copyFrom 68 = .ok (.getfield 34, 3) := by decide +kernel
theorem dX3_copyFrom_71 : decode cX3_copyFrom 71 = .ok (.putfield 34, 3) := by decide +kernel
theorem dX3_copyFrom_74 : decode cX3_copyFrom 74 = .ok (.aload_n 0, 1) := by decide +kernel
theorem dX3_copyFrom_75 : decode cX3_copyFrom 75 = .ok (.aload_n 1, 1) := by decide +kernel
theorem dX3_copyFrom_76 : decode cX3_copyFrom 76 = .ok (.getfield 37, 3) := by decide +kernel
theorem dX3_copyFrom_79 : decode cX3_copyFrom 79 = .ok (.putfield 37, 3) := by decide +kernel
theorem dX3_copyFrom_82 : decode cX3_copyFrom 82 = .ok (.aload_n 0, 1) := by decide +kernel
theorem dX3_copyFrom_83 : decode cX3_copyFrom 83 = .ok (.aload_n 1, 1) := by decide +kernel
theorem dX3_copyFrom_84 : decode cX3_copyFrom 84 = .ok (.getfield 40, 3) := by decide +kernel
theorem dX3_copyFrom_87 : decode cX3_copyFrom 87 = .ok (.putfield 40, 3) := by decide +kernel
theorem dX3_copyFrom_90 : decode cX3_copyFrom 90 = .ok (.aload_n 0, 1) := by decide +kernel
theorem dX3_copyFrom_91 : decode cX3_copyFrom 91 = .ok (.aload_n 1, 1) := by decide +kernel
theorem dX3_copyFrom_92 : decode cX3_copyFrom 92 = .ok (.getfield 43, 3) := by decide +kernel
theorem dX3_copyFrom_95 : decode cX3_copyFrom 95 = .ok (.putfield 43, 3) := by decide +kernel
theorem dX3_copyFrom_98 : decode cX3_copyFrom 98 = .ok (.return_, 1) := by decide +kernel
theorem dX3_takeGroup_0 : decode cX3_takeGroup 0 = .ok (.aload_n 0, 1) := by decide +kernel
theorem dX3_takeGroup_1 : decode cX3_takeGroup 1 = .ok (.aload_n 1, 1) := by decide +kernel
theorem dX3_takeGroup_2 : decode cX3_takeGroup 2 = .ok (.iconst 0, 1) := by decide +kernel
theorem dX3_takeGroup_3 : decode cX3_takeGroup 3 = .ok (.iaload, 1) := by decide +kernel
theorem dX3_takeGroup_4 : decode cX3_takeGroup 4 = .ok (.invokevirtual 55, 3) := by decide +kernel
theorem dX3_takeGroup_7 : decode cX3_takeGroup 7 = .ok (.aload_n 1, 1) := by decide +kernel
theorem dX3_takeGroup_8 : decode cX3_takeGroup 8 = .ok (.iconst 1, 1) := by decide +kernel
theorem dX3_takeGroup_9 : decode cX3_takeGroup 9 = .ok (.iaload, 1) := by decide +kernel
theorem dX3_takeGroup_10 : decode cX3_takeGroup 10 = .ok (.bipush (-9), 2) := by decide +kernel
theorem dX3_takeGroup_12 : decode cX3_takeGroup 12 = .ok (.if_icmp .ne 4, 3) := by decide +kernel
theorem dX3_takeGroup_15 : decode cX3_takeGroup 15 = .ok (.return_, 1) := by decide +kernel
theorem dX3_takeGroup_16 : decode cX3_takeGroup 16 = .ok (.aload_n 1, 1) := by decide +kernel
theorem dX3_takeGroup_17 : decode cX3_takeGroup 17 = .ok (.iconst 1, 1) := by decide +kernel
theorem dX3_takeGroup_18 : decode cX3_takeGroup 18 = .ok (.iaload, 1) := by decide +kernel
theorem dX3_takeGroup_19 : decode cX3_takeGroup 19 = .ok (.bipush 63, 2) := by decide +kernel
theorem dX3_takeGroup_21 : decode cX3_takeGroup 21 = .ok (.iand, 1) := by decide +kernel
theorem dX3_takeGroup_22 : decode cX3_takeGroup 22 = .ok (.istore_n 2, 1) := by decide +kernel
theorem dX3_takeGroup_23 : decode cX3_takeGroup 23 = .ok (.aload_n 1, 1) := by decide +kernel
theorem dX3_takeGroup_24 : decode cX3_takeGroup 24 = .ok (.iconst 1, 1) := by decide +kernel
theorem dX3_takeGroup_25 : decode cX3_takeGroup 25 = .ok (.iaload, 1) := by decide +kernel
theorem dX3_takeGroup_26 : decode cX3_takeGroup 26 = .ok (.bipush 6, 2) := by decide +kernel
theorem dX3_takeGroup_28 : decode cX3_takeGroup 28 = .ok (.ishr, 1) := by decide +kernel
theorem dX3_takeGroup_29 : decode cX3_takeGroup 29 = .ok (.tableswitch 73 0 2 #[27, 43, 56], 27) := by decide +kernel
theorem dX3_takeGroup_56 : decode cX3_takeGroup 56 = .ok (.aload_n 0, 1) := by decide +kernel
theorem dX3_takeGroup_57 : decode cX3_takeGroup 57 = .ok (.iload_n 2, 1) := by decide +kernel
theorem dX3_takeGroup_58 : decode cX3_takeGroup 58 = .ok (.iconst 3, 1) := by decide +kernel
theorem dX3_takeGroup_59 : decode cX3_takeGroup 59 = .ok (.iand, 1) := by decide +kernel
theorem dX3_takeGroup_60 : decode cX3_takeGroup 60 = .ok (.aload_n 1, 1) := by decide +kernel
theorem dX3_takeGroup_61 : decode cX3_takeGroup 61 = .ok (.iconst 2, 1) := by decide +kernel
theorem dX3_takeGroup_62 : decode cX3_takeGroup 62 = .ok (.iaload, 1) := by decide +kernel
theorem dX3_takeGroup_63 : decode cX3_takeGroup 63 = .ok (.aload_n 1, 1) := by decide +kernel
theorem dX3_takeGroup_64 : decode cX3_takeGroup 64 = .ok (.iconst 3, 1) := by decide +kernel
theorem dX3_takeGroup_65 : decode cX3_takeGroup 65 = .ok (.iaload, 1) := by decide +kernel
theorem dX3_takeGroup_66 : decode cX3_takeGroup 66 = .ok (.invokevirtual 59, 3) := by decide +kernel
theorem dX3_takeGroup_69 : decode cX3_takeGroup 69 = .ok (.goto 40, 3) := by decide +kernel
theorem dX3_takeGroup_72 : decode cX3_takeGroup 72 = .ok (.aload_n 0, 1) := by decide +kernel
theorem dX3_takeGroup_73 : decode cX3_takeGroup 73 = .ok (.aload_n 1, 1) := by decide +kernel
theorem dX3_takeGroup_74 : decode cX3_takeGroup 74 = .ok (.iconst 2, 1) := by decide +kernel
theorem dX3_takeGroup_75 : decode cX3_takeGroup 75 = .ok (.iaload, 1) := by decide +kernel
theorem dX3_takeGroup_76 : decode cX3_takeGroup 76 = .ok (.aload_n 1, 1) := by decide +kernel
theorem dX3_takeGroup_77 : decode cX3_takeGroup 77 = .ok (.iconst 3, 1) := by decide +kernel
theorem dX3_takeGroup_78 : decode cX3_takeGroup 78 = .ok (.iaload, 1) := by decide +kernel
theorem dX3_takeGroup_79 : decode cX3_takeGroup 79 = .ok (.invokevirtual 63, 3) := by decide +kernel
theorem dX3_takeGroup_82 : decode cX3_takeGroup 82 = .ok (.goto 27, 3) := by decide +kernel
theorem dX3_takeGroup_85 : decode cX3_takeGroup 85 = .ok (.aload_n 0, 1) := by decide +kernel
theorem dX3_takeGroup_86 : decode cX3_takeGroup 86 = .ok (.aload_n 1, 1) := by decide +kernel
theorem dX3_takeGroup_87 : decode cX3_takeGroup 87 = .ok (.iconst 2, 1) := by decide +kernel
theorem dX3_takeGroup_88 : decode cX3_takeGroup 88 = .ok (.iaload, 1) := by decide +kernel
theorem dX3_takeGroup_89 : decode cX3_takeGroup 89 = .ok (.invokevirtual 67, 3) := by decide +kernel
theorem dX3_takeGroup_92 : decode cX3_takeGroup 92 = .ok (.aload_n 0, 1) := by decide +kernel
theorem dX3_takeGroup_93 : decode cX3_takeGroup 93 = .ok (.aload_n 1, 1) := by decide +kernel
theorem dX3_takeGroup_94 : decode cX3_takeGroup 94 = .ok (.iconst 3, 1) := by decide +kernel
theorem dX3_takeGroup_95 : decode cX3_takeGroup 95 = .ok (.iaload, 1) := by decide +kernel
theorem dX3_takeGroup_96 : decode cX3_takeGroup 96 = .ok (.invokevirtual 67, 3) := by decide +kernel
theorem dX3_takeGroup_99 : decode cX3_takeGroup 99 = .ok (.goto 10, 3) := by decide +kernel
theorem dX3_takeGroup_102 : decode cX3_takeGroup 102 = .ok (.aload_n 0, 1) := by decide +kernel
theorem dX3_takeGroup_103 : decode cX3_takeGroup 103 = .ok (.iload_n 2, 1) := by decide +kernel
theorem dX3_takeGroup_104 : decode cX3_takeGroup 104 = .ok (.iconst 1, 1) := by decide +kernel
theorem dX3_takeGroup_105 : decode cX3_takeGroup 105 = .ok (.iand, 1) := by decide +kernel
theorem dX3_takeGroup_106 : decode cX3_takeGroup 106 = .ok (.invokevirtual 70, 3) := by decide +kernel
theorem dX3_takeGroup_109 : decode cX3_takeGroup 109 = .ok (.return_, 1) := by decide +kernel
theorem dX3_takeProgram_0 : decode cX3_takeProgram 0 = .ok (.iload_n 1, 1) := by decide +kernel
theorem dX3_takeProgram_1 : decode cX3_takeProgram 1 = .ok (.bipush (-9), 2) := by decide +kernel
theorem dX3_takeProgram_3 : decode cX3_takeProgram 3 = .ok (.if_icmp .ne 4, 3) := by decide +kernel
theorem dX3_takeProgram_6 : decode cX3_takeProgram 6 = .ok (.return_, 1) := by decide +kernel
theorem dX3_takeProgram_7 : decode cX3_takeProgram 7 = .ok (.iload_n 1, 1) := by decide +kernel
theorem dX3_takeProgram_8 : decode cX3_takeProgram 8 = .ok (.aload_n 0, 1) := by decide +kernel
theorem dX3_takeProgram_9 : decode cX3_takeProgram 9 = .ok (.getfield 37, 3) := by decide +kernel
theorem dX3_takeProgram_12 : decode cX3_takeProgram 12 = .ok (.if_icmp .ne 8, 3) := by decide +kernel
theorem dX3_takeProgram_15 : decode cX3_takeProgram 15 = .ok (.aload_n 0, 1) := by decide +kernel
theorem dX3_takeProgram_16 : decode cX3_takeProgram 16 = .ok (.iload_n 1, 1) := by decide +kernel
theorem dX3_takeProgram_17 : decode cX3_takeProgram 17 = .ok (.putfield 34, 3) := by decide +kernel
theorem dX3_takeProgram_20 : decode cX3_takeProgram 20 = .ok (.aload_n 0, 1) := by decide +kernel
theorem dX3_takeProgram_21 : decode cX3_takeProgram 21 = .ok (.iload_n 1, 1) := by decide +kernel
theorem dX3_takeProgram_22 : decode cX3_takeProgram 22 = .ok (.putfield 37, 3) := by decide +kernel
theorem dX3_takeProgram_25 : decode cX3_takeProgram 25 = .ok (.return_, 1) := by decide +kernel
theorem dX3_takePair_0 : decode cX3_takePair 0 = .ok (.iload_n 2, 1) := by decide +kernel
theorem dX3_takePair_1 : decode cX3_takePair 1 = .ok (.bipush (-9), 2) := by decide +kernel
theorem dX3_takePair_3 : decode cX3_takePair 3 = .ok (.if_icmp .eq 9, 3) := by decide +kernel
theorem dX3_takePair_6 : decode cX3_takePair 6 = .ok (.iload_n 3, 1) := by decide +kernel
theorem dX3_takePair_7 : decode cX3_takePair 7 = .ok (.bipush (-9), 2) := by decide +kernel
theorem dX3_takePair_9 : decode cX3_takePair 9 = .ok (.if_icmp .ne 4, 3) := by decide +kernel
theorem dX3_takePair_12 : decode cX3_takePair 12 = .ok (.return_, 1) := by decide +kernel
theorem dX3_takePair_13 : decode cX3_takePair 13 = .ok (.sipush 256, 3) := by decide +kernel
theorem dX3_takePair_16 : decode cX3_takePair 16 = .ok (.iload_n 2, 1) := by decide +kernel
theorem dX3_takePair_17 : decode cX3_takePair 17 = .ok (.imul, 1) := by decide +kernel
theorem dX3_takePair_18 : decode cX3_takePair 18 = .ok (.iload_n 3, 1) := by decide +kernel
theorem dX3_takePair_19 : decode cX3_takePair 19 = .ok (.iadd, 1) := by decide +kernel
theorem dX3_takePair_20 : decode cX3_takePair 20 = .ok (.istore 4, 2) := by decide +kernel
theorem dX3_takePair_22 : decode cX3_takePair 22 = .ok (.iload 4, 2) := by decide +kernel
theorem dX3_takePair_24 : decode cX3_takePair 24 = .ok (.aload_n 0, 1) := by decide +kernel
theorem dX3_takePair_25 : decode cX3_takePair 25 = .ok (.getfield 15, 3) := by decide +kernel
theorem dX3_takePair_28 : decode cX3_takePair 28 = .ok (.iload_n 1, 1) := by decide +kernel
theorem dX3_takePair_29 : decode cX3_takePair 29 = .ok (.iaload, 1) := by decide +kernel
theorem dX3_takePair_30 : decode cX3_takePair 30 = .ok (.if_icmp .ne 11, 3) := by decide +kernel
theorem dX3_takePair_33 : decode cX3_takePair 33 = .ok (.aload_n 0, 1) := by decide +kernel
theorem dX3_takePair_34 : decode cX3_takePair 34 = .ok (.getfield 11, 3) := by decide +kernel
theorem dX3_takePair_37 : decode cX3_takePair 37 = .ok (.iload_n 1, 1) := by decide +kernel
theorem dX3_takePair_38 : decode cX3_takePair 38 = .ok (.iload 4, 2) := by decide +kernel
theorem dX3_takePair_40 : decode cX3_takePair 40 = .ok (.iastore, 1) := by decide +kernel
theorem dX3_takePair_41 : decode cX3_takePair 41 = .ok (.aload_n 0, 1) := by decide +kernel
theorem dX3_takePair_42 : decode cX3_takePair 42 = .ok (.getfield 15, 3) := by decide +kernel
theorem dX3_takePair_45 : decode cX3_takePair 45 = .ok (.iload_n 1, 1) := by decide +kernel
theorem dX3_takePair_46 : decode cX3_takePair 46 = .ok (.iload 4, 2) := by decide +kernel
theorem dX3_takePair_48 : decode cX3_takePair 48 = .ok (.iastore, 1) := by decide +kernel
theorem dX3_takePair_49 : decode cX3_takePair 49 = .ok (.return_, 1) := by decide +kernel
theorem dX3_takeClock_0 : decode cX3_takeClock 0 = .ok (.iload_n 1, 1) := by decide +kernel
theorem dX3_takeClock_1 : decode cX3_takeClock 1 = .ok (.ifCond .lt 29, 3) := by decide +kernel
theorem dX3_takeClock_4 : decode cX3_takeClock 4 = .ok (.iload_n 1, 1) := by decide +kernel
theorem dX3_takeClock_5 : decode cX3_takeClock 5 = .ok (.bipush 23, 2) := by decide +kernel
theorem dX3_takeClock_7 : decode cX3_takeClock 7 = .ok (.if_icmp .gt 23, 3) := by decide +kernel
theorem dX3_takeClock_10 : decode cX3_takeClock 10 = .ok (.iload_n 2, 1) := by decide +kernel
theorem dX3_takeClock_11 : decode cX3_takeClock 11 = .ok (.ifCond .lt 19, 3) := by decide +kernel
theorem dX3_takeClock_14 : decode cX3_takeClock 14 = .ok (.iload_n 2, 1) := by decide +kernel
theorem dX3_takeClock_15 : decode cX3_takeClock 15 = .ok (.bipush 59, 2) := by decide +kernel
theorem dX3_takeClock_17 : decode cX3_takeClock 17 = .ok (.if_icmp .gt 13, 3) := by decide +kernel
theorem dX3_takeClock_20 : decode cX3_takeClock 20 = .ok (.aload_n 0, 1) := by decide +kernel
theorem dX3_takeClock_21 : decode cX3_takeClock 21 = .ok (.bipush 60, 2) := by decide +kernel
theorem dX3_takeClock_23 : decode cX3_takeClock 23 = .ok (.iload_n 1, 1) := by decide +kernel
theorem dX3_takeClock_24 : decode cX3_takeClock 24 = .ok (.imul, 1) := by decide +kernel
theorem dX3_takeClock_25 : decode cX3_takeClock 25 = .ok (.iload_n 2, 1) := by decide +kernel
theorem dX3_takeClock_26 : decode cX3_takeClock 26 = .ok (.iadd, 1) := by decide +kernel
theorem dX3_takeClock_27 : decode cX3_takeClock 27 = .ok (.putfield 40, 3) := by decide +kernel
theorem dX3_takeClock_30 : decode cX3_takeClock 30 = .ok (.return_, 1) := by decide +kernel
theorem dX3_takeStation_0 : decode cX3_takeStation 0 = .ok (.iload_n 1, 1) := by decide +kernel
theorem dX3_takeStation_1 : decode cX3_takeStation 1 = .ok (.iconst 1, 1) := by decide +kernel
theorem dX3_takeStation_2 : decode cX3_takeStation 2 = .ok (.if_icmp .lt 10, 3) := by decide +kernel
theorem dX3_takeStation_5 : decode cX3_takeStation 5 = .ok (.iload_n 1, 1) := by decide +kernel
theorem dX3_takeStation_6 : decode cX3_takeStation 6 = .ok (.sipush 204, 3) := by decide +kernel
theorem dX3_takeStation_9 : decode cX3_takeStation 9 = .ok (.if_icmp .le 4, 3) := by decide +kernel
theorem dX3_takeStation_12 : decode cX3_takeStation 12 = .ok (.return_, 1) := by decide +kernel
theorem dX3_takeStation_13 : decode cX3_takeStation 13 = .ok (.iconst 0, 1) := by decide +kernel
theorem dX3_takeStation_14 : decode cX3_takeStation 14 = .ok (.istore_n 2, 1) := by decide +kernel
theorem dX3_takeStation_15 : decode cX3_takeStation 15 = .ok (.iload_n 2, 1) := by decide +kernel
theorem dX3_takeStation_16 : decode cX3_takeStation 16 = .ok (.aload_n 0, 1) := by decide +kernel
theorem dX3_takeStation_17 : decode cX3_takeStation 17 = .ok (.getfield 30, 3) := by decide +kernel
theorem dX3_takeStation_20 : decode cX3_takeStation 20 = .ok (.if_icmp .ge 39, 3) := by decide +kernel
theorem dX3_takeStation_23 : decode cX3_takeStation 23 = .ok (.aload_n 0, 1) := by decide +kernel
theorem dX3_takeStation_24 : decode cX3_takeStation 24 = .ok (.getfield 18, 3) := by decide +kernel
theorem dX3_takeStation_27 : decode cX3_takeStation 27 = .ok (.iload_n 2, 1) := by decide +kernel
theorem dX3_takeStation_28 : decode cX3_takeStation 28 = .ok (.iaload, 1) := by decide +kernel
theorem dX3_takeStation_29 : decode cX3_takeStation 29 = .ok (.iload_n 1, 1) := by decide +kernel
theorem dX3_takeStation_30 : decode cX3_takeStation 30 = .ok (.if_icmp .ne 23, 3) := by decide +kernel
theorem dX3_takeStation_33 : decode cX3_takeStation 33 = .ok (.aload_n 0, 1) := by decide +kernel
theorem dX3_takeStation_34 : decode cX3_takeStation 34 = .ok (.getfield 21, 3) := by decide +kernel
theorem dX3_takeStation_37 : decode cX3_takeStation 37 = .ok (.iload_n 2, 1) := by decide +kernel
theorem dX3_takeStation_38 : decode cX3_takeStation 38 = .ok (.aload_n 0, 1) := by decide +kernel
theorem dX3_takeStation_39 : decode cX3_takeStation 39 = .ok (.getfield 21, 3) := by decide +kernel
theorem dX3_takeStation_42 : decode cX3_takeStation 42 = .ok (.iload_n 2, 1) := by decide +kernel
theorem dX3_takeStation_43 : decode cX3_takeStation 43 = .ok (.iaload, 1) := by decide +kernel
theorem dX3_takeStation_44 : decode cX3_takeStation 44 = .ok (.iconst 1, 1) := by decide +kernel
theorem dX3_takeStation_45 : decode cX3_takeStation 45 = .ok (.iadd, 1) := by decide +kernel
theorem dX3_takeStation_46 : decode cX3_takeStation 46 = .ok (.bipush 99, 2) := by decide +kernel
theorem dX3_takeStation_48 : decode cX3_takeStation 48 = .ok (.invokestatic 73, 3) := by decide +kernel
theorem dX3_takeStation_51 : decode cX3_takeStation 51 = .ok (.iastore, 1) := by decide +kernel
theorem dX3_takeStation_52 : decode cX3_takeStation 52 = .ok (.return_, 1) := by decide +kernel
theorem dX3_takeStation_53 : decode cX3_takeStation 53 = .ok (.iinc 2 1, 3) := by decide +kernel
theorem dX3_takeStation_56 : decode cX3_takeStation 56 = .ok (.goto (-41), 3) := by decide +kernel
theorem dX3_takeStation_59 : decode cX3_takeStation 59 = .ok (.aload_n 0, 1) := by decide +kernel
theorem dX3_takeStation_60 : decode cX3_takeStation 60 = .ok (.getfield 30, 3) := by decide +kernel
theorem dX3_takeStation_63 : decode cX3_takeStation 63 = .ok (.bipush 8, 2) := by decide +kernel
theorem dX3_takeStation_65 : decode cX3_takeStation 65 = .ok (.if_icmp .ge 33, 3) := by decide +kernel
theorem dX3_takeStation_68 : decode cX3_takeStation 68 = .ok (.aload_n 0, 1) := by decide +kernel
theorem dX3_takeStation_69 : decode cX3_takeStation 69 = .ok (.getfield 18, 3) := by decide +kernel
theorem dX3_takeStation_72 : decode cX3_takeStation 72 = .ok (.aload_n 0, 1) := by decide +kernel
theorem dX3_takeStation_73 : decode cX3_takeStation 73 = .ok (.getfield 30, 3) := by decide +kernel
theorem dX3_takeStation_76 : decode cX3_takeStation 76 = .ok (.iload_n 1, 1) := by decide +kernel
theorem dX3_takeStation_77 : decode cX3_takeStation 77 = .ok (.iastore, 1) := by decide +kernel
theorem dX3_takeStation_78 : decode cX3_takeStation 78 = .ok (.aload_n 0, 1) := by decide +kernel
theorem dX3_takeStation_79 : decode cX3_takeStation 79 = .ok (.getfield 21, 3) := by decide +kernel
theorem dX3_takeStation_82 : decode cX3_takeStation 82 = .ok (.aload_n 0, 1) := by decide +kernel
theorem dX3_takeStation_83 : decode cX3_takeStation 83 = .ok (.getfield 30, 3) := by decide +kernel
theorem dX3_takeStation_86 : decode cX3_takeStation 86 = .ok (.iconst 1, 1) := by decide +kernel
theorem dX3_takeStation_87 : decode cX3_takeStation 87 = .ok (.iastore, 1) := by decide +kernel
theorem dX3_takeStation_88 : decode cX3_takeStation 88 = .ok (.aload_n 0, 1) := by decide +kernel
theorem dX3_takeStation_89 : decode cX3_takeStation 89 = .ok (.dup, 1) := by decide +kernel
theorem dX3_takeStation_90 : decode cX3_takeStation 90 = .ok (.getfield 30, 3) := by decide +kernel
theorem dX3_takeStation_93 : decode cX3_takeStation 93 = .ok (.iconst 1, 1) := by decide +kernel
theorem dX3_takeStation_94 : decode cX3_takeStation 94 = .ok (.iadd, 1) := by decide +kernel
theorem dX3_takeStation_95 : decode cX3_takeStation 95 = .ok (.putfield 30, 3) := by decide +kernel
theorem dX3_takeStation_98 : decode cX3_takeStation 98 = .ok (.return_, 1) := by decide +kernel
theorem dX3_takeFlag_0 : decode cX3_takeFlag 0 = .ok (.iload_n 1, 1) := by decide +kernel
theorem dX3_takeFlag_1 : decode cX3_takeFlag 1 = .ok (.aload_n 0, 1) := by decide +kernel
theorem dX3_takeFlag_2 : decode cX3_takeFlag 2 = .ok (.getfield 43, 3) := by decide +kernel
theorem dX3_takeFlag_5 : decode cX3_takeFlag 5 = .ok (.if_icmp .eq 7, 3) := by decide +kernel
theorem dX3_takeFlag_8 : decode cX3_takeFlag 8 = .ok (.aload_n 0, 1) := by decide +kernel
theorem dX3_takeFlag_9 : decode cX3_takeFlag 9 = .ok (.invokevirtual 46, 3) := by decide +kernel
theorem dX3_takeFlag_12 : decode cX3_takeFlag 12 = .ok (.aload_n 0, 1) := by decide +kernel
theorem dX3_takeFlag_13 : decode cX3_takeFlag 13 = .ok (.iload_n 1, 1) := by decide +kernel
theorem dX3_takeFlag_14 : decode cX3_takeFlag 14 = .ok (.putfield 43, 3) := by decide +kernel
theorem dX3_takeFlag_17 : decode cX3_takeFlag 17 = .ok (.return_, 1) := by decide +kernel
theorem dX3_indexInOrder_0 : decode cX3_indexInOrder 0 = .ok (.iconst 0, 1) := by decide +kernel
theorem dX3_indexInOrder_1 : decode cX3_indexInOrder 1 = .ok (.istore_n 2, 1) := by decide +kernel
theorem dX3_indexInOrder_2 : decode cX3_indexInOrder 2 = .ok (.iload_n 2, 1) := by decide +kernel
theorem dX3_indexInOrder_3 : decode cX3_indexInOrder 3 = .ok (.aload_n 0, 1) := by decide +kernel
theorem dX3_indexInOrder_4 : decode cX3_indexInOrder 4 = .ok (.getfield 30, 3) := by decide +kernel
theorem dX3_indexInOrder_7 : decode cX3_indexInOrder 7 = .ok (.if_icmp .ge 54, 3) := by decide +kernel
theorem dX3_indexInOrder_10 : decode cX3_indexInOrder 10 = .ok (.iconst 0, 1) := by decide +kernel
theorem dX3_indexInOrder_11 : decode cX3_indexInOrder 11 = .ok (.istore_n 3, 1) := by decide +kernel
theorem dX3_indexInOrder_12 : decode cX3_indexInOrder 12 = .ok (.iconst 0, 1) := by decide +kernel
theorem dX3_indexInOrder_13 : decode cX3_indexInOrder 13 = .ok (.istore 4, 2) := by decide +kernel
theorem dX3_indexInOrder_15 : decode cX3_indexInOrder 15 = .ok (.iload 4, 2) := by decide +kernel
theorem dX3_indexInOrder_17 : decode cX3_indexInOrder 17 = .ok (.aload_n 0, 1) := by decide +kernel
theorem dX3_indexInOrder_18 : decode cX3_indexInOrder 18 = .ok (.getfield 30, 3) := by decide +kernel
theorem dX3_indexInOrder_21 : decode cX3_indexInOrder 21 = .ok (.if_icmp .ge 27, 3) := by decide +kernel
theorem dX3_indexInOrder_24 : decode cX3_indexInOrder 24 = .ok (.iload_n 3, 1) := by decide +kernel
theorem dX3_indexInOrder_25 : decode cX3_indexInOrder 25 = .ok (.aload_n 0, 1) := by decide +kernel
theorem dX3_indexInOrder_26 : decode cX3_indexInOrder 26 = .ok (.iload 4, 2) := by decide +kernel
theorem dX3_indexInOrder_28 : decode cX3_indexInOrder 28 = .ok (.iload_n 2, 1) := by decide +kernel
theorem dX3_indexInOrder_29 : decode cX3_indexInOrder 29 = .ok (.invokevirtual 79, 3) := by decide +kernel
theorem dX3_indexInOrder_32 : decode cX3_indexInOrder 32 = .ok (.ifCond .eq 7, 3) := by decide +kernel
theorem dX3_indexInOrder_35 : decode cX3_indexInOrder 35 = .ok (.iconst 1, 1) := by decide +kernel
theorem dX3_indexInOrder_36 : decode cX3_indexInOrder 36 = .ok (.goto 4, 3) := by decide +kernel
theorem dX3_indexInOrder_39 : decode cX3_indexInOrder 39 = .ok (.iconst 0, 1) := by decide +kernel
theorem dX3_indexInOrder_40 : decode cX3_indexInOrder 40 = .ok (.iadd, 1) := by decide +kernel
theorem dX3_indexInOrder_41 : decode cX3_indexInOrder 41 = .ok (.istore_n 3, 1) := by decide +kernel
theorem dX3_indexInOrder_42 : decode cX3_indexInOrder 42 = .ok (.iinc 4 1, 3) := by decide +kernel
theorem dX3_indexInOrder_45 : decode cX3_indexInOrder 45 = .ok (.goto (-30), 3) := by decide +kernel
theorem dX3_indexInOrder_48 : decode cX3_indexInOrder 48 = .ok (.iload_n 3, 1) := by decide +kernel
theorem dX3_indexInOrder_49 : decode cX3_indexInOrder 49 = .ok (.iload_n 1, 1) := by decide +kernel
theorem dX3_indexInOrder_50 : decode cX3_indexInOrder 50 = .ok (.if_icmp .ne 5, 3) := by decide +kernel
theorem dX3_indexInOrder_53 : decode cX3_indexInOrder 53 = .ok (.iload_n 2, 1) := by decide +kernel
theorem dX3_indexInOrder_54 : decode cX3_indexInOrder 54 = .ok (.ireturn, 1) := by decide +kernel
theorem dX3_indexInOrder_55 : decode cX3_indexInOrder 55 = .ok (.iinc 2 1, 3) := by decide +kernel
theorem dX3_indexInOrder_58 : decode cX3_indexInOrder 58 = .ok (.goto (-56), 3) := by decide +kernel
theorem dX3_indexInOrder_61 : decode cX3_indexInOrder 61 = .ok (.iconst (-1), 1) := by decide +kernel
theorem dX3_indexInOrder_62 : decode cX3_indexInOrder 62 = .ok (.ireturn, 1) := by decide +kernel
theorem dX3_comesBefore_0 : decode cX3_comesBefore 0 = .ok (.aload_n 0, 1) := by decide +kernel
theorem dX3_comesBefore_1 : decode cX3_comesBefore 1 = .ok (.getfield 21, 3) := by decide +kernel
theorem dX3_comesBefore_4 : decode cX3_comesBefore 4 = .ok (.iload_n 1, 1) := by decide +kernel
theorem dX3_comesBefore_5 : decode cX3_comesBefore 5 = .ok (.iaload, 1) := by decide +kernel
theorem dX3_comesBefore_6 : decode cX3_comesBefore 6 = .ok (.aload_n 0, 1) := by decide +kernel
theorem dX3_comesBefore_7 : decode cX3_comesBefore 7 = .ok (.getfield 21, 3) := by decide +kernel
theorem dX3_comesBefore_10 : decode cX3_comesBefore 10 = .ok (.iload_n 2, 1) := by decide +kernel
theorem dX3_comesBefore_11 : decode cX3_comesBefore 11 = .ok (.iaload, 1) := by decide +kernel
theorem dX3_comesBefore_12 : decode cX3_comesBefore 12 = .ok (.if_icmp .eq 24, 3) := by decide +kernel
theorem dX3_comesBefore_15 : decode cX3_comesBefore 15 = .ok (.aload_n 0, 1) := by decide +kernel
theorem dX3_comesBefore_16 : decode cX3_comesBefore 16 = .ok (.getfield 21, 3) := by decide +kernel
theorem dX3_comesBefore_19 : decode cX3_comesBefore 19 = .ok (.iload_n 1, 1) := by decide +kernel
theorem dX3_comesBefore_20 : decode cX3_comesBefore 20 = .ok (.iaload, 1) := by decide +kernel
theorem dX3_comesBefore_21 : decode cX3_comesBefore 21 = .ok (.aload_n 0, 1) := by decide +kernel
theorem dX3_comesBefore_22 : decode cX3_comesBefore 22 = .ok (.getfield 21, 3) := by decide +kernel
theorem dX3_comesBefore_25 : decode cX3_comesBefore 25 = .ok (.iload_n 2, 1) := by decide +kernel
theorem dX3_comesBefore_26 : decode cX3_comesBefore 26 = .ok (.iaload, 1) := by decide +kernel
theorem dX3_comesBefore_27 : decode cX3_comesBefore 27 = .ok (.if_icmp .le 7, 3) := by decide +kernel
theorem dX3_comesBefore_30 : decode cX3_comesBefore 30 = .ok (.iconst 1, 1) := by decide +kernel
theorem dX3_comesBefore_31 : decode cX3_comesBefore 31 = .ok (.goto 4, 3) := by decide +kernel
theorem dX3_comesBefore_34 : decode cX3_comesBefore 34 = .ok (.iconst 0, 1) := by decide +kernel
theorem dX3_comesBefore_35 : decode cX3_comesBefore 35 = .ok (.ireturn, 1) := by decide +kernel
theorem dX3_comesBefore_36 : decode cX3_comesBefore 36 = .ok (.aload_n 0, 1) := by decide +kernel
theorem dX3_comesBefore_37 : decode cX3_comesBefore 37 = .ok (.getfield 18, 3) := by decide +kernel
theorem dX3_comesBefore_40 : decode cX3_comesBefore 40 = .ok (.iload_n 1, 1) := by decide +kernel
theorem dX3_comesBefore_41 : decode cX3_comesBefore 41 = .ok (.iaload, 1) := by decide +kernel
theorem dX3_comesBefore_42 : decode cX3_comesBefore 42 = .ok (.aload_n 0, 1) := by decide +kernel
theorem dX3_comesBefore_43 : decode cX3_comesBefore 43 = .ok (.getfield 18, 3) := by decide +kernel
theorem dX3_comesBefore_46 : decode cX3_comesBefore 46 = .ok (.iload_n 2, 1) := by decide +kernel
theorem dX3_comesBefore_47 : decode cX3_comesBefore 47 = .ok (.iaload, 1) := by decide +kernel
theorem dX3_comesBefore_48 : decode cX3_comesBefore 48 = .ok (.if_icmp .ge 7, 3) := by decide +kernel
theorem dX3_comesBefore_51 : decode cX3_comesBefore 51 = .ok (.iconst 1, 1) := by decide +kernel
theorem dX3_comesBefore_52 : decode cX3_comesBefore 52 = .ok (.goto 4, 3) := by decide +kernel
theorem dX3_comesBefore_55 : decode cX3_comesBefore 55 = .ok (.iconst 0, 1) := by decide +kernel
theorem dX3_comesBefore_56 : decode cX3_comesBefore 56 = .ok (.ireturn, 1) := by decide +kernel
