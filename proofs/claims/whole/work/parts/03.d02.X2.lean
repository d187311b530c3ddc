theorem dX2_init_0 : decode cX2_init 0 = .ok (.aload_n 0, 1) := by decide +kernel
theorem dX2_init_1 : decode cX2_init 1 = .ok (.invokespecial 3, 3) := by decide +kernel
theorem dX2_init_4 : decode cX2_init 4 = .ok (.aload_n 0, 1) := by decide +kernel
theorem dX2_init_5 : decode cX2_init 5 = .ok (.new 9, 3) := by decide +kernel
theorem dX2_init_8 : decode cX2_init 8 = .ok (.dup, 1) := by decide +kernel
theorem dX2_init_9 : decode cX2_init 9 = .ok (.invokespecial 11, 3) := by decide +kernel
theorem dX2_init_12 : decode cX2_init 12 = .ok (.putfield 12, 3) := by decide +kernel
theorem dX2_init_15 : decode cX2_init 15 = .ok (.aload_n 0, 1) := by decide +kernel
theorem dX2_init_16 : decode cX2_init 16 = .ok (.iconst 4, 1) := by decide +kernel
theorem dX2_init_17 : decode cX2_init 17 = .ok (.newarray .int, 2) := by decide +kernel
theorem dX2_init_19 : decode cX2_init 19 = .ok (.putfield 18, 3) := by decide +kernel
theorem dX2_init_22 : decode cX2_init 22 = .ok (.aload_n 0, 1) := by decide +kernel
theorem dX2_init_23 : decode cX2_init 23 = .ok (.invokevirtual 22, 3) := by decide +kernel
theorem dX2_init_26 : decode cX2_init 26 = .ok (.return_, 1) := by decide +kernel
theorem dX2_clear_0 : decode cX2_clear 0 = .ok (.aload_n 0, 1) := by decide +kernel
theorem dX2_clear_1 : decode cX2_clear 1 = .ok (.iconst 0, 1) := by decide +kernel
theorem dX2_clear_2 : decode cX2_clear 2 = .ok (.putfield 25, 3) := by decide +kernel
theorem dX2_clear_5 : decode cX2_clear 5 = .ok (.aload_n 0, 1) := by decide +kernel
theorem dX2_clear_6 : decode cX2_clear 6 = .ok (.iconst 0, 1) := by decide +kernel
theorem dX2_clear_7 : decode cX2_clear 7 = .ok (.putfield 29, 3) := by decide +kernel
theorem dX2_clear_10 : decode cX2_clear 10 = .ok (.aload_n 0, 1) := by decide +kernel
theorem dX2_clear_11 : decode cX2_clear 11 = .ok (.iconst 0, 1) := by decide +kernel
theorem dX2_clear_12 : decode cX2_clear 12 = .ok (.putfield 32, 3) := by decide +kernel
theorem dX2_clear_15 : decode cX2_clear 15 = .ok (.aload_n 0, 1) := by decide +kernel
theorem dX2_clear_16 : decode cX2_clear 16 = .ok (.iconst 0, 1) := by decide +kernel
theorem dX2_clear_17 : decode cX2_clear 17 = .ok (.putfield 35, 3) := by decide +kernel
theorem dX2_clear_20 : decode cX2_clear 20 = .ok (.aload_n 0, 1) := by decide +kernel
theorem dX2_clear_21 : decode cX2_clear 21 = .ok (.iconst 0, 1) := by decide +kernel
theorem dX2_clear_22 : decode cX2_clear 22 = .ok (.putfield 39, 3) := by decide +kernel
theorem dX2_clear_25 : decode cX2_clear 25 = .ok (.aload_n 0, 1) := by decide +kernel
theorem dX2_clear_26 : decode cX2_clear 26 = .ok (.iconst 0, 1) := by decide +kernel
theorem dX2_clear_27 : decode cX2_clear 27 = .ok (.putfield 42, 3) := by decide +kernel
theorem dX2_clear_30 : decode cX2_clear 30 = .ok (.aload_n 0, 1) := by decide +kernel
theorem dX2_clear_31 : decode cX2_clear 31 = .ok (.iconst 0, 1) := by decide +kernel
theorem dX2_clear_32 : decode cX2_clear 32 = .ok (.putfield 45, 3) := by decide +kernel
theorem dX2_clear_35 : decode cX2_clear 35 = .ok (.aload_n 0, 1) := by decide +kernel
theorem dX2_clear_36 : decode cX2_clear 36 = .ok (.iconst 0, 1) := by decide +kernel
theorem dX2_clear_37 : decode cX2_clear 37 = .ok (.putfield 48, 3) := by decide +kernel
theorem dX2_clear_40 : decode cX2_clear 40 = .ok (.aload_n 0, 1) := by decide +kernel
theorem dX2_clear_41 : decode cX2_clear 41 = .ok (.iconst 0, 1) := by decide +kernel
theorem dX2_clear_42 : decode cX2_clear 42 = .ok (.putfield 51, 3) := by decide +kernel
theorem dX2_clear_45 : decode cX2_clear 45 = .ok (.aload_n 0, 1) := by decide +kernel
theorem dX2_clear_46 : decode cX2_clear 46 = .ok (.iconst 0, 1) := by decide +kernel
theorem dX2_clear_47 : decode cX2_clear 47 = .ok (.putfield 54, 3) := by decide +kernel
theorem dX2_clear_50 : decode cX2_clear 50 = .ok (.aload_n 0, 1) := by decide +kernel
theorem dX2_clear_51 : decode cX2_clear 51 = .ok (.iconst 0, 1) := by decide +kernel
theorem dX2_clear_52 : decode cX2_clear 52 = .ok (.putfield 57, 3) := by decide +kernel
theorem dX2_clear_55 : decode cX2_clear 55 = .ok (.aload_n 0, 1) := by decide +kernel
theorem dX2_clear_56 : decode cX2_clear 56 = .ok (.iconst 0, 1) := by decide +kernel
theorem dX2_clear_57 : decode cX2_clear 57 = .ok (.putfield 60, 3) := by decide +kernel
theorem dX2_clear_60 : decode cX2_clear 60 = .ok (.aload_n 0, 1) := by decide +kernel
theorem dX2_clear_61 : decode cX2_clear 61 = .ok (.bipush (-9), 2) := by decide +kernel
theorem dX2_clear_63 : decode cX2_clear 63 = .ok (.putfield 63, 3) := by decide +kernel
theorem dX2_clear_66 : decode cX2_clear 66 = .ok (.aload_n 0, 1) := by decide +kernel
theorem dX2_clear_67 : decode cX2_clear 67 = .ok (.getfield 18, 3) := by decide +kernel
theorem dX2_clear_70 : decode cX2_clear 70 = .ok (.bipush (-9), 2) := by decide +kernel
theorem dX2_clear_72 : decode cX2_clear 72 = .ok (.invokestatic 66, 3) := by decide +kernel
theorem dX2_clear_75 : decode cX2_clear 75 = .ok (.aload_n 0, 1) := by decide +kernel
theorem dX2_clear_76 : decode cX2_clear 76 = .ok (.getfield 12, 3) := by decide +kernel
theorem dX2_clear_79 : decode cX2_clear 79 = .ok (.invokevirtual 72, 3) := by decide +kernel
theorem dX2_clear_82 : decode cX2_clear 82 = .ok (.return_, 1) := by decide +kernel
theorem dX2_copyFrom_0 : decode cX2_copyFrom 0 = .ok (.aload_n 0, 1) := by decide +kernel
theorem dX2_copyFrom_1 : decode cX2_copyFrom 1 = .ok (.aload_n 1, 1) := by decide +kernel
theorem dX2_copyFrom_2 : decode cX2_copyFrom 2 = .ok (.getfield 25, 3) := by decide +kernel
theorem dX2_copyFrom_5 : decode cX2_copyFrom 5 = .ok (.putfield 25, 3) := by decide +kernel
theorem dX2_copyFrom_8 : decode cX2_copyFrom 8 = .ok (.aload_n 0, 1) := by decide +kernel
theorem dX2_copyFrom_9 : decode cX2_copyFrom 9 = .ok (.aload_n 1, 1) := by decide +kernel
theorem dX2_copyFrom_10 : decode cX2_copyFrom 10 = .ok (.getfield 29, 3) := by decide +kernel
theorem dX2_copyFrom_13 : decode cX2_copyFrom 13 = .ok (.putfield 29, 3) := by decide +kernel
theorem dX2_copyFrom_16 : decode cX2_copyFrom 16 = .ok (.aload_n 0, 1) := by decide +kernel
theorem dX2_copyFrom_17 : decode cX2_copyFrom 17 = .ok (.aload_n 1, 1) := by decide +kernel
theorem dX2_copyFrom_18 : decode cX2_copyFrom 18 = .ok (.getfield 32, 3) := by decide +kernel
theorem dX2_copyFrom_21 : decode cX2_copyFrom 21 = .ok (.putfield 32, 3) := by decide +kernel
theorem dX2_copyFrom_24 : decode cX2_copyFrom 24 = .ok (.aload_n 0, 1) := by decide +kernel
theorem dX2_copyFrom_25 : decode cX2_copyFrom 25 = .ok (.aload_n 1, 1) := by decide +kernel
theorem dX2_copyFrom_26 : decode cX2_copyFrom 26 = .ok (.getfield 35, 3) := by decide +kernel
theorem dX2_copyFrom_29 : decode cX2_copyFrom 29 = .ok (.putfield 35, 3) := by decide +kernel
theorem dX2_copyFrom_32 : decode cX2_copyFrom 32 = .ok (.aload_n 0, 1) := by decide +kernel
theorem dX2_copyFrom_33 : decode cX2_copyFrom 33 = .ok (.aload_n 1, 1) := by decide +kernel
theorem dX2_copyFrom_34 : decode cX2_copyFrom 34 = .ok (.getfield 39, 3) := by decide +kernel
theorem dX2_copyFrom_37 : decode cX2_copyFrom 37 = .ok (.putfield 39, 3) := by decide +kernel
theorem dX2_copyFrom_40 : decode cX2_copyFrom 40 = .ok (.aload_n 0, 1) := by decide +kernel
theorem dX2_copyFrom_41 : decode cX2_copyFrom 41 = .ok (.aload_n 1, 1) := by decide +kernel
theorem dX2_copyFrom_42 : decode cX2_copyFrom 42 = .ok (.getfield 42, 3) := by decide +kernel
theorem dX2_copyFrom_45 : decode cX2_copyFrom 45 = .ok (.putfield 42, 3) := by decide +kernel
theorem dX2_copyFrom_48 : decode cX2_copyFrom 48 = .ok (.aload_n 0, 1) := by decide +kernel
theorem dX2_copyFrom_49 : decode cX2_copyFrom 49 = .ok (.aload_n 1, 1) := by decide +kernel
theorem dX2_copyFrom_50 : decode cX2_copyFrom 50 = .ok (.getfield 45, 3) := by decide +kernel
theorem dX2_copyFrom_53 : decode cX2_copyFrom 53 = .ok (.putfield 45, 3) := by decide +kernel
theorem dX2_copyFrom_56 : decode cX2_copyFrom 56 = .ok (.aload_n 0, 1) := by decide +kernel
theorem dX2_copyFrom_57 : decode cX2_copyFrom 57 = .ok (.aload_n 1, 1) := by decide +kernel
theorem dX2_copyFrom_58 : decode cX2_copyFrom 58 = .ok (.getfield 48, 3) := by decide +kernel
theorem dX2_copyFrom_61 : decode cX2_copyFrom 61 = .ok (.putfield 48, 3) := by decide +kernel
theorem dX2_copyFrom_64 : decode cX2_copyFrom 64 = .ok (.aload_n 0, 1) := by decide +kernel
theorem dX2_copyFrom_65 : decode cX2_copyFrom 65 = .ok (.aload_n 1, 1) := by decide +kernel
theorem dX2_copyFrom_66 : decode cX2_copyFrom 66 = .ok (.getfield 51, 3) := by decide +kernel
theorem dX2_copyFrom_69 : decode cX2_copyFrom 69 = .ok (.putfield 51, 3) := by decide +kernel
theorem dX2_copyFrom_72 : decode cX2_copyFrom 72 = .ok (.aload_n 0, 1) := by decide +kernel
theorem dX2_copyFrom_73 : decode cX2_copyFrom 73 = .ok (.aload_n 1, 1) := by decide +kernel
theorem dX2_copyFrom_74 : decode cX2_copyFrom 74 = .ok (.getfield 54, 3) := by decide +kernel
theorem dX2_copyFrom_77 : decode cX2_copyFrom 77 = .ok (.putfield 54, 3) := by decide +kernel
theorem dX2_copyFrom_80 : decode cX2_copyFrom 80 = .ok (.aload_n 0, 1) := by decide +kernel
theorem dX2_copyFrom_81 : decode cX2_copyFrom 81 = .ok (.aload_n 1, 1) := by decide +kernel
theorem dX2_copyFrom_82 : decode cX2_copyFrom 82 = .ok (.getfield 57, 3) := by decide +kernel
theorem dX2_copyFrom_85 : decode cX2_copyFrom 85 = .ok (.putfield 57, 3) := by decide +kernel
theorem dX2_copyFrom_88 : decode cX2_copyFrom 88 = .ok (.aload_n 0, 1) := by decide +kernel
theorem dX2_copyFrom_89 : decode cX2_copyFrom 89 = .ok (.aload_n 1, 1) := by decide +kernel
theorem dX2_copyFrom_90 : decode cX2_copyFrom 90 = .ok (.getfield 60, 3) := by decide +kernel
theorem dX2_copyFrom_93 : decode cX2_copyFrom 93 = .ok (.putfield 60, 3) := by decide +kernel
theorem dX2_copyFrom_96 : decode cX2_copyFrom 96 = .ok (.aload_n 0, 1) := by decide +kernel
theorem dX2_copyFrom_97 : decode cX2_copyFrom 97 = .ok (.aload_n 1, 1) := by decide +kernel
theorem dX2_copyFrom_98 : decode cX2_copyFrom 98 = .ok (.getfield 63, 3) := by decide +kernel
theorem dX2_copyFrom_101 : decode cX2_copyFrom 101 = .ok (.putfield 63, 3) := by decide +kernel
theorem dX2_copyFrom_104 : decode cX2_copyFrom 104 = .ok (.aload_n 1, 1) := by decide +kernel
theorem dX2_copyFrom_105 : decode cX2_copyFrom 105 = .ok (.getfield 18, 3) := by decide +kernel
theorem dX2_copyFrom_108 : decode cX2_copyFrom 108 = .ok (.iconst 0, 1) := by decide +kernel
theorem dX2_copyFrom_109 : decode cX2_copyFrom 109 = .ok (.aload_n 0, 1) := by decide +kernel
theorem dX2_copyFrom_110 : decode cX2_copyFrom 110 = .ok (.getfield 18, 3) := by decide +kernel
theorem dX2_copyFrom_113 : decode cX2_copyFrom 113 = .ok (.iconst 0, 1) := by decide +kernel
theorem dX2_copyFrom_114 : decode cX2_copyFrom 114 = .ok (.iconst 4, 1) := by decide +kernel
theorem dX2_copyFrom_115 : decode cX2_copyFrom 115 = .ok (.invokestatic 73, 3) := by decide +kernel
theorem dX2_copyFrom_118 : decode cX2_copyFrom 118 = .ok (.aload_n 0, 1) := by decide +kernel
theorem dX2_copyFrom_119 : decode cX2_copyFrom 119 = .ok (.getfield 12, 3) := by decide +kernel
theorem dX2_copyFrom_122 : decode cX2_copyFrom 122 = .ok (.aload_n 1, 1) := by decide +kernel
theorem dX2_copyFrom_123 : decode cX2_copyFrom 123 = .ok (.getfield 12, 3) := by decide +kernel
theorem dX2_copyFrom_126 : decode cX2_copyFrom 126 = .ok (.invokevirtual 79, 3) := by decide +kernel
theorem dX2_copyFrom_129 : decode cX2_copyFrom 129 = .ok (.return_, 1) := by decide +kernel
theorem dX2_syncBit_0 : decode cX2_syncBit 0 = .ok (.aload_n 0, 1) := by decide +kernel
theorem dX2_syncBit_1 : decode cX2_syncBit 1 = .ok (.getfield 35, 3) := by decide +kernel
theorem dX2_syncBit_4 : decode cX2_syncBit 4 = .ok (.ifCond .eq 7, 3) := by decide +kernel
theorem dX2_syncBit_7 : decode cX2_syncBit 7 = .ok (.iconst 1, 1) := by decide +kernel
theorem dX2_syncBit_8 : decode cX2_syncBit 8 = .ok (.goto 4, 3) := by decide +kernel
theorem dX2_syncBit_11 : decode cX2_syncBit 11 = .ok (.iconst 0, 1) := by decide +kernel
theorem dX2_syncBit_12 : decode cX2_syncBit 12 = .ok (.ireturn, 1) := by decide +kernel
theorem dX2_tell_0 : decode cX2_tell 0 = .ok (.iload_n 1, 1) := by decide +kernel
theorem dX2_tell_1 : decode cX2_tell 1 = .ok (.tableswitch 141 3 12 #[55, 60, 65, 70, 87, 104, 121, 126, 131, 136], 55) := by decide +kernel
theorem dX2_tell_56 : decode cX2_tell 56 = .ok (.aload_n 0, 1) := by decide +kernel
theorem dX2_tell_57 : decode cX2_tell 57 = .ok (.getfield 29, 3) := by decide +kernel
theorem dX2_tell_60 : decode cX2_tell 60 = .ok (.ireturn, 1) := by decide +kernel
theorem dX2_tell_61 : decode cX2_tell 61 = .ok (.aload_n 0, 1) := by decide +kernel
theorem dX2_tell_62 : decode cX2_tell 62 = .ok (.getfield 25, 3) := by decide +kernel
theorem dX2_tell_65 : decode cX2_tell 65 = .ok (.ireturn, 1) := by decide +kernel
theorem dX2_tell_66 : decode cX2_tell 66 = .ok (.aload_n 0, 1) := by decide +kernel
theorem dX2_tell_67 : decode cX2_tell 67 = .ok (.invokevirtual 83, 3) := by decide +kernel
theorem dX2_tell_70 : decode cX2_tell 70 = .ok (.ireturn, 1) := by decide +kernel
theorem dX2_tell_71 : decode cX2_tell 71 = .ok (.aload_n 0, 1) := by decide +kernel
theorem dX2_tell_72 : decode cX2_tell 72 = .ok (.getfield 35, 3) := by decide +kernel
theorem dX2_tell_75 : decode cX2_tell 75 = .ok (.ifCond .eq 10, 3) := by decide +kernel
theorem dX2_tell_78 : decode cX2_tell 78 = .ok (.aload_n 0, 1) := by decide +kernel
theorem dX2_tell_79 : decode cX2_tell 79 = .ok (.getfield 39, 3) := by decide +kernel
theorem dX2_tell_82 : decode cX2_tell 82 = .ok (.goto 5, 3) := by decide +kernel
theorem dX2_tell_85 : decode cX2_tell 85 = .ok (.bipush (-9), 2) := by decide +kernel
theorem dX2_tell_87 : decode cX2_tell 87 = .ok (.ireturn, 1) := by decide +kernel
theorem dX2_tell_88 : decode cX2_tell 88 = .ok (.aload_n 0, 1) := by decide +kernel
theorem dX2_tell_89 : decode cX2_tell 89 = .ok (.getfield 35, 3) := by decide +kernel
theorem dX2_tell_92 : decode cX2_tell 92 = .ok (.ifCond .eq 10, 3) := by decide +kernel
theorem dX2_tell_95 : decode cX2_tell 95 = .ok (.aload_n 0, 1) := by decide +kernel
theorem dX2_tell_96 : decode cX2_tell 96 = .ok (.getfield 42, 3) := by decide +kernel
theorem dX2_tell_99 : decode cX2_tell 99 = .ok (.goto 5, 3) := by decide +kernel
theorem dX2_tell_102 : decode cX2_tell 102 = .ok (.bipush (-9), 2) := by decide +kernel
theorem dX2_tell_104 : decode cX2_tell 104 = .ok (.ireturn, 1) := by decide +kernel
theorem dX2_tell_105 : decode cX2_tell 105 = .ok (.aload_n 0, 1) := by decide +kernel
theorem dX2_tell_106 : decode cX2_tell 106 = .ok (.getfield 35, 3) := by decide +kernel
theorem dX2_tell_109 : decode cX2_tell 109 = .ok (.ifCond .eq 10, 3) := by decide +kernel
theorem dX2_tell_112 : decode cX2_tell 112 = .ok (.aload_n 0, 1) := by decide +kernel
theorem dX2_tell_113 : decode cX2_tell 113 = .ok (.getfield 45, 3) := by decide +kernel
theorem dX2_tell_116 : decode cX2_tell 116 = .ok (.goto 5, 3) := by decide +kernel
theorem dX2_tell_119 : decode cX2_tell 119 = .ok (.bipush (-9), 2) := by decide +kernel
theorem dX2_tell_121 : decode cX2_tell 121 = .ok (.ireturn, 1) := by decide +kernel
theorem dX2_tell_122 : decode cX2_tell 122 = .ok (.aload_n 0, 1) := by decide +kernel
theorem dX2_tell_123 : decode cX2_tell 123 = .ok (.getfield 48, 3) := by decide +kernel
theorem dX2_tell_126 : decode cX2_tell 126 = .ok (.ireturn, 1) := by decide +kernel
theorem dX2_tell_127 : decode cX2_tell 127 = .ok (.aload_n 0, 1) := by decide +kernel
theorem dX2_tell_128 : decode cX2_tell 128 = .ok (.getfield 51, 3) := by decide +kernel
theorem dX2_tell_131 : decode cX2_tell 131 = .ok (.ireturn, 1) := by decide +kernel
theorem dX2_tell_132 : decode cX2_tell 132 = .ok (.aload_n 0, 1) := by decide +kernel
theorem dX2_tell_133 : decode cX2_tell 133 = .ok (.getfield 54, 3) := by decide +kernel
theorem dX2_tell_136 : decode cX2_tell 136 = .ok (.ireturn, 1) := by decide +kernel
theorem dX2_tell_137 : decode cX2_tell 137 = .ok (.aload_n 0, 1) := by decide +kernel
theorem dX2_tell_138 : decode cX2_tell 138 = .ok (.getfield 57, 3) := by decide +kernel
theorem dX2_tell_141 : decode cX2_tell 141 = .ok (.ireturn, 1) := by decide +kernel
theorem dX2_tell_142 : decode cX2_tell 142 = .ok (.bipush (-2), 2) := by decide +kernel
theorem dX2_tell_144 : decode cX2_tell 144 = .ok (.ireturn, 1) := by decide +kernel
theorem dX2_countOf_0 : decode cX2_countOf 0 = .ok (.iload_n 1, 1) := by decide +kernel
theorem dX2_countOf_1 : decode cX2_countOf 1 = .ok (.lookupswitch 37 #[(0, 27), (1, 32)], 27) := by decide +kernel
theorem dX2_countOf_28 : decode cX2_countOf 28 = .ok (.aload_n 0, 1) := by decide +kernel
theorem dX2_countOf_29 : decode cX2_countOf 29 = .ok (.getfield 48, 3) := by decide +kernel
theorem dX2_countOf_32 : decode cX2_countOf 32 = .ok (.ireturn, 1) := by decide +kernel
theorem dX2_countOf_33 : decode cX2_countOf 33 = .ok (.aload_n 0, 1) := by decide +kernel
theorem dX2_countOf_34 : decode cX2_countOf 34 = .ok (.getfield 51, 3) := by decide +kernel
theorem dX2_countOf_37 : decode cX2_countOf 37 = .ok (.ireturn, 1) := by decide +kernel
theorem dX2_countOf_38 : decode cX2_countOf 38 = .ok (.aload_n 0, 1) := by decide +kernel
theorem dX2_countOf_39 : decode cX2_countOf 39 = .ok (.getfield 54, 3) := by decide +kernel
theorem dX2_countOf_42 : decode cX2_countOf 42 = .ok (.ireturn, 1) := by decide +kernel
theorem dX2_hearBits_0 : decode cX2_hearBits 0 = .ok (.iload 4, 2) := by decide +kernel
theorem dX2_hearBits_2 : decode cX2_hearBits 2 = .ok (.iconst 1, 1) := by decide +kernel
theorem dX2_hearBits_3 : decode cX2_hearBits 3 = .ok (.isub, 1) := by decide +kernel
theorem dX2_hearBits_4 : decode cX2_hearBits 4 = .ok (.istore 5, 2) := by decide +kernel
theorem dX2_hearBits_6 : decode cX2_hearBits 6 = .ok (.iload 5, 2) := by decide +kernel
theorem dX2_hearBits_8 : decode cX2_hearBits 8 = .ok (.ifCond .lt 89, 3) := by decide +kernel
theorem dX2_hearBits_11 : decode cX2_hearBits 11 = .ok (.aload_n 0, 1) := by decide +kernel
theorem dX2_hearBits_12 : decode cX2_hearBits 12 = .ok (.aload_n 0, 1) := by decide +kernel
theorem dX2_hearBits_13 : decode cX2_hearBits 13 = .ok (.getfield 25, 3) := by decide +kernel
theorem dX2_hearBits_16 : decode cX2_hearBits 16 = .ok (.iconst 1, 1) := by decide +kernel
theorem dX2_hearBits_17 : decode cX2_hearBits 17 = .ok (.ishl, 1) := by decide +kernel
theorem dX2_hearBits_18 : decode cX2_hearBits 18 = .ok (.lload_n 2, 1) := by decide +kernel
theorem dX2_hearBits_19 : decode cX2_hearBits 19 = .ok (.iload 5, 2) := by decide +kernel
theorem dX2_hearBits_21 : decode cX2_hearBits 21 = .ok (.lshr, 1) := by decide +kernel
theorem dX2_hearBits_22 : decode cX2_hearBits 22 = .ok (.l2i, 1) := by decide +kernel
theorem dX2_hearBits_23 : decode cX2_hearBits 23 = .ok (.iconst 1, 1) := by decide +kernel
theorem dX2_hearBits_24 : decode cX2_hearBits 24 = .ok (.iand, 1) := by decide +kernel
theorem dX2_hearBits_25 : decode cX2_hearBits 25 = .ok (.ior, 1) := by decide +kernel
theorem dX2_hearBits_26 : decode cX2_hearBits 26 = .ok (.sipush 16383, 3) := by decide +kernel
theorem dX2_hearBits_29 : decode cX2_hearBits 29 = .ok (.iand, 1) := by decide +kernel
theorem dX2_hearBits_30 : decode cX2_hearBits 30 = .ok (.putfield 25, 3) := by decide +kernel
theorem dX2_hearBits_33 : decode cX2_hearBits 33 = .ok (.aload_n 0, 1) := by decide +kernel
theorem dX2_hearBits_34 : decode cX2_hearBits 34 = .ok (.dup, 1) := by decide +kernel
theorem dX2_hearBits_35 : decode cX2_hearBits 35 = .ok (.getfield 29, 3) := by decide +kernel
theorem dX2_hearBits_38 : decode cX2_hearBits 38 = .ok (.iconst 1, 1) := by decide +kernel
theorem dX2_hearBits_39 : decode cX2_hearBits 39 = .ok (.iadd, 1) := by decide +kernel
theorem dX2_hearBits_40 : decode cX2_hearBits 40 = .ok (.putfield 29, 3) := by decide +kernel
theorem dX2_hearBits_43 : decode cX2_hearBits 43 = .ok (.aload_n 0, 1) := by decide +kernel
theorem dX2_hearBits_44 : decode cX2_hearBits 44 = .ok (.dup, 1) := by decide +kernel
theorem dX2_hearBits_45 : decode cX2_hearBits 45 = .ok (.getfield 32, 3) := by decide +kernel
theorem dX2_hearBits_48 : decode cX2_hearBits 48 = .ok (.iconst 1, 1) := by decide +kernel
theorem dX2_hearBits_49 : decode cX2_hearBits 49 = .ok (.iadd, 1) := by decide +kernel
theorem dX2_hearBits_50 : decode cX2_hearBits 50 = .ok (.putfield 32, 3) := by decide +kernel
theorem dX2_hearBits_53 : decode cX2_hearBits 53 = .ok (.aload_n 0, 1) := by decide +kernel
theorem dX2_hearBits_54 : decode cX2_hearBits 54 = .ok (.getfield 35, 3) := by decide +kernel
theorem dX2_hearBits_57 : decode cX2_hearBits 57 = .ok (.ifCond .eq 11, 3) := by decide +kernel
theorem dX2_hearBits_60 : decode cX2_hearBits 60 = .ok (.aload_n 0, 1) := by decide +kernel
theorem dX2_hearBits_61 : decode cX2_hearBits 61 = .ok (.aload_n 1, 1) := by decide +kernel
theorem dX2_hearBits_62 : decode cX2_hearBits 62 = .ok (.invokevirtual 87, 3) := by decide +kernel
theorem dX2_hearBits_65 : decode cX2_hearBits 65 = .ok (.goto 8, 3) := by decide +kernel
theorem dX2_hearBits_68 : decode cX2_hearBits 68 = .ok (.aload_n 0, 1) := by decide +kernel
theorem dX2_hearBits_69 : decode cX2_hearBits 69 = .ok (.aload_n 1, 1) := by decide +kernel
theorem dX2_hearBits_70 : decode cX2_hearBits 70 = .ok (.invokevirtual 91, 3) := by decide +kernel
theorem dX2_hearBits_73 : decode cX2_hearBits 73 = .ok (.istore 6, 2) := by decide +kernel
theorem dX2_hearBits_75 : decode cX2_hearBits 75 = .ok (.iload 6, 2) := by decide +kernel
theorem dX2_hearBits_77 : decode cX2_hearBits 77 = .ok (.ifCond .eq 14, 3) := by decide +kernel
theorem dX2_hearBits_80 : decode cX2_hearBits 80 = .ok (.aload_n 0, 1) := by decide +kernel
theorem dX2_hearBits_81 : decode cX2_hearBits 81 = .ok (.getfield 12, 3) := by decide +kernel
theorem dX2_hearBits_84 : decode cX2_hearBits 84 = .ok (.aload_n 0, 1) := by decide +kernel
theorem dX2_hearBits_85 : decode cX2_hearBits 85 = .ok (.getfield 18, 3) := by decide +kernel
theorem dX2_hearBits_88 : decode cX2_hearBits 88 = .ok (.invokevirtual 94, 3) := by decide +kernel
theorem dX2_hearBits_91 : decode cX2_hearBits 91 = .ok (.iinc 5 (-1), 3) := by decide +kernel
theorem dX2_hearBits_94 : decode cX2_hearBits 94 = .ok (.goto (-88), 3) := by decide +kernel
theorem dX2_hearBits_97 : decode cX2_hearBits 97 = .ok (.return_, 1) := by decide +kernel
theorem dX2_seekSync_0 : decode cX2_seekSync 0 = .ok (.aload_n 0, 1) := by decide +kernel
theorem dX2_seekSync_1 : decode cX2_seekSync 1 = .ok (.getfield 32, 3) := by decide +kernel
theorem dX2_seekSync_4 : decode cX2_seekSync 4 = .ok (.bipush 14, 2) := by decide +kernel
theorem dX2_seekSync_6 : decode cX2_seekSync 6 = .ok (.if_icmp .lt 14, 3) := by decide +kernel
theorem dX2_seekSync_9 : decode cX2_seekSync 9 = .ok (.aload_n 1, 1) := by decide +kernel
theorem dX2_seekSync_10 : decode cX2_seekSync 10 = .ok (.aload_n 0, 1) := by decide +kernel
theorem dX2_seekSync_11 : decode cX2_seekSync 11 = .ok (.getfield 25, 3) := by decide +kernel
theorem dX2_seekSync_14 : decode cX2_seekSync 14 = .ok (.invokevirtual 98, 3) := by decide +kernel
theorem dX2_seekSync_17 : decode cX2_seekSync 17 = .ok (.goto 5, 3) := by decide +kernel
theorem dX2_seekSync_20 : decode cX2_seekSync 20 = .ok (.bipush (-9), 2) := by decide +kernel
theorem dX2_seekSync_22 : decode cX2_seekSync 22 = .ok (.istore_n 2, 1) := by decide +kernel
theorem dX2_seekSync_23 : decode cX2_seekSync 23 = .ok (.iload_n 2, 1) := by decide +kernel
theorem dX2_seekSync_24 : decode cX2_seekSync 24 = .ok (.bipush (-9), 2) := by decide +kernel
theorem dX2_seekSync_26 : decode cX2_seekSync 26 = .ok (.if_icmp .ne 5, 3) := by decide +kernel
theorem dX2_seekSync_29 : decode cX2_seekSync 29 = .ok (.iconst 0, 1) := by decide +kernel
theorem dX2_seekSync_30 : decode cX2_seekSync 30 = .ok (.ireturn, 1) := by decide +kernel
theorem dX2_seekSync_31 : decode cX2_seekSync 31 = .ok (.aload_n 0, 1) := by decide +kernel
theorem dX2_seekSync_32 : decode cX2_seekSync 32 = .ok (.iload_n 2, 1) := by decide +kernel
theorem dX2_seekSync_33 : decode cX2_seekSync 33 = .ok (.invokevirtual 104, 3) := by decide +kernel
theorem dX2_seekSync_36 : decode cX2_seekSync 36 = .ok (.ifCond .ne 18, 3) := by decide +kernel
theorem dX2_seekSync_39 : decode cX2_seekSync 39 = .ok (.aload_n 0, 1) := by decide +kernel
theorem dX2_seekSync_40 : decode cX2_seekSync 40 = .ok (.aload_n 0, 1) := by decide +kernel
theorem dX2_seekSync_41 : decode cX2_seekSync 41 = .ok (.getfield 29, 3) := by decide +kernel
theorem dX2_seekSync_44 : decode cX2_seekSync 44 = .ok (.putfield 60, 3) := by decide +kernel
theorem dX2_seekSync_47 : decode cX2_seekSync 47 = .ok (.aload_n 0, 1) := by decide +kernel
theorem dX2_seekSync_48 : decode cX2_seekSync 48 = .ok (.iload_n 2, 1) := by decide +kernel
theorem dX2_seekSync_49 : decode cX2_seekSync 49 = .ok (.putfield 63, 3) := by decide +kernel
theorem dX2_seekSync_52 : decode cX2_seekSync 52 = .ok (.iconst 0, 1) := by decide +kernel
theorem dX2_seekSync_53 : decode cX2_seekSync 53 = .ok (.ireturn, 1) := by decide +kernel
theorem dX2_seekSync_54 : decode cX2_seekSync 54 = .ok (.aload_n 0, 1) := by decide +kernel
theorem dX2_seekSync_55 : decode cX2_seekSync 55 = .ok (.iload_n 2, 1) := by decide +kernel
theorem dX2_seekSync_56 : decode cX2_seekSync 56 = .ok (.invokevirtual 108, 3) := by decide +kernel
theorem dX2_seekSync_59 : decode cX2_seekSync 59 = .ok (.iload_n 2, 1) := by decide +kernel
theorem dX2_seekSync_60 : decode cX2_seekSync 60 = .ok (.iconst 3, 1) := by decide +kernel
theorem dX2_seekSync_61 : decode cX2_seekSync 61 = .ok (.if_icmp .ne 7, 3) := by decide +kernel
theorem dX2_seekSync_64 : decode cX2_seekSync 64 = .ok (.iconst 1, 1) := by decide +kernel
theorem dX2_seekSync_65 : decode cX2_seekSync 65 = .ok (.goto 4, 3) := by decide +kernel
theorem dX2_seekSync_68 : decode cX2_seekSync 68 = .ok (.iconst 0, 1) := by decide +kernel
theorem dX2_seekSync_69 : decode cX2_seekSync 69 = .ok (.ireturn, 1) := by decide +kernel
theorem dX2_fitsLastHit_0 : decode cX2_fitsLastHit 0 = .ok (.aload_n 0, 1) := by decide +kernel
theorem dX2_fitsLastHit_1 : decode cX2_fitsLastHit 1 = .ok (.getfield 29, 3) := by decide +kernel
theorem dX2_fitsLastHit_4 : decode cX2_fitsLastHit 4 = .ok (.aload_n 0, 1) := by decide +kernel
theorem dX2_fitsLastHit_5 : decode cX2_fitsLastHit 5 = .ok (.getfield 60, 3) := by decide +kernel
theorem dX2_fitsLastHit_8 : decode cX2_fitsLastHit 8 = .ok (.isub, 1) := by decide +kernel
theorem dX2_fitsLastHit_9 : decode cX2_fitsLastHit 9 = .ok (.istore_n 2, 1) := by decide +kernel
theorem dX2_fitsLastHit_10 : decode cX2_fitsLastHit 10 = .ok (.aload_n 0, 1) := by decide +kernel
theorem dX2_fitsLastHit_11 : decode cX2_fitsLastHit 11 = .ok (.getfield 63, 3) := by decide +kernel
theorem dX2_fitsLastHit_14 : decode cX2_fitsLastHit 14 = .ok (.bipush (-9), 2) := by decide +kernel
theorem dX2_fitsLastHit_16 : decode cX2_fitsLastHit 16 = .ok (.if_icmp .eq 10, 3) := by decide +kernel
theorem dX2_fitsLastHit_19 : decode cX2_fitsLastHit 19 = .ok (.iload_n 2, 1) := by decide +kernel
theorem dX2_fitsLastHit_20 : decode cX2_fitsLastHit 20 = .ok (.bipush 14, 2) := by decide +kernel
theorem dX2_fitsLastHit_22 : decode cX2_fitsLastHit 22 = .ok (.irem, 1) := by decide +kernel
theorem dX2_fitsLastHit_23 : decode cX2_fitsLastHit 23 = .ok (.ifCond .eq 5, 3) := by decide +kernel
theorem dX2_fitsLastHit_26 : decode cX2_fitsLastHit 26 = .ok (.iconst 0, 1) := by decide +kernel
theorem dX2_fitsLastHit_27 : decode cX2_fitsLastHit 27 = .ok (.ireturn, 1) := by decide +kernel
theorem dX2_fitsLastHit_28 : decode cX2_fitsLastHit 28 = .ok (.iload_n 2, 1) := by decide +kernel
theorem dX2_fitsLastHit_29 : decode cX2_fitsLastHit 29 = .ok (.bipush 14, 2) := by decide +kernel
theorem dX2_fitsLastHit_31 : decode cX2_fitsLastHit 31 = .ok (.idiv, 1) := by decide +kernel
theorem dX2_fitsLastHit_32 : decode cX2_fitsLastHit 32 = .ok (.istore_n 3, 1) := by decide +kernel
theorem dX2_fitsLastHit_33 : decode cX2_fitsLastHit 33 = .ok (.iload_n 3, 1) := by decide +kernel
theorem dX2_fitsLastHit_34 : decode cX2_fitsLastHit 34 = .ok (.iconst 1, 1) := by decide +kernel
theorem dX2_fitsLastHit_35 : decode cX2_fitsLastHit 35 = .ok (.if_icmp .lt 24, 3) := by decide +kernel
theorem dX2_fitsLastHit_38 : decode cX2_fitsLastHit 38 = .ok (.iload_n 3, 1) := by decide +kernel
theorem dX2_fitsLastHit_39 : decode cX2_fitsLastHit 39 = .ok (.iconst 4, 1) := by decide +kernel
theorem dX2_fitsLastHit_40 : decode cX2_fitsLastHit 40 = .ok (.if_icmp .gt 19, 3) := by decide +kernel
theorem dX2_fitsLastHit_43 : decode cX2_fitsLastHit 43 = .ok (.aload_n 0, 1) := by decide +kernel
theorem dX2_fitsLastHit_44 : decode cX2_fitsLastHit 44 = .ok (.getfield 63, 3) := by decide +kernel
theorem dX2_fitsLastHit_47 : decode cX2_fitsLastHit 47 = .ok (.iload_n 3, 1) := by decide +kernel
theorem dX2_fitsLastHit_48 : decode cX2_fitsLastHit 48 = .ok (.iadd, 1) := by decide +kernel
theorem dX2_fitsLastHit_49 : decode cX2_fitsLastHit 49 = .ok (.iconst 3, 1) := by decide +kernel
theorem dX2_fitsLastHit_50 : decode cX2_fitsLastHit 50 = .ok (.iand, 1) := by decide +kernel
theorem dX2_fitsLastHit_51 : decode cX2_fitsLastHit 51 = .ok (.iload_n 1, 1) := by decide +kernel
theorem dX2_fitsLastHit_52 : decode cX2_fitsLastHit 52 = .ok (.if_icmp .ne 7, 3) := by decide +kernel
theorem dX2_fitsLastHit_55 : decode cX2_fitsLastHit 55 = .ok (.iconst 1, 1) := by decide +kernel
theorem dX2_fitsLastHit_56 : decode cX2_fitsLastHit 56 = .ok (.goto 4, 3) := by decide +kernel
theorem dX2_fitsLastHit_59 : decode cX2_fitsLastHit 59 = .ok (.iconst 0, 1) := by decide +kernel
theorem dX2_fitsLastHit_60 : decode cX2_fitsLastHit 60 = .ok (.ireturn, 1) := by decide +kernel
theorem dX2_findSync_0 : decode cX2_findSync 0 = .ok (.aload_n 0, 1) := by decide +kernel
theorem dX2_findSync_1 : decode cX2_findSync 1 = .ok (.iconst 1, 1) := by decide +kernel
theorem dX2_findSync_2 : decode cX2_findSync 2 = .ok (.putfield 35, 3) := by decide +kernel
theorem dX2_findSync_5 : decode cX2_findSync 5 = .ok (.aload_n 0, 1) := by decide +kernel
theorem dX2_findSync_6 : decode cX2_findSync 6 = .ok (.iload_n 1, 1) := by decide +kernel
theorem dX2_findSync_7 : decode cX2_findSync 7 = .ok (.invokestatic 112, 3) := by decide +kernel
theorem dX2_findSync_10 : decode cX2_findSync 10 = .ok (.putfield 39, 3) := by decide +kernel
theorem dX2_findSync_13 : decode cX2_findSync 13 = .ok (.aload_n 0, 1) := by decide +kernel
theorem dX2_findSync_14 : decode cX2_findSync 14 = .ok (.iconst 0, 1) := by decide +kernel
theorem dX2_findSync_15 : decode cX2_findSync 15 = .ok (.putfield 42, 3) := by decide +kernel
theorem dX2_findSync_18 : decode cX2_findSync 18 = .ok (.aload_n 0, 1) := by decide +kernel
theorem dX2_findSync_19 : decode cX2_findSync 19 = .ok (.iconst 0, 1) := by decide +kernel
theorem dX2_findSync_20 : decode cX2_findSync 20 = .ok (.putfield 45, 3) := by decide +kernel
theorem dX2_findSync_23 : decode cX2_findSync 23 = .ok (.aload_n 0, 1) := by decide +kernel
theorem dX2_findSync_24 : decode cX2_findSync 24 = .ok (.dup, 1) := by decide +kernel
theorem dX2_findSync_25 : decode cX2_findSync 25 = .ok (.getfield 48, 3) := by decide +kernel
theorem dX2_findSync_28 : decode cX2_findSync 28 = .ok (.iconst 1, 1) := by decide +kernel
theorem dX2_findSync_29 : decode cX2_findSync 29 = .ok (.iadd, 1) := by decide +kernel
theorem dX2_findSync_30 : decode cX2_findSync 30 = .ok (.putfield 48, 3) := by decide +kernel
theorem dX2_findSync_33 : decode cX2_findSync 33 = .ok (.aload_n 0, 1) := by decide +kernel
theorem dX2_findSync_34 : decode cX2_findSync 34 = .ok (.getfield 18, 3) := by decide +kernel
theorem dX2_findSync_37 : decode cX2_findSync 37 = .ok (.bipush (-9), 2) := by decide +kernel
theorem dX2_findSync_39 : decode cX2_findSync 39 = .ok (.invokestatic 66, 3) := by decide +kernel
theorem dX2_findSync_42 : decode cX2_findSync 42 = .ok (.aload_n 0, 1) := by decide +kernel
theorem dX2_findSync_43 : decode cX2_findSync 43 = .ok (.getfield 18, 3) := by decide +kernel
theorem dX2_findSync_46 : decode cX2_findSync 46 = .ok (.iload_n 1, 1) := by decide +kernel
theorem dX2_findSync_47 : decode cX2_findSync 47 = .ok (.aload_n 0, 1) := by decide +kernel
theorem dX2_findSync_48 : decode cX2_findSync 48 = .ok (.getfield 25, 3) := by decide +kernel
theorem dX2_findSync_51 : decode cX2_findSync 51 = .ok (.bipush 6, 2) := by decide +kernel
theorem dX2_findSync_53 : decode cX2_findSync 53 = .ok (.ishr, 1) := by decide +kernel
theorem dX2_findSync_54 : decode cX2_findSync 54 = .ok (.iastore, 1) := by decide +kernel
theorem dX2_findSync_55 : decode cX2_findSync 55 = .ok (.return_, 1) := by decide +kernel
theorem dX2_goOn_0 : decode cX2_goOn 0 = .ok (.aload_n 0, 1) := by decide +kernel
theorem dX2_goOn_1 : decode cX2_goOn 1 = .ok (.dup, 1) := by decide +kernel
theorem dX2_goOn_2 : decode cX2_goOn 2 = .ok (.getfield 42, 3) := by decide +kernel
theorem dX2_goOn_5 : decode cX2_goOn 5 = .ok (.iconst 1, 1) := by decide +kernel
theorem dX2_goOn_6 : decode cX2_goOn 6 = .ok (.iadd, 1) := by decide +kernel
theorem dX2_goOn_7 : decode cX2_goOn 7 = .ok (.putfield 42, 3) := by decide +kernel
theorem dX2_goOn_10 : decode cX2_goOn 10 = .ok (.aload_n 0, 1) := by decide +kernel
theorem dX2_goOn_11 : decode cX2_goOn 11 = .ok (.getfield 42, 3) := by decide +kernel
theorem dX2_goOn_14 : decode cX2_goOn 14 = .ok (.bipush 14, 2) := by decide +kernel
theorem dX2_goOn_16 : decode cX2_goOn 16 = .ok (.if_icmp .ge 5, 3) := by decide +kernel
theorem dX2_goOn_19 : decode cX2_goOn 19 = .ok (.iconst 0, 1) := by decide +kernel
theorem dX2_goOn_20 : decode cX2_goOn 20 = .ok (.ireturn, 1) := by decide +kernel
theorem dX2_goOn_21 : decode cX2_goOn 21 = .ok (.aload_n 0, 1) := by decide +kernel
theorem dX2_goOn_22 : decode cX2_goOn 22 = .ok (.iconst 0, 1) := by decide +kernel
theorem dX2_goOn_23 : decode cX2_goOn 23 = .ok (.putfield 42, 3) := by decide +kernel
theorem dX2_goOn_26 : decode cX2_goOn 26 = .ok (.aload_n 0, 1) := by decide +kernel
theorem dX2_goOn_27 : decode cX2_goOn 27 = .ok (.aload_n 1, 1) := by decide +kernel
theorem dX2_goOn_28 : decode cX2_goOn 28 = .ok (.invokevirtual 115, 3) := by decide +kernel
theorem dX2_goOn_31 : decode cX2_goOn 31 = .ok (.aload_n 0, 1) := by decide +kernel
theorem dX2_goOn_32 : decode cX2_goOn 32 = .ok (.getfield 45, 3) := by decide +kernel
theorem dX2_goOn_35 : decode cX2_goOn 35 = .ok (.aload_n 1, 1) := by decide +kernel
theorem dX2_goOn_36 : decode cX2_goOn 36 = .ok (.getfield 119, 3) := by decide +kernel
theorem dX2_goOn_39 : decode cX2_goOn 39 = .ok (.if_icmp .lt 9, 3) := by decide +kernel
theorem dX2_goOn_42 : decode cX2_goOn 42 = .ok (.aload_n 0, 1) := by decide +kernel
theorem dX2_goOn_43 : decode cX2_goOn 43 = .ok (.invokevirtual 122, 3) := by decide +kernel
theorem dX2_goOn_46 : decode cX2_goOn 46 = .ok (.iconst 0, 1) := by decide +kernel
theorem dX2_goOn_47 : decode cX2_goOn 47 = .ok (.ireturn, 1) := by decide +kernel
theorem dX2_goOn_48 : decode cX2_goOn 48 = .ok (.aload_n 0, 1) := by decide +kernel
theorem dX2_goOn_49 : decode cX2_goOn 49 = .ok (.aload_n 0, 1) := by decide +kernel
theorem dX2_goOn_50 : decode cX2_goOn 50 = .ok (.getfield 39, 3) := by decide +kernel
theorem dX2_goOn_53 : decode cX2_goOn 53 = .ok (.invokestatic 112, 3) := by decide +kernel
theorem dX2_goOn_56 : decode cX2_goOn 56 = .ok (.putfield 39, 3) := by decide +kernel
theorem dX2_goOn_59 : decode cX2_goOn 59 = .ok (.aload_n 0, 1) := by decide +kernel
theorem dX2_goOn_60 : decode cX2_goOn 60 = .ok (.getfield 39, 3) := by decide +kernel
theorem dX2_goOn_63 : decode cX2_goOn 63 = .ok (.ifCond .ne 7, 3) := by decide +kernel
theorem dX2_goOn_66 : decode cX2_goOn 66 = .ok (.iconst 1, 1) := by decide +kernel
theorem dX2_goOn_67 : decode cX2_goOn 67 = .ok (.goto 4, 3) := by decide +kernel
theorem dX2_goOn_70 : decode cX2_goOn 70 = .ok (.iconst 0, 1) := by decide +kernel
theorem dX2_goOn_71 : decode cX2_goOn 71 = .ok (.ireturn, 1) := by decide +kernel
theorem dX2_takeBlock_0 : decode cX2_takeBlock 0 = .ok (.aload_n 0, 1) := by decide +kernel
theorem dX2_takeBlock_1 : decode cX2_takeBlock 1 = .ok (.getfield 39, 3) := by decide +kernel
theorem dX2_takeBlock_4 : decode cX2_takeBlock 4 = .ok (.ifCond .ne 12, 3) := by decide +kernel
theorem dX2_takeBlock_7 : decode cX2_takeBlock 7 = .ok (.aload_n 0, 1) := by decide +kernel
theorem dX2_takeBlock_8 : decode cX2_takeBlock 8 = .ok (.getfield 18, 3) := by decide +kernel
theorem dX2_takeBlock_11 : decode cX2_takeBlock 11 = .ok (.bipush (-9), 2) := by decide +kernel
theorem dX2_takeBlock_13 : decode cX2_takeBlock 13 = .ok (.invokestatic 66, 3) := by decide +kernel
theorem dX2_takeBlock_16 : decode cX2_takeBlock 16 = .ok (.aload_n 1, 1) := by decide +kernel
theorem dX2_takeBlock_17 : decode cX2_takeBlock 17 = .ok (.aload_n 0, 1) := by decide +kernel
theorem dX2_takeBlock_18 : decode cX2_takeBlock 18 = .ok (.getfield 25, 3) := by decide +kernel
theorem dX2_takeBlock_21 : decode cX2_takeBlock 21 = .ok (.aload_n 1, 1) := by decide +kernel
theorem dX2_takeBlock_22 : decode cX2_takeBlock 22 = .ok (.aload_n 0, 1) := by decide +kernel
theorem dX2_takeBlock_23 : decode cX2_takeBlock 23 = .ok (.getfield 39, 3) := by decide +kernel
theorem dX2_takeBlock_26 : decode cX2_takeBlock 26 = .ok (.aload_n 0, 1) := by decide +kernel
theorem dX2_takeBlock_27 : decode cX2_takeBlock 27 = .ok (.getfield 25, 3) := by decide +kernel
theorem dX2_takeBlock_30 : decode cX2_takeBlock 30 = .ok (.invokevirtual 125, 3) := by decide +kernel
theorem dX2_takeBlock_33 : decode cX2_takeBlock 33 = .ok (.invokevirtual 129, 3) := by decide +kernel
theorem dX2_takeBlock_36 : decode cX2_takeBlock 36 = .ok (.istore_n 2, 1) := by decide +kernel
theorem dX2_takeBlock_37 : decode cX2_takeBlock 37 = .ok (.aload_n 0, 1) := by decide +kernel
theorem dX2_takeBlock_38 : decode cX2_takeBlock 38 = .ok (.getfield 18, 3) := by decide +kernel
theorem dX2_takeBlock_41 : decode cX2_takeBlock 41 = .ok (.aload_n 0, 1) := by decide +kernel
theorem dX2_takeBlock_42 : decode cX2_takeBlock 42 = .ok (.getfield 39, 3) := by decide +kernel
theorem dX2_takeBlock_45 : decode cX2_takeBlock 45 = .ok (.iload_n 2, 1) := by decide +kernel
theorem dX2_takeBlock_46 : decode cX2_takeBlock 46 = .ok (.bipush (-9), 2) := by decide +kernel
theorem dX2_takeBlock_48 : decode cX2_takeBlock 48 = .ok (.if_icmp .ne 8, 3) := by decide +kernel
theorem dX2_takeBlock_51 : decode cX2_takeBlock 51 = .ok (.bipush (-9), 2) := by decide +kernel
theorem dX2_takeBlock_53 : decode cX2_takeBlock 53 = .ok (.goto 7, 3) := by decide +kernel
theorem dX2_takeBlock_56 : decode cX2_takeBlock 56 = .ok (.iload_n 2, 1) := by decide +kernel
theorem dX2_takeBlock_57 : decode cX2_takeBlock 57 = .ok (.bipush 6, 2) := by decide +kernel
theorem dX2_takeBlock_59 : decode cX2_takeBlock 59 = .ok (.ishr, 1) := by decide +kernel
theorem dX2_takeBlock_60 : decode cX2_takeBlock 60 = .ok (.iastore, 1) := by decide +kernel
theorem dX2_takeBlock_61 : decode cX2_takeBlock 61 = .ok (.aload_n 0, 1) := by decide +kernel
theorem dX2_takeBlock_62 : decode cX2_takeBlock 62 = .ok (.iload_n 2, 1) := by decide +kernel
theorem dX2_takeBlock_63 : decode cX2_takeBlock 63 = .ok (.invokevirtual 132, 3) := by decide +kernel
theorem dX2_takeBlock_66 : decode cX2_takeBlock 66 = .ok (.return_, 1) := by decide +kernel
theorem dX2_countBlock_0 : decode cX2_countBlock 0 = .ok (.iload_n 1, 1) := by decide +kernel
theorem dX2_countBlock_1 : decode cX2_countBlock 1 = .ok (.bipush (-9), 2) := by decide +kernel
theorem dX2_countBlock_3 : decode cX2_countBlock 3 = .ok (.if_icmp .ne 26, 3) := by decide +kernel
theorem dX2_countBlock_6 : decode cX2_countBlock 6 = .ok (.aload_n 0, 1) := by decide +kernel
theorem dX2_countBlock_7 : decode cX2_countBlock 7 = .ok (.dup, 1) := by decide +kernel
theorem dX2_countBlock_8 : decode cX2_countBlock 8 = .ok (.getfield 54, 3) := by decide +kernel
theorem dX2_countBlock_11 : decode cX2_countBlock 11 = .ok (.iconst 1, 1) := by decide +kernel
theorem dX2_countBlock_12 : decode cX2_countBlock 12 = .ok (.iadd, 1) := by decide +kernel
theorem dX2_countBlock_13 : decode cX2_countBlock 13 = .ok (.putfield 54, 3) := by decide +kernel
theorem dX2_countBlock_16 : decode cX2_countBlock 16 = .ok (.aload_n 0, 1) := by decide +kernel
theorem dX2_countBlock_17 : decode cX2_countBlock 17 = .ok (.dup, 1) := by decide +kernel
theorem dX2_countBlock_18 : decode cX2_countBlock 18 = .ok (.getfield 45, 3) := by decide +kernel
theorem dX2_countBlock_21 : decode cX2_countBlock 21 = .ok (.iconst 1, 1) := by decide +kernel
theorem dX2_countBlock_22 : decode cX2_countBlock 22 = .ok (.iadd, 1) := by decide +kernel
theorem dX2_countBlock_23 : decode cX2_countBlock 23 = .ok (.putfield 45, 3) := by decide +kernel
theorem dX2_countBlock_26 : decode cX2_countBlock 26 = .ok (.goto 39, 3) := by decide +kernel
theorem dX2_countBlock_29 : decode cX2_countBlock 29 = .ok (.iload_n 1, 1) := by decide +kernel
theorem dX2_countBlock_30 : decode cX2_countBlock 30 = .ok (.aload_n 0, 1) := by decide +kernel
theorem dX2_countBlock_31 : decode cX2_countBlock 31 = .ok (.getfield 25, 3) := by decide +kernel
theorem dX2_countBlock_34 : decode cX2_countBlock 34 = .ok (.if_icmp .ne 21, 3) := by decide +kernel
theorem dX2_countBlock_37 : decode cX2_countBlock 37 = .ok (.aload_n 0, 1) := by decide +kernel
theorem dX2_countBlock_38 : decode cX2_countBlock 38 = .ok (.dup, 1) := by decide +kernel
theorem dX2_countBlock_39 : decode cX2_countBlock 39 = .ok (.getfield 48, 3) := by decide +kernel
theorem dX2_countBlock_42 : decode cX2_countBlock 42 = .ok (.iconst 1, 1) := by decide +kernel
theorem dX2_countBlock_43 : decode cX2_countBlock 43 = .ok (.iadd, 1) := by decide +kernel
theorem dX2_countBlock_44 : decode cX2_countBlock 44 = .ok (.putfield 48, 3) := by decide +kernel
theorem dX2_countBlock_47 : decode cX2_countBlock 47 = .ok (.aload_n 0, 1) := by decide +kernel
theorem dX2_countBlock_48 : decode cX2_countBlock 48 = .ok (.iconst 0, 1) := by decide +kernel
theorem dX2_countBlock_49 : decode cX2_countBlock 49 = .ok (.putfield 45, 3) := by decide +kernel
theorem dX2_countBlock_52 : decode cX2_countBlock 52 = .ok (.goto 13, 3) := by decide +kernel
theorem dX2_countBlock_55 : decode cX2_countBlock 55 = .ok (.aload_n 0, 1) := by decide +kernel
theorem dX2_countBlock_56 : decode cX2_countBlock 56 = .ok (.dup, 1) := by decide +kernel
theorem dX2_countBlock_57 : decode cX2_countBlock 57 = .ok (.getfield 51, 3) := by decide +kernel
theorem dX2_countBlock_60 : decode cX2_countBlock 60 = .ok (.iconst 1, 1) := by decide +kernel
theorem dX2_countBlock_61 : decode cX2_countBlock 61 = .ok (.iadd, 1) := by decide +kernel
theorem dX2_countBlock_62 : decode cX2_countBlock 62 = .ok (.putfield 51, 3) := by decide +kernel
theorem dX2_countBlock_65 : decode cX2_countBlock 65 = .ok (.return_, 1) := by decide +kernel
theorem dX2_lose_0 : decode cX2_lose 0 = .ok (.aload_n 0, 1) := by decide +kernel
theorem dX2_lose_1 : decode cX2_lose 1 = .ok (.iconst 0, 1) := by decide +kernel
theorem dX2_lose_2 : decode cX2_lose 2 = .ok (.putfield 35, 3) := by decide +kernel
theorem dX2_lose_5 : decode cX2_lose 5 = .ok (.aload_n 0, 1) := by decide +kernel
theorem dX2_lose_6 : decode cX2_lose 6 = .ok (.dup, 1) := by decide +kernel
theorem dX2_lose_7 : decode cX2_lose 7 = .ok (.getfield 57, 3) := by decide +kernel
theorem dX2_lose_10 : decode cX2_lose 10 = .ok (.iconst 1, 1) := by decide +kernel
theorem dX2_lose_11 : decode cX2_lose 11 = .ok (.iadd, 1) := by decide +kernel
theorem dX2_lose_12 : decode cX2_lose 12 = .ok (.putfield 57, 3) := by decide +kernel
theorem dX2_lose_15 : decode cX2_lose 15 = .ok (.aload_n 0, 1) := by decide +kernel
theorem dX2_lose_16 : decode cX2_lose 16 = .ok (.iconst 0, 1) := by decide +kernel
theorem dX2_lose_17 : decode cX2_lose 17 = .ok (.putfield 45, 3) := by decide +kernel
theorem dX2_lose_20 : decode cX2_lose 20 = .ok (.aload_n 0, 1) := by decide +kernel
theorem dX2_lose_21 : decode cX2_lose 21 = .ok (.bipush (-9), 2) := by decide +kernel
theorem dX2_lose_23 : decode cX2_lose 23 = .ok (.putfield 63, 3) := by decide +kernel
theorem dX2_lose_26 : decode cX2_lose 26 = .ok (.aload_n 0, 1) := by decide +kernel
theorem dX2_lose_27 : decode cX2_lose 27 = .ok (.iconst 0, 1) := by decide +kernel
theorem dX2_lose_28 : decode cX2_lose 28 = .ok (.putfield 32, 3) := by decide +kernel
theorem dX2_lose_31 : decode cX2_lose 31 = .ok (.aload_n 0, 1) := by decide +kernel
theorem dX2_lose_32 : decode cX2_lose 32 = .ok (.getfield 18, 3) := by decide +kernel
theorem dX2_lose_35 : decode cX2_lose 35 = .ok (.bipush (-9), 2) := by decide +kernel
theorem dX2_lose_37 : decode cX2_lose 37 = .ok (.invokestatic 66, 3) := by decide +kernel
theorem dX2_lose_40 : decode cX2_lose 40 = .ok (.return_, 1) := by decide +kernel
theorem dX2_startOver_0 : decode cX2_startOver 0 = .ok (.aload_n 0, 1) := by decide +kernel
theorem dX2_startOver_1 : decode cX2_startOver 1 = .ok (.getfield 35, 3) := by decide +kernel
theorem dX2_startOver_4 : decode cX2_startOver 4 = .ok (.ifCond .eq 7, 3) := by decide +kernel
theorem dX2_startOver_7 : decode cX2_startOver 7 = .ok (.aload_n 0, 1) := by decide +kernel
theorem dX2_startOver_8 : decode cX2_startOver 8 = .ok (.invokevirtual 122, 3) := by decide +kernel
theorem dX2_startOver_11 : decode cX2_startOver 11 = .ok (.aload_n 0, 1) := by decide +kernel
theorem dX2_startOver_12 : decode cX2_startOver 12 = .ok (.bipush (-9), 2) := by decide +kernel
theorem dX2_startOver_14 : decode cX2_startOver 14 = .ok (.putfield 63, 3) := by decide +kernel
theorem dX2_startOver_17 : decode cX2_startOver 17 = .ok (.aload_n 0, 1) := by decide +kernel
theorem dX2_startOver_18 : decode cX2_startOver 18 = .ok (.iconst 0, 1) := by decide +kernel
theorem dX2_startOver_19 : decode cX2_startOver 19 = .ok (.putfield 32, 3) := by decide +kernel
theorem dX2_startOver_22 : decode cX2_startOver 22 = .ok (.return_, 1) := by decide +kernel
