theorem dX6_init_0 : decode cX6_init 0 = .ok (.aload_n 0, 1) := by decide +kernel
theorem dX6_init_1 : decode cX6_init 1 = .ok (.invokespecial 1, 3) := by decide +kernel
theorem dX6_init_4 : decode cX6_init 4 = .ok (.aload_n 0, 1) := by decide +kernel
theorem dX6_init_5 : decode cX6_init 5 = .ok (.bipush 40, 2) := by decide +kernel
theorem dX6_init_7 : decode cX6_init 7 = .ok (.newarray .int, 2) := by decide +kernel
theorem dX6_init_9 : decode cX6_init 9 = .ok (.putfield 7, 3) := by decide +kernel
theorem dX6_init_12 : decode cX6_init 12 = .ok (.aload_n 0, 1) := by decide +kernel
theorem dX6_init_13 : decode cX6_init 13 = .ok (.iconst 4, 1) := by decide +kernel
theorem dX6_init_14 : decode cX6_init 14 = .ok (.newarray .int, 2) := by decide +kernel
theorem dX6_init_16 : decode cX6_init 16 = .ok (.putfield 13, 3) := by decide +kernel
theorem dX6_init_19 : decode cX6_init 19 = .ok (.aload_n 0, 1) := by decide +kernel
theorem dX6_init_20 : decode cX6_init 20 = .ok (.bipush 64, 2) := by decide +kernel
theorem dX6_init_22 : decode cX6_init 22 = .ok (.newarray .int, 2) := by decide +kernel
theorem dX6_init_24 : decode cX6_init 24 = .ok (.putfield 16, 3) := by decide +kernel
theorem dX6_init_27 : decode cX6_init 27 = .ok (.aload_n 0, 1) := by decide +kernel
theorem dX6_init_28 : decode cX6_init 28 = .ok (.bipush 64, 2) := by decide +kernel
theorem dX6_init_30 : decode cX6_init 30 = .ok (.newarray .int, 2) := by decide +kernel
theorem dX6_init_32 : decode cX6_init 32 = .ok (.putfield 19, 3) := by decide +kernel
theorem dX6_init_35 : decode cX6_init 35 = .ok (.aload_n 0, 1) := by decide +kernel
theorem dX6_init_36 : decode cX6_init 36 = .ok (.bipush 47, 2) := by decide +kernel
theorem dX6_init_38 : decode cX6_init 38 = .ok (.newarray .int, 2) := by decide +kernel
theorem dX6_init_40 : decode cX6_init 40 = .ok (.putfield 22, 3) := by decide +kernel
theorem dX6_init_43 : decode cX6_init 43 = .ok (.aload_n 0, 1) := by decide +kernel
theorem dX6_init_44 : decode cX6_init 44 = .ok (.bipush 47, 2) := by decide +kernel
theorem dX6_init_46 : decode cX6_init 46 = .ok (.newarray .int, 2) := by decide +kernel
theorem dX6_init_48 : decode cX6_init 48 = .ok (.putfield 25, 3) := by decide +kernel
theorem dX6_init_51 : decode cX6_init 51 = .ok (.aload_n 0, 1) := by decide +kernel
theorem dX6_init_52 : decode cX6_init 52 = .ok (.sipush 658, 3) := by decide +kernel
theorem dX6_init_55 : decode cX6_init 55 = .ok (.newarray .int, 2) := by decide +kernel
theorem dX6_init_57 : decode cX6_init 57 = .ok (.putfield 28, 3) := by decide +kernel
theorem dX6_init_60 : decode cX6_init 60 = .ok (.aload_n 0, 1) := by decide +kernel
theorem dX6_init_61 : decode cX6_init 61 = .ok (.bipush 94, 2) := by decide +kernel
theorem dX6_init_63 : decode cX6_init 63 = .ok (.newarray .int, 2) := by decide +kernel
theorem dX6_init_65 : decode cX6_init 65 = .ok (.putfield 31, 3) := by decide +kernel
theorem dX6_init_68 : decode cX6_init 68 = .ok (.aload_n 0, 1) := by decide +kernel
theorem dX6_init_69 : decode cX6_init 69 = .ok (.iconst 2, 1) := by decide +kernel
theorem dX6_init_70 : decode cX6_init 70 = .ok (.newarray .boolean, 2) := by decide +kernel
theorem dX6_init_72 : decode cX6_init 72 = .ok (.putfield 34, 3) := by decide +kernel
theorem dX6_init_75 : decode cX6_init 75 = .ok (.aload_n 0, 1) := by decide +kernel
theorem dX6_init_76 : decode cX6_init 76 = .ok (.iconst 4, 1) := by decide +kernel
theorem dX6_init_77 : decode cX6_init 77 = .ok (.newarray .int, 2) := by decide +kernel
theorem dX6_init_79 : decode cX6_init 79 = .ok (.putfield 38, 3) := by decide +kernel
theorem dX6_init_82 : decode cX6_init 82 = .ok (.aload_n 0, 1) := by decide +kernel
theorem dX6_init_83 : decode cX6_init 83 = .ok (.iconst 4, 1) := by decide +kernel
theorem dX6_init_84 : decode cX6_init 84 = .ok (.newarray .int, 2) := by decide +kernel
theorem dX6_init_86 : decode cX6_init 86 = .ok (.putfield 41, 3) := by decide +kernel
theorem dX6_init_89 : decode cX6_init 89 = .ok (.aload_n 0, 1) := by decide +kernel
theorem dX6_init_90 : decode cX6_init 90 = .ok (.iconst 4, 1) := by decide +kernel
theorem dX6_init_91 : decode cX6_init 91 = .ok (.newarray .int, 2) := by decide +kernel
theorem dX6_init_93 : decode cX6_init 93 = .ok (.putfield 44, 3) := by decide +kernel
theorem dX6_init_96 : decode cX6_init 96 = .ok (.aload_n 0, 1) := by decide +kernel
theorem dX6_init_97 : decode cX6_init 97 = .ok (.bipush 16, 2) := by decide +kernel
theorem dX6_init_99 : decode cX6_init 99 = .ok (.newarray .int, 2) := by decide +kernel
theorem dX6_init_101 : decode cX6_init 101 = .ok (.putfield 47, 3) := by decide +kernel
theorem dX6_init_104 : decode cX6_init 104 = .ok (.aload_n 0, 1) := by decide +kernel
theorem dX6_init_105 : decode cX6_init 105 = .ok (.iconst 4, 1) := by decide +kernel
theorem dX6_init_106 : decode cX6_init 106 = .ok (.newarray .int, 2) := by decide +kernel
theorem dX6_init_108 : decode cX6_init 108 = .ok (.putfield 50, 3) := by decide +kernel
theorem dX6_init_111 : decode cX6_init 111 = .ok (.aload_n 0, 1) := by decide +kernel
theorem dX6_init_112 : decode cX6_init 112 = .ok (.iconst 1, 1) := by decide +kernel
theorem dX6_init_113 : decode cX6_init 113 = .ok (.putfield 53, 3) := by decide +kernel
theorem dX6_init_116 : decode cX6_init 116 = .ok (.aload_n 0, 1) := by decide +kernel
theorem dX6_init_117 : decode cX6_init 117 = .ok (.iconst 1, 1) := by decide +kernel
theorem dX6_init_118 : decode cX6_init 118 = .ok (.putfield 57, 3) := by decide +kernel
theorem dX6_init_121 : decode cX6_init 121 = .ok (.iconst 0, 1) := by decide +kernel
theorem dX6_init_122 : decode cX6_init 122 = .ok (.istore_n 1, 1) := by decide +kernel
theorem dX6_init_123 : decode cX6_init 123 = .ok (.iload_n 1, 1) := by decide +kernel
theorem dX6_init_124 : decode cX6_init 124 = .ok (.iconst 4, 1) := by decide +kernel
theorem dX6_init_125 : decode cX6_init 125 = .ok (.if_icmp .ge 16, 3) := by decide +kernel
theorem dX6_init_128 : decode cX6_init 128 = .ok (.aload_n 0, 1) := by decide +kernel
theorem dX6_init_129 : decode cX6_init 129 = .ok (.getfield 13, 3) := by decide +kernel
theorem dX6_init_132 : decode cX6_init 132 = .ok (.iload_n 1, 1) := by decide +kernel
theorem dX6_init_133 : decode cX6_init 133 = .ok (.iload_n 1, 1) := by decide +kernel
theorem dX6_init_134 : decode cX6_init 134 = .ok (.iastore, 1) := by decide +kernel
theorem dX6_init_135 : decode cX6_init 135 = .ok (.iinc 1 1, 3) := by decide +kernel
theorem dX6_init_138 : decode cX6_init 138 = .ok (.goto (-15), 3) := by decide +kernel
theorem dX6_init_141 : decode cX6_init 141 = .ok (.aload_n 0, 1) := by decide +kernel
theorem dX6_init_142 : decode cX6_init 142 = .ok (.invokevirtual 60, 3) := by decide +kernel
theorem dX6_init_145 : decode cX6_init 145 = .ok (.aload_n 0, 1) := by decide +kernel
theorem dX6_init_146 : decode cX6_init 146 = .ok (.invokevirtual 63, 3) := by decide +kernel
theorem dX6_init_149 : decode cX6_init 149 = .ok (.return_, 1) := by decide +kernel
theorem dX6_fresh_0 : decode cX6_fresh 0 = .ok (.iconst 0, 1) := by decide +kernel
theorem dX6_fresh_1 : decode cX6_fresh 1 = .ok (.istore_n 1, 1) := by decide +kernel
theorem dX6_fresh_2 : decode cX6_fresh 2 = .ok (.iload_n 1, 1) := by decide +kernel
theorem dX6_fresh_3 : decode cX6_fresh 3 = .ok (.bipush 47, 2) := by decide +kernel
theorem dX6_fresh_5 : decode cX6_fresh 5 = .ok (.if_icmp .ge 45, 3) := by decide +kernel
theorem dX6_fresh_8 : decode cX6_fresh 8 = .ok (.aload_n 0, 1) := by decide +kernel
theorem dX6_fresh_9 : decode cX6_fresh 9 = .ok (.getfield 22, 3) := by decide +kernel
theorem dX6_fresh_12 : decode cX6_fresh 12 = .ok (.iload_n 1, 1) := by decide +kernel
theorem dX6_fresh_13 : decode cX6_fresh 13 = .ok (.iload_n 1, 1) := by decide +kernel
theorem dX6_fresh_14 : decode cX6_fresh 14 = .ok (.bipush 14, 2) := by decide +kernel
theorem dX6_fresh_16 : decode cX6_fresh 16 = .ok (.if_icmp .lt 9, 3) := by decide +kernel
theorem dX6_fresh_19 : decode cX6_fresh 19 = .ok (.iload_n 1, 1) := by decide +kernel
theorem dX6_fresh_20 : decode cX6_fresh 20 = .ok (.bipush 16, 2) := by decide +kernel
theorem dX6_fresh_22 : decode cX6_fresh 22 = .ok (.if_icmp .le 15, 3) := by decide +kernel
theorem dX6_fresh_25 : decode cX6_fresh 25 = .ok (.iload_n 1, 1) := by decide +kernel
theorem dX6_fresh_26 : decode cX6_fresh 26 = .ok (.bipush 18, 2) := by decide +kernel
theorem dX6_fresh_28 : decode cX6_fresh 28 = .ok (.if_icmp .lt 14, 3) := by decide +kernel
theorem dX6_fresh_31 : decode cX6_fresh 31 = .ok (.iload_n 1, 1) := by decide +kernel
theorem dX6_fresh_32 : decode cX6_fresh 32 = .ok (.bipush 30, 2) := by decide +kernel
theorem dX6_fresh_34 : decode cX6_fresh 34 = .ok (.if_icmp .ge 8, 3) := by decide +kernel
theorem dX6_fresh_37 : decode cX6_fresh 37 = .ok (.bipush (-9), 2) := by decide +kernel
theorem dX6_fresh_39 : decode cX6_fresh 39 = .ok (.goto 4, 3) := by decide +kernel
theorem dX6_fresh_42 : decode cX6_fresh 42 = .ok (.iconst 0, 1) := by decide +kernel
theorem dX6_fresh_43 : decode cX6_fresh 43 = .ok (.iastore, 1) := by decide +kernel
theorem dX6_fresh_44 : decode cX6_fresh 44 = .ok (.iinc 1 1, 3) := by decide +kernel
theorem dX6_fresh_47 : decode cX6_fresh 47 = .ok (.goto (-45), 3) := by decide +kernel
theorem dX6_fresh_50 : decode cX6_fresh 50 = .ok (.return_, 1) := by decide +kernel
theorem dX6_copy_0 : decode cX6_copy 0 = .ok (.iconst 0, 1) := by decide +kernel
theorem dX6_copy_1 : decode cX6_copy 1 = .ok (.istore_n 2, 1) := by decide +kernel
theorem dX6_copy_2 : decode cX6_copy 2 = .ok (.iload_n 2, 1) := by decide +kernel
theorem dX6_copy_3 : decode cX6_copy 3 = .ok (.bipush 47, 2) := by decide +kernel
theorem dX6_copy_5 : decode cX6_copy 5 = .ok (.if_icmp .ge 15, 3) := by decide +kernel
theorem dX6_copy_8 : decode cX6_copy 8 = .ok (.aload_n 1, 1) := by decide +kernel
theorem dX6_copy_9 : decode cX6_copy 9 = .ok (.iload_n 2, 1) := by decide +kernel
theorem dX6_copy_10 : decode cX6_copy 10 = .ok (.aload_n 0, 1) := by decide +kernel
theorem dX6_copy_11 : decode cX6_copy 11 = .ok (.iload_n 2, 1) := by decide +kernel
theorem dX6_copy_12 : decode cX6_copy 12 = .ok (.iaload, 1) := by decide +kernel
theorem dX6_copy_13 : decode cX6_copy 13 = .ok (.iastore, 1) := by decide +kernel
theorem dX6_copy_14 : decode cX6_copy 14 = .ok (.iinc 2 1, 3) := by decide +kernel
theorem dX6_copy_17 : decode cX6_copy 17 = .ok (.goto (-15), 3) := by decide +kernel
theorem dX6_copy_20 : decode cX6_copy 20 = .ok (.return_, 1) := by decide +kernel
theorem dX6_in_0 : decode cX6_in 0 = .ok (.lload_n 0, 1) := by decide +kernel
theorem dX6_in_1 : decode cX6_in 1 = .ok (.lload_n 2, 1) := by decide +kernel
theorem dX6_in_2 : decode cX6_in 2 = .ok (.lcmp, 1) := by decide +kernel
theorem dX6_in_3 : decode cX6_in 3 = .ok (.ifCond .lt 14, 3) := by decide +kernel
theorem dX6_in_6 : decode cX6_in 6 = .ok (.lload_n 0, 1) := by decide +kernel
theorem dX6_in_7 : decode cX6_in 7 = .ok (.lload 4, 2) := by decide +kernel
theorem dX6_in_9 : decode cX6_in 9 = .ok (.lcmp, 1) := by decide +kernel
theorem dX6_in_10 : decode cX6_in 10 = .ok (.ifCond .gt 7, 3) := by decide +kernel
theorem dX6_in_13 : decode cX6_in 13 = .ok (.iconst 1, 1) := by decide +kernel
theorem dX6_in_14 : decode cX6_in 14 = .ok (.goto 4, 3) := by decide +kernel
theorem dX6_in_17 : decode cX6_in 17 = .ok (.iconst 0, 1) := by decide +kernel
theorem dX6_in_18 : decode cX6_in 18 = .ok (.ireturn, 1) := by decide +kernel
theorem dX6_has_0 : decode cX6_has 0 = .ok (.iload_n 0, 1) := by decide +kernel
theorem dX6_has_1 : decode cX6_has 1 = .ok (.iload_n 1, 1) := by decide +kernel
theorem dX6_has_2 : decode cX6_has 2 = .ok (.ishr, 1) := by decide +kernel
theorem dX6_has_3 : decode cX6_has 3 = .ok (.iconst 1, 1) := by decide +kernel
theorem dX6_has_4 : decode cX6_has 4 = .ok (.iand, 1) := by decide +kernel
theorem dX6_has_5 : decode cX6_has 5 = .ok (.iconst 1, 1) := by decide +kernel
theorem dX6_has_6 : decode cX6_has 6 = .ok (.if_icmp .ne 7, 3) := by decide +kernel
theorem dX6_has_9 : decode cX6_has 9 = .ok (.iconst 1, 1) := by decide +kernel
theorem dX6_has_10 : decode cX6_has 10 = .ok (.goto 4, 3) := by decide +kernel
theorem dX6_has_13 : decode cX6_has 13 = .ok (.iconst 0, 1) := by decide +kernel
theorem dX6_has_14 : decode cX6_has 14 = .ok (.ireturn, 1) := by decide +kernel
theorem dX6_ones_0 : decode cX6_ones 0 = .ok (.iconst 0, 1) := by decide +kernel
theorem dX6_ones_1 : decode cX6_ones 1 = .ok (.istore_n 1, 1) := by decide +kernel
theorem dX6_ones_2 : decode cX6_ones 2 = .ok (.iconst 0, 1) := by decide +kernel
theorem dX6_ones_3 : decode cX6_ones 3 = .ok (.istore_n 2, 1) := by decide +kernel
theorem dX6_ones_4 : decode cX6_ones 4 = .ok (.iload_n 2, 1) := by decide +kernel
theorem dX6_ones_5 : decode cX6_ones 5 = .ok (.bipush 14, 2) := by decide +kernel
theorem dX6_ones_7 : decode cX6_ones 7 = .ok (.if_icmp .ge 17, 3) := by decide +kernel
theorem dX6_ones_10 : decode cX6_ones 10 = .ok (.iload_n 1, 1) := by decide +kernel
theorem dX6_ones_11 : decode cX6_ones 11 = .ok (.iload_n 0, 1) := by decide +kernel
theorem dX6_ones_12 : decode cX6_ones 12 = .ok (.iload_n 2, 1) := by decide +kernel
theorem dX6_ones_13 : decode cX6_ones 13 = .ok (.ishr, 1) := by decide +kernel
theorem dX6_ones_14 : decode cX6_ones 14 = .ok (.iconst 1, 1) := by decide +kernel
theorem dX6_ones_15 : decode cX6_ones 15 = .ok (.iand, 1) := by decide +kernel
theorem dX6_ones_16 : decode cX6_ones 16 = .ok (.iadd, 1) := by decide +kernel
theorem dX6_ones_17 : decode cX6_ones 17 = .ok (.istore_n 1, 1) := by decide +kernel
theorem dX6_ones_18 : decode cX6_ones 18 = .ok (.iinc 2 1, 3) := by decide +kernel
theorem dX6_ones_21 : decode cX6_ones 21 = .ok (.goto (-17), 3) := by decide +kernel
theorem dX6_ones_24 : decode cX6_ones 24 = .ok (.iload_n 1, 1) := by decide +kernel
theorem dX6_ones_25 : decode cX6_ones 25 = .ok (.ireturn, 1) := by decide +kernel
theorem dX6_power_0 : decode cX6_power 0 = .ok (.iconst 1, 1) := by decide +kernel
theorem dX6_power_1 : decode cX6_power 1 = .ok (.istore_n 2, 1) := by decide +kernel
theorem dX6_power_2 : decode cX6_power 2 = .ok (.iconst 0, 1) := by decide +kernel
theorem dX6_power_3 : decode cX6_power 3 = .ok (.istore_n 3, 1) := by decide +kernel
theorem dX6_power_4 : decode cX6_power 4 = .ok (.iload_n 3, 1) := by decide +kernel
theorem dX6_power_5 : decode cX6_power 5 = .ok (.iload_n 1, 1) := by decide +kernel
theorem dX6_power_6 : decode cX6_power 6 = .ok (.if_icmp .ge 13, 3) := by decide +kernel
theorem dX6_power_9 : decode cX6_power 9 = .ok (.iload_n 2, 1) := by decide +kernel
theorem dX6_power_10 : decode cX6_power 10 = .ok (.iload_n 0, 1) := by decide +kernel
theorem dX6_power_11 : decode cX6_power 11 = .ok (.imul, 1) := by decide +kernel
theorem dX6_power_12 : decode cX6_power 12 = .ok (.istore_n 2, 1) := by decide +kernel
theorem dX6_power_13 : decode cX6_power 13 = .ok (.iinc 3 1, 3) := by decide +kernel
theorem dX6_power_16 : decode cX6_power 16 = .ok (.goto (-12), 3) := by decide +kernel
theorem dX6_power_19 : decode cX6_power 19 = .ok (.iload_n 2, 1) := by decide +kernel
theorem dX6_power_20 : decode cX6_power 20 = .ok (.ireturn, 1) := by decide +kernel
theorem dX6_factorial_0 : decode cX6_factorial 0 = .ok (.iconst 1, 1) := by decide +kernel
theorem dX6_factorial_1 : decode cX6_factorial 1 = .ok (.istore_n 1, 1) := by decide +kernel
theorem dX6_factorial_2 : decode cX6_factorial 2 = .ok (.iconst 2, 1) := by decide +kernel
theorem dX6_factorial_3 : decode cX6_factorial 3 = .ok (.istore_n 2, 1) := by decide +kernel
theorem dX6_factorial_4 : decode cX6_factorial 4 = .ok (.iload_n 2, 1) := by decide +kernel
theorem dX6_factorial_5 : decode cX6_factorial 5 = .ok (.iload_n 0, 1) := by decide +kernel
theorem dX6_factorial_6 : decode cX6_factorial 6 = .ok (.if_icmp .gt 13, 3) := by decide +kernel
theorem dX6_factorial_9 : decode cX6_factorial 9 = .ok (.iload_n 1, 1) := by decide +kernel
theorem dX6_factorial_10 : decode cX6_factorial 10 = .ok (.iload_n 2, 1) := by decide +kernel
theorem dX6_factorial_11 : decode cX6_factorial 11 = .ok (.imul, 1) := by decide +kernel
theorem dX6_factorial_12 : decode cX6_factorial 12 = .ok (.istore_n 1, 1) := by decide +kernel
theorem dX6_factorial_13 : decode cX6_factorial 13 = .ok (.iinc 2 1, 3) := by decide +kernel
theorem dX6_factorial_16 : decode cX6_factorial 16 = .ok (.goto (-12), 3) := by decide +kernel
theorem dX6_factorial_19 : decode cX6_factorial 19 = .ok (.iload_n 1, 1) := by decide +kernel
theorem dX6_factorial_20 : decode cX6_factorial 20 = .ok (.ireturn, 1) := by decide +kernel
theorem dX6_fraction_0 : decode cX6_fraction 0 = .ok (.iload_n 0, 1) := by decide +kernel
theorem dX6_fraction_1 : decode cX6_fraction 1 = .ok (.ifCond .ge 8, 3) := by decide +kernel
theorem dX6_fraction_4 : decode cX6_fraction 4 = .ok (.iload_n 0, 1) := by decide +kernel
theorem dX6_fraction_5 : decode cX6_fraction 5 = .ok (.ineg, 1) := by decide +kernel
theorem dX6_fraction_6 : decode cX6_fraction 6 = .ok (.goto 4, 3) := by decide +kernel
theorem dX6_fraction_9 : decode cX6_fraction 9 = .ok (.iload_n 0, 1) := by decide +kernel
theorem dX6_fraction_10 : decode cX6_fraction 10 = .ok (.istore_n 3, 1) := by decide +kernel
theorem dX6_fraction_11 : decode cX6_fraction 11 = .ok (.iload_n 1, 1) := by decide +kernel
theorem dX6_fraction_12 : decode cX6_fraction 12 = .ok (.istore 4, 2) := by decide +kernel
theorem dX6_fraction_14 : decode cX6_fraction 14 = .ok (.iload 4, 2) := by decide +kernel
theorem dX6_fraction_16 : decode cX6_fraction 16 = .ok (.ifCond .eq 19, 3) := by decide +kernel
theorem dX6_fraction_19 : decode cX6_fraction 19 = .ok (.iload_n 3, 1) := by decide +kernel
theorem dX6_fraction_20 : decode cX6_fraction 20 = .ok (.iload 4, 2) := by decide +kernel
theorem dX6_fraction_22 : decode cX6_fraction 22 = .ok (.irem, 1) := by decide +kernel
theorem dX6_fraction_23 : decode cX6_fraction 23 = .ok (.istore 5, 2) := by decide +kernel
theorem dX6_fraction_25 : decode cX6_fraction 25 = .ok (.iload 4, 2) := by decide +kernel
theorem dX6_fraction_27 : decode cX6_fraction 27 = .ok (.istore_n 3, 1) := by decide +kernel
theorem dX6_fraction_28 : decode cX6_fraction 28 = .ok (.iload 5, 2) := by decide +kernel
theorem dX6_fraction_30 : decode cX6_fraction 30 = .ok (.istore 4, 2) := by decide +kernel
theorem dX6_fraction_32 : decode cX6_fraction 32 = .ok (.goto (-18), 3) := by decide +kernel
theorem dX6_fraction_35 : decode cX6_fraction 35 = .ok (.iload_n 2, 1) := by decide +kernel
theorem dX6_fraction_36 : decode cX6_fraction 36 = .ok (.ifCond .eq 9, 3) := by decide +kernel
theorem dX6_fraction_39 : decode cX6_fraction 39 = .ok (.iload_n 0, 1) := by decide +kernel
theorem dX6_fraction_40 : decode cX6_fraction 40 = .ok (.iload_n 3, 1) := by decide +kernel
theorem dX6_fraction_41 : decode cX6_fraction 41 = .ok (.idiv, 1) := by decide +kernel
theorem dX6_fraction_42 : decode cX6_fraction 42 = .ok (.goto 6, 3) := by decide +kernel
theorem dX6_fraction_45 : decode cX6_fraction 45 = .ok (.iload_n 1, 1) := by decide +kernel
theorem dX6_fraction_46 : decode cX6_fraction 46 = .ok (.iload_n 3, 1) := by decide +kernel
theorem dX6_fraction_47 : decode cX6_fraction 47 = .ok (.idiv, 1) := by decide +kernel
theorem dX6_fraction_48 : decode cX6_fraction 48 = .ok (.ireturn, 1) := by decide +kernel
theorem dX6_isOffset_0 : decode cX6_isOffset 0 = .ok (.iload_n 0, 1) := by decide +kernel
theorem dX6_isOffset_1 : decode cX6_isOffset 1 = .ok (.i2l, 1) := by decide +kernel
theorem dX6_isOffset_2 : decode cX6_isOffset 2 = .ok (.lconst 0, 1) := by decide +kernel
theorem dX6_isOffset_3 : decode cX6_isOffset 3 = .ok (.ldc2_w 66, 3) := by decide +kernel
theorem dX6_isOffset_6 : decode cX6_isOffset 6 = .ok (.invokestatic 68, 3) := by decide +kernel
theorem dX6_isOffset_9 : decode cX6_isOffset 9 = .ok (.ireturn, 1) := by decide +kernel
theorem dX6_left_0 : decode cX6_left 0 = .ok (.iload_n 1, 1) := by decide +kernel
theorem dX6_left_1 : decode cX6_left 1 = .ok (.istore_n 2, 1) := by decide +kernel
theorem dX6_left_2 : decode cX6_left 2 = .ok (.bipush 13, 2) := by decide +kernel
theorem dX6_left_4 : decode cX6_left 4 = .ok (.istore_n 3, 1) := by decide +kernel
theorem dX6_left_5 : decode cX6_left 5 = .ok (.iload_n 3, 1) := by decide +kernel
theorem dX6_left_6 : decode cX6_left 6 = .ok (.iconst 5, 1) := by decide +kernel
theorem dX6_left_7 : decode cX6_left 7 = .ok (.if_icmp .le 32, 3) := by decide +kernel
theorem dX6_left_10 : decode cX6_left 10 = .ok (.iload_n 2, 1) := by decide +kernel
theorem dX6_left_11 : decode cX6_left 11 = .ok (.iload_n 3, 1) := by decide +kernel
theorem dX6_left_12 : decode cX6_left 12 = .ok (.invokestatic 72, 3) := by decide +kernel
theorem dX6_left_15 : decode cX6_left 15 = .ok (.ifCond .eq 18, 3) := by decide +kernel
theorem dX6_left_18 : decode cX6_left 18 = .ok (.iload_n 2, 1) := by decide +kernel
theorem dX6_left_19 : decode cX6_left 19 = .ok (.bipush 64, 2) := by decide +kernel
theorem dX6_left_21 : decode cX6_left 21 = .ok (.aload_n 0, 1) := by decide +kernel
theorem dX6_left_22 : decode cX6_left 22 = .ok (.getfield 53, 3) := by decide +kernel
theorem dX6_left_25 : decode cX6_left 25 = .ok (.ior, 1) := by decide +kernel
theorem dX6_left_26 : decode cX6_left 26 = .ok (.iload_n 3, 1) := by decide +kernel
theorem dX6_left_27 : decode cX6_left 27 = .ok (.bipush 6, 2) := by decide +kernel
theorem dX6_left_29 : decode cX6_left 29 = .ok (.isub, 1) := by decide +kernel
theorem dX6_left_30 : decode cX6_left 30 = .ok (.ishl, 1) := by decide +kernel
theorem dX6_left_31 : decode cX6_left 31 = .ok (.ixor, 1) := by decide +kernel
theorem dX6_left_32 : decode cX6_left 32 = .ok (.istore_n 2, 1) := by decide +kernel
theorem dX6_left_33 : decode cX6_left 33 = .ok (.iinc 3 (-1), 3) := by decide +kernel
theorem dX6_left_36 : decode cX6_left 36 = .ok (.goto (-31), 3) := by decide +kernel
theorem dX6_left_39 : decode cX6_left 39 = .ok (.iload_n 2, 1) := by decide +kernel
theorem dX6_left_40 : decode cX6_left 40 = .ok (.ireturn, 1) := by decide +kernel
theorem dX6_spanOf_0 : decode cX6_spanOf 0 = .ok (.iconst 0, 1) := by decide +kernel
theorem dX6_spanOf_1 : decode cX6_spanOf 1 = .ok (.istore_n 1, 1) := by decide +kernel
theorem dX6_spanOf_2 : decode cX6_spanOf 2 = .ok (.iload_n 0, 1) := by decide +kernel
theorem dX6_spanOf_3 : decode cX6_spanOf 3 = .ok (.iload_n 1, 1) := by decide +kernel
theorem dX6_spanOf_4 : decode cX6_spanOf 4 = .ok (.invokestatic 72, 3) := by decide +kernel
theorem dX6_spanOf_7 : decode cX6_spanOf 7 = .ok (.ifCond .ne 9, 3) := by decide +kernel
theorem dX6_spanOf_10 : decode cX6_spanOf 10 = .ok (.iinc 1 1, 3) := by decide +kernel
theorem dX6_spanOf_13 : decode cX6_spanOf 13 = .ok (.goto (-11), 3) := by decide +kernel
theorem dX6_spanOf_16 : decode cX6_spanOf 16 = .ok (.bipush 13, 2) := by decide +kernel
theorem dX6_spanOf_18 : decode cX6_spanOf 18 = .ok (.istore_n 2, 1) := by decide +kernel
theorem dX6_spanOf_19 : decode cX6_spanOf 19 = .ok (.iload_n 0, 1) := by decide +kernel
theorem dX6_spanOf_20 : decode cX6_spanOf 20 = .ok (.iload_n 2, 1) := by decide +kernel
theorem dX6_spanOf_21 : decode cX6_spanOf 21 = .ok (.invokestatic 72, 3) := by decide +kernel
theorem dX6_spanOf_24 : decode cX6_spanOf 24 = .ok (.ifCond .ne 9, 3) := by decide +kernel
theorem dX6_spanOf_27 : decode cX6_spanOf 27 = .ok (.iinc 2 (-1), 3) := by decide +kernel
theorem dX6_spanOf_30 : decode cX6_spanOf 30 = .ok (.goto (-11), 3) := by decide +kernel
theorem dX6_spanOf_33 : decode cX6_spanOf 33 = .ok (.iload_n 2, 1) := by decide +kernel
theorem dX6_spanOf_34 : decode cX6_spanOf 34 = .ok (.iload_n 1, 1) := by decide +kernel
theorem dX6_spanOf_35 : decode cX6_spanOf 35 = .ok (.isub, 1) := by decide +kernel
theorem dX6_spanOf_36 : decode cX6_spanOf 36 = .ok (.ireturn, 1) := by decide +kernel
theorem dX6_layBursts_0 : decode cX6_layBursts 0 = .ok (.aload_n 0, 1) := by decide +kernel
theorem dX6_layBursts_1 : decode cX6_layBursts 1 = .ok (.iconst 0, 1) := by decide +kernel
theorem dX6_layBursts_2 : decode cX6_layBursts 2 = .ok (.putfield 76, 3) := by decide +kernel
theorem dX6_layBursts_5 : decode cX6_layBursts 5 = .ok (.aload_n 0, 1) := by decide +kernel
theorem dX6_layBursts_6 : decode cX6_layBursts 6 = .ok (.iconst 0, 1) := by decide +kernel
theorem dX6_layBursts_7 : decode cX6_layBursts 7 = .ok (.putfield 79, 3) := by decide +kernel
theorem dX6_layBursts_10 : decode cX6_layBursts 10 = .ok (.iconst 0, 1) := by decide +kernel
theorem dX6_layBursts_11 : decode cX6_layBursts 11 = .ok (.istore_n 1, 1) := by decide +kernel
theorem dX6_layBursts_12 : decode cX6_layBursts 12 = .ok (.iload_n 1, 1) := by decide +kernel
theorem dX6_layBursts_13 : decode cX6_layBursts 13 = .ok (.bipush 64, 2) := by decide +kernel
theorem dX6_layBursts_15 : decode cX6_layBursts 15 = .ok (.if_icmp .ge 16, 3) := by decide +kernel
theorem dX6_layBursts_18 : decode cX6_layBursts 18 = .ok (.aload_n 0, 1) := by decide +kernel
theorem dX6_layBursts_19 : decode cX6_layBursts 19 = .ok (.getfield 16, 3) := by decide +kernel
theorem dX6_layBursts_22 : decode cX6_layBursts 22 = .ok (.iload_n 1, 1) := by decide +kernel
theorem dX6_layBursts_23 : decode cX6_layBursts 23 = .ok (.iconst 0, 1) := by decide +kernel
theorem dX6_layBursts_24 : decode cX6_layBursts 24 = .ok (.iastore, 1) := by decide +kernel
theorem dX6_layBursts_25 : decode cX6_layBursts 25 = .ok (.iinc 1 1, 3) := by decide +kernel
theorem dX6_layBursts_28 : decode cX6_layBursts 28 = .ok (.goto (-16), 3) := by decide +kernel
theorem dX6_layBursts_31 : decode cX6_layBursts 31 = .ok (.iconst 1, 1) := by decide +kernel
theorem dX6_layBursts_32 : decode cX6_layBursts 32 = .ok (.istore_n 1, 1) := by decide +kernel
theorem dX6_layBursts_33 : decode cX6_layBursts 33 = .ok (.iload_n 1, 1) := by decide +kernel
theorem dX6_layBursts_34 : decode cX6_layBursts 34 = .ok (.sipush 16383, 3) := by decide +kernel
theorem dX6_layBursts_37 : decode cX6_layBursts 37 = .ok (.if_icmp .gt 60, 3) := by decide +kernel
theorem dX6_layBursts_40 : decode cX6_layBursts 40 = .ok (.aload_n 0, 1) := by decide +kernel
theorem dX6_layBursts_41 : decode cX6_layBursts 41 = .ok (.getfield 82, 3) := by decide +kernel
theorem dX6_layBursts_44 : decode cX6_layBursts 44 = .ok (.ifCond .le 53, 3) := by decide +kernel
theorem dX6_layBursts_47 : decode cX6_layBursts 47 = .ok (.iload_n 1, 1) := by decide +kernel
theorem dX6_layBursts_48 : decode cX6_layBursts 48 = .ok (.invokestatic 85, 3) := by decide +kernel
theorem dX6_layBursts_51 : decode cX6_layBursts 51 = .ok (.aload_n 0, 1) := by decide +kernel
theorem dX6_layBursts_52 : decode cX6_layBursts 52 = .ok (.getfield 82, 3) := by decide +kernel
theorem dX6_layBursts_55 : decode cX6_layBursts 55 = .ok (.if_icmp .ge 36, 3) := by decide +kernel
theorem dX6_layBursts_58 : decode cX6_layBursts 58 = .ok (.aload_n 0, 1) := by decide +kernel
theorem dX6_layBursts_59 : decode cX6_layBursts 59 = .ok (.iload_n 1, 1) := by decide +kernel
theorem dX6_layBursts_60 : decode cX6_layBursts 60 = .ok (.invokevirtual 89, 3) := by decide +kernel
theorem dX6_layBursts_63 : decode cX6_layBursts 63 = .ok (.istore_n 2, 1) := by decide +kernel
theorem dX6_layBursts_64 : decode cX6_layBursts 64 = .ok (.aload_n 0, 1) := by decide +kernel
theorem dX6_layBursts_65 : decode cX6_layBursts 65 = .ok (.getfield 16, 3) := by decide +kernel
theorem dX6_layBursts_68 : decode cX6_layBursts 68 = .ok (.iload_n 2, 1) := by decide +kernel
theorem dX6_layBursts_69 : decode cX6_layBursts 69 = .ok (.dup2, 1) := by decide +kernel
theorem dX6_layBursts_70 : decode cX6_layBursts 70 = .ok (.iaload, 1) := by decide +kernel
theorem dX6_layBursts_71 : decode cX6_layBursts 71 = .ok (.iconst 1, 1) := by decide +kernel
theorem dX6_layBursts_72 : decode cX6_layBursts 72 = .ok (.iadd, 1) := by decide +kernel
theorem dX6_layBursts_73 : decode cX6_layBursts 73 = .ok (.iastore, 1) := by decide +kernel
theorem dX6_layBursts_74 : decode cX6_layBursts 74 = .ok (.aload_n 0, 1) := by decide +kernel
theorem dX6_layBursts_75 : decode cX6_layBursts 75 = .ok (.getfield 19, 3) := by decide +kernel
theorem dX6_layBursts_78 : decode cX6_layBursts 78 = .ok (.iload_n 2, 1) := by decide +kernel
theorem dX6_layBursts_79 : decode cX6_layBursts 79 = .ok (.iload_n 1, 1) := by decide +kernel
theorem dX6_layBursts_80 : decode cX6_layBursts 80 = .ok (.iastore, 1) := by decide +kernel
theorem dX6_layBursts_81 : decode cX6_layBursts 81 = .ok (.aload_n 0, 1) := by decide +kernel
theorem dX6_layBursts_82 : decode cX6_layBursts 82 = .ok (.dup, 1) := by decide +kernel
theorem dX6_layBursts_83 : decode cX6_layBursts 83 = .ok (.getfield 76, 3) := by decide +kernel
theorem dX6_layBursts_86 : decode cX6_layBursts 86 = .ok (.iconst 1, 1) := by decide +kernel
theorem dX6_layBursts_87 : decode cX6_layBursts 87 = .ok (.iadd, 1) := by decide +kernel
theorem dX6_layBursts_88 : decode cX6_layBursts 88 = .ok (.putfield 76, 3) := by decide +kernel
theorem dX6_layBursts_91 : decode cX6_layBursts 91 = .ok (.iinc 1 1, 3) := by decide +kernel
theorem dX6_layBursts_94 : decode cX6_layBursts 94 = .ok (.goto (-61), 3) := by decide +kernel
theorem dX6_layBursts_97 : decode cX6_layBursts 97 = .ok (.iconst 1, 1) := by decide +kernel
theorem dX6_layBursts_98 : decode cX6_layBursts 98 = .ok (.istore_n 1, 1) := by decide +kernel
theorem dX6_layBursts_99 : decode cX6_layBursts 99 = .ok (.iload_n 1, 1) := by decide +kernel
theorem dX6_layBursts_100 : decode cX6_layBursts 100 = .ok (.bipush 64, 2) := by decide +kernel
theorem dX6_layBursts_102 : decode cX6_layBursts 102 = .ok (.if_icmp .ge 33, 3) := by decide +kernel
theorem dX6_layBursts_105 : decode cX6_layBursts 105 = .ok (.aload_n 0, 1) := by decide +kernel
theorem dX6_layBursts_106 : decode cX6_layBursts 106 = .ok (.dup, 1) := by decide +kernel
theorem dX6_layBursts_107 : decode cX6_layBursts 107 = .ok (.getfield 79, 3) := by decide +kernel
theorem dX6_layBursts_110 : decode cX6_layBursts 110 = .ok (.aload_n 0, 1) := by decide +kernel
theorem dX6_layBursts_111 : decode cX6_layBursts 111 = .ok (.getfield 16, 3) := by decide +kernel
theorem dX6_layBursts_114 : decode cX6_layBursts 114 = .ok (.iload_n 1, 1) := by decide +kernel
theorem dX6_layBursts_115 : decode cX6_layBursts 115 = .ok (.iaload, 1) := by decide +kernel
theorem dX6_layBursts_116 : decode cX6_layBursts 116 = .ok (.iconst 1, 1) := by decide +kernel
theorem dX6_layBursts_117 : decode cX6_layBursts 117 = .ok (.if_icmp .ne 7, 3) := by decide +kernel
theorem dX6_layBursts_120 : decode cX6_layBursts 120 = .ok (.iconst 1, 1) := by decide +kernel
theorem dX6_layBursts_121 : decode cX6_layBursts 121 = .ok (.goto 4, 3) := by decide +kernel
theorem dX6_layBursts_124 : decode cX6_layBursts 124 = .ok (.iconst 0, 1) := by decide +kernel
theorem dX6_layBursts_125 : decode cX6_layBursts 125 = .ok (.iadd, 1) := by decide +kernel
theorem dX6_layBursts_126 : decode cX6_layBursts 126 = .ok (.putfield 79, 3) := by decide +kernel
theorem dX6_layBursts_129 : decode cX6_layBursts 129 = .ok (.iinc 1 1, 3) := by decide +kernel
theorem dX6_layBursts_132 : decode cX6_layBursts 132 = .ok (.goto (-33), 3) := by decide +kernel
theorem dX6_layBursts_135 : decode cX6_layBursts 135 = .ok (.return_, 1) := by decide +kernel
theorem dX6_wordOf_0 : decode cX6_wordOf 0 = .ok (.bipush 64, 2) := by decide +kernel
theorem dX6_wordOf_2 : decode cX6_wordOf 2 = .ok (.iload_n 2, 1) := by decide +kernel
theorem dX6_wordOf_3 : decode cX6_wordOf 3 = .ok (.imul, 1) := by decide +kernel
theorem dX6_wordOf_4 : decode cX6_wordOf 4 = .ok (.aload_n 0, 1) := by decide +kernel
theorem dX6_wordOf_5 : decode cX6_wordOf 5 = .ok (.bipush 64, 2) := by decide +kernel
theorem dX6_wordOf_7 : decode cX6_wordOf 7 = .ok (.iload_n 2, 1) := by decide +kernel
theorem dX6_wordOf_8 : decode cX6_wordOf 8 = .ok (.imul, 1) := by decide +kernel
theorem dX6_wordOf_9 : decode cX6_wordOf 9 = .ok (.invokevirtual 89, 3) := by decide +kernel
theorem dX6_wordOf_12 : decode cX6_wordOf 12 = .ok (.aload_n 0, 1) := by decide +kernel
theorem dX6_wordOf_13 : decode cX6_wordOf 13 = .ok (.getfield 13, 3) := by decide +kernel
theorem dX6_wordOf_16 : decode cX6_wordOf 16 = .ok (.iload_n 1, 1) := by decide +kernel
theorem dX6_wordOf_17 : decode cX6_wordOf 17 = .ok (.iaload, 1) := by decide +kernel
theorem dX6_wordOf_18 : decode cX6_wordOf 18 = .ok (.ixor, 1) := by decide +kernel
theorem dX6_wordOf_19 : decode cX6_wordOf 19 = .ok (.iadd, 1) := by decide +kernel
theorem dX6_wordOf_20 : decode cX6_wordOf 20 = .ok (.ireturn, 1) := by decide +kernel
theorem dX6_restOf_0 : decode cX6_restOf 0 = .ok (.aload_n 0, 1) := by decide +kernel
theorem dX6_restOf_1 : decode cX6_restOf 1 = .ok (.iload_n 2, 1) := by decide +kernel
theorem dX6_restOf_2 : decode cX6_restOf 2 = .ok (.aload_n 0, 1) := by decide +kernel
theorem dX6_restOf_3 : decode cX6_restOf 3 = .ok (.getfield 13, 3) := by decide +kernel
theorem dX6_restOf_6 : decode cX6_restOf 6 = .ok (.iload_n 1, 1) := by decide +kernel
theorem dX6_restOf_7 : decode cX6_restOf 7 = .ok (.iaload, 1) := by decide +kernel
theorem dX6_restOf_8 : decode cX6_restOf 8 = .ok (.ixor, 1) := by decide +kernel
theorem dX6_restOf_9 : decode cX6_restOf 9 = .ok (.invokevirtual 89, 3) := by decide +kernel
theorem dX6_restOf_12 : decode cX6_restOf 12 = .ok (.ireturn, 1) := by decide +kernel
theorem dX6_sureOf_0 : decode cX6_sureOf 0 = .ok (.iload_n 1, 1) := by decide +kernel
theorem dX6_sureOf_1 : decode cX6_sureOf 1 = .ok (.ifCond .le 22, 3) := by decide +kernel
theorem dX6_sureOf_4 : decode cX6_sureOf 4 = .ok (.aload_n 0, 1) := by decide +kernel
theorem dX6_sureOf_5 : decode cX6_sureOf 5 = .ok (.getfield 16, 3) := by decide +kernel
theorem dX6_sureOf_8 : decode cX6_sureOf 8 = .ok (.iload_n 1, 1) := by decide +kernel
theorem dX6_sureOf_9 : decode cX6_sureOf 9 = .ok (.iaload, 1) := by decide +kernel
theorem dX6_sureOf_10 : decode cX6_sureOf 10 = .ok (.iconst 1, 1) := by decide +kernel
theorem dX6_sureOf_11 : decode cX6_sureOf 11 = .ok (.if_icmp .ne 12, 3) := by decide +kernel
theorem dX6_sureOf_14 : decode cX6_sureOf 14 = .ok (.aload_n 0, 1) := by decide +kernel
theorem dX6_sureOf_15 : decode cX6_sureOf 15 = .ok (.getfield 19, 3) := by decide +kernel
theorem dX6_sureOf_18 : decode cX6_sureOf 18 = .ok (.iload_n 1, 1) := by decide +kernel
theorem dX6_sureOf_19 : decode cX6_sureOf 19 = .ok (.iaload, 1) := by decide +kernel
theorem dX6_sureOf_20 : decode cX6_sureOf 20 = .ok (.goto 4, 3) := by decide +kernel
theorem dX6_sureOf_23 : decode cX6_sureOf 23 = .ok (.iconst 0, 1) := by decide +kernel
theorem dX6_sureOf_24 : decode cX6_sureOf 24 = .ok (.ireturn, 1) := by decide +kernel
theorem dX6_write_0 : decode cX6_write 0 = .ok (.iload_n 1, 1) := by decide +kernel
theorem dX6_write_1 : decode cX6_write 1 = .ok (.i2l, 1) := by decide +kernel
theorem dX6_write_2 : decode cX6_write 2 = .ok (.lconst 0, 1) := by decide +kernel
theorem dX6_write_3 : decode cX6_write 3 = .ok (.ldc2_w 92, 3) := by decide +kernel
theorem dX6_write_6 : decode cX6_write 6 = .ok (.invokestatic 68, 3) := by decide +kernel
theorem dX6_write_9 : decode cX6_write 9 = .ok (.ifCond .ne 6, 3) := by decide +kernel
theorem dX6_write_12 : decode cX6_write 12 = .ok (.bipush (-2), 2) := by decide +kernel
theorem dX6_write_14 : decode cX6_write 14 = .ok (.ireturn, 1) := by decide +kernel
theorem dX6_write_15 : decode cX6_write 15 = .ok (.aload_n 0, 1) := by decide +kernel
theorem dX6_write_16 : decode cX6_write 16 = .ok (.getfield 94, 3) := by decide +kernel
theorem dX6_write_19 : decode cX6_write 19 = .ok (.bipush 40, 2) := by decide +kernel
theorem dX6_write_21 : decode cX6_write 21 = .ok (.if_icmp .ne 6, 3) := by decide +kernel
theorem dX6_write_24 : decode cX6_write 24 = .ok (.bipush (-4), 2) := by decide +kernel
theorem dX6_write_26 : decode cX6_write 26 = .ok (.ireturn, 1) := by decide +kernel
theorem dX6_write_27 : decode cX6_write 27 = .ok (.aload_n 0, 1) := by decide +kernel
theorem dX6_write_28 : decode cX6_write 28 = .ok (.getfield 7, 3) := by decide +kernel
theorem dX6_write_31 : decode cX6_write 31 = .ok (.aload_n 0, 1) := by decide +kernel
theorem dX6_write_32 : decode cX6_write 32 = .ok (.getfield 94, 3) := by decide +kernel
theorem dX6_write_35 : decode cX6_write 35 = .ok (.iload_n 1, 1) := by decide +kernel
theorem dX6_write_36 : decode cX6_write 36 = .ok (.iastore, 1) := by decide +kernel
theorem dX6_write_37 : decode cX6_write 37 = .ok (.aload_n 0, 1) := by decide +kernel
theorem dX6_write_38 : decode cX6_write 38 = .ok (.dup, 1) := by decide +kernel
theorem dX6_write_39 : decode cX6_write 39 = .ok (.getfield 94, 3) := by decide +kernel
theorem dX6_write_42 : decode cX6_write 42 = .ok (.iconst 1, 1) := by decide +kernel
theorem dX6_write_43 : decode cX6_write 43 = .ok (.iadd, 1) := by decide +kernel
theorem dX6_write_44 : decode cX6_write 44 = .ok (.putfield 94, 3) := by decide +kernel
theorem dX6_write_47 : decode cX6_write 47 = .ok (.aload_n 0, 1) := by decide +kernel
theorem dX6_write_48 : decode cX6_write 48 = .ok (.getfield 94, 3) := by decide +kernel
theorem dX6_write_51 : decode cX6_write 51 = .ok (.ireturn, 1) := by decide +kernel
theorem dX6_wipe_0 : decode cX6_wipe 0 = .ok (.aload_n 0, 1) := by decide +kernel
theorem dX6_wipe_1 : decode cX6_wipe 1 = .ok (.getfield 94, 3) := by decide +kernel
theorem dX6_wipe_4 : decode cX6_wipe 4 = .ok (.istore_n 1, 1) := by decide +kernel
theorem dX6_wipe_5 : decode cX6_wipe 5 = .ok (.aload_n 0, 1) := by decide +kernel
theorem dX6_wipe_6 : decode cX6_wipe 6 = .ok (.iconst 0, 1) := by decide +kernel
theorem dX6_wipe_7 : decode cX6_wipe 7 = .ok (.putfield 94, 3) := by decide +kernel
theorem dX6_wipe_10 : decode cX6_wipe 10 = .ok (.iload_n 1, 1) := by decide +kernel
theorem dX6_wipe_11 : decode cX6_wipe 11 = .ok (.ireturn, 1) := by decide +kernel
theorem dX6_isNew_0 : decode cX6_isNew 0 = .ok (.iload_n 2, 1) := by decide +kernel
theorem dX6_isNew_1 : decode cX6_isNew 1 = .ok (.bipush 64, 2) := by decide +kernel
theorem dX6_isNew_3 : decode cX6_isNew 3 = .ok (.if_icmp .ge 7, 3) := by decide +kernel
theorem dX6_isNew_6 : decode cX6_isNew 6 = .ok (.iconst 1, 1) := by decide +kernel
theorem dX6_isNew_7 : decode cX6_isNew 7 = .ok (.goto 4, 3) := by decide +kernel
theorem dX6_isNew_10 : decode cX6_isNew 10 = .ok (.iconst 0, 1) := by decide +kernel
theorem dX6_isNew_11 : decode cX6_isNew 11 = .ok (.istore_n 3, 1) := by decide +kernel
theorem dX6_isNew_12 : decode cX6_isNew 12 = .ok (.iconst 0, 1) := by decide +kernel
theorem dX6_isNew_13 : decode cX6_isNew 13 = .ok (.istore 4, 2) := by decide +kernel
theorem dX6_isNew_15 : decode cX6_isNew 15 = .ok (.iload 4, 2) := by decide +kernel
theorem dX6_isNew_17 : decode cX6_isNew 17 = .ok (.iload_n 1, 1) := by decide +kernel
theorem dX6_isNew_18 : decode cX6_isNew 18 = .ok (.if_icmp .ge 30, 3) := by decide +kernel
theorem dX6_isNew_21 : decode cX6_isNew 21 = .ok (.iload_n 3, 1) := by decide +kernel
theorem dX6_isNew_22 : decode cX6_isNew 22 = .ok (.ifCond .eq 18, 3) := by decide +kernel
theorem dX6_isNew_25 : decode cX6_isNew 25 = .ok (.aload_n 0, 1) := by decide +kernel
theorem dX6_isNew_26 : decode cX6_isNew 26 = .ok (.getfield 50, 3) := by decide +kernel
theorem dX6_isNew_29 : decode cX6_isNew 29 = .ok (.iload 4, 2) := by decide +kernel
theorem dX6_isNew_31 : decode cX6_isNew 31 = .ok (.iaload, 1) := by decide +kernel
theorem dX6_isNew_32 : decode cX6_isNew 32 = .ok (.iload_n 2, 1) := by decide +kernel
theorem dX6_isNew_33 : decode cX6_isNew 33 = .ok (.if_icmp .eq 7, 3) := by decide +kernel
theorem dX6_isNew_36 : decode cX6_isNew 36 = .ok (.iconst 1, 1) := by decide +kernel
theorem dX6_isNew_37 : decode cX6_isNew 37 = .ok (.goto 4, 3) := by decide +kernel
theorem dX6_isNew_40 : decode cX6_isNew 40 = .ok (.iconst 0, 1) := by decide +kernel
theorem dX6_isNew_41 : decode cX6_isNew 41 = .ok (.istore_n 3, 1) := by decide +kernel
theorem dX6_isNew_42 : decode cX6_isNew 42 = .ok (.iinc 4 1, 3) := by decide +kernel
theorem dX6_isNew_45 : decode cX6_isNew 45 = .ok (.goto (-30), 3) := by decide +kernel
theorem dX6_isNew_48 : decode cX6_isNew 48 = .ok (.iload_n 3, 1) := by decide +kernel
theorem dX6_isNew_49 : decode cX6_isNew 49 = .ok (.ireturn, 1) := by decide +kernel
theorem dX6_take_0 : decode cX6_take 0 = .ok (.iload_n 2, 1) := by decide +kernel
theorem dX6_take_1 : decode cX6_take 1 = .ok (.bipush 48, 2) := by decide +kernel
theorem dX6_take_3 : decode cX6_take 3 = .ok (.isub, 1) := by decide +kernel
theorem dX6_take_4 : decode cX6_take 4 = .ok (.istore_n 3, 1) := by decide +kernel
theorem dX6_take_5 : decode cX6_take 5 = .ok (.iload_n 1, 1) := by decide +kernel
theorem dX6_take_6 : decode cX6_take 6 = .ok (.ifCond .ne 15, 3) := by decide +kernel
theorem dX6_take_9 : decode cX6_take 9 = .ok (.iload_n 2, 1) := by decide +kernel
theorem dX6_take_10 : decode cX6_take 10 = .ok (.bipush 83, 2) := by decide +kernel
theorem dX6_take_12 : decode cX6_take 12 = .ok (.if_icmp .ne 7, 3) := by decide +kernel
theorem dX6_take_15 : decode cX6_take 15 = .ok (.iconst 1, 1) := by decide +kernel
theorem dX6_take_16 : decode cX6_take 16 = .ok (.goto 4, 3) := by decide +kernel
theorem dX6_take_19 : decode cX6_take 19 = .ok (.iconst 0, 1) := by decide +kernel
theorem dX6_take_20 : decode cX6_take 20 = .ok (.ireturn, 1) := by decide +kernel
theorem dX6_take_21 : decode cX6_take 21 = .ok (.iload_n 3, 1) := by decide +kernel
theorem dX6_take_22 : decode cX6_take 22 = .ok (.i2l, 1) := by decide +kernel
theorem dX6_take_23 : decode cX6_take 23 = .ok (.lconst 0, 1) := by decide +kernel
theorem dX6_take_24 : decode cX6_take 24 = .ok (.ldc2_w 97, 3) := by decide +kernel
theorem dX6_take_27 : decode cX6_take 27 = .ok (.invokestatic 68, 3) := by decide +kernel
theorem dX6_take_30 : decode cX6_take 30 = .ok (.ifCond .ne 5, 3) := by decide +kernel
theorem dX6_take_33 : decode cX6_take 33 = .ok (.iconst 0, 1) := by decide +kernel
theorem dX6_take_34 : decode cX6_take 34 = .ok (.ireturn, 1) := by decide +kernel
theorem dX6_take_35 : decode cX6_take 35 = .ok (.iload_n 1, 1) := by decide +kernel
theorem dX6_take_36 : decode cX6_take 36 = .ok (.iconst 1, 1) := by decide +kernel
theorem dX6_take_37 : decode cX6_take 37 = .ok (.if_icmp .ne 20, 3) := by decide +kernel
theorem dX6_take_40 : decode cX6_take 40 = .ok (.aload_n 0, 1) := by decide +kernel
theorem dX6_take_41 : decode cX6_take 41 = .ok (.iload_n 3, 1) := by decide +kernel
theorem dX6_take_42 : decode cX6_take 42 = .ok (.putfield 99, 3) := by decide +kernel
theorem dX6_take_45 : decode cX6_take 45 = .ok (.iload_n 3, 1) := by decide +kernel
theorem dX6_take_46 : decode cX6_take 46 = .ok (.bipush 7, 2) := by decide +kernel
theorem dX6_take_48 : decode cX6_take 48 = .ok (.if_icmp .ge 7, 3) := by decide +kernel
theorem dX6_take_51 : decode cX6_take 51 = .ok (.iconst 1, 1) := by decide +kernel
theorem dX6_take_52 : decode cX6_take 52 = .ok (.goto 4, 3) := by decide +kernel
theorem dX6_take_55 : decode cX6_take 55 = .ok (.iconst 0, 1) := by decide +kernel
theorem dX6_take_56 : decode cX6_take 56 = .ok (.ireturn, 1) := by decide +kernel
theorem dX6_take_57 : decode cX6_take 57 = .ok (.iload_n 1, 1) := by decide +kernel
theorem dX6_take_58 : decode cX6_take 58 = .ok (.iconst 2, 1) := by decide +kernel
theorem dX6_take_59 : decode cX6_take 59 = .ok (.if_icmp .ne 38, 3) := by decide +kernel
theorem dX6_take_62 : decode cX6_take 62 = .ok (.aload_n 0, 1) := by decide +kernel
theorem dX6_take_63 : decode cX6_take 63 = .ok (.bipush 10, 2) := by decide +kernel
theorem dX6_take_65 : decode cX6_take 65 = .ok (.aload_n 0, 1) := by decide +kernel
theorem dX6_take_66 : decode cX6_take 66 = .ok (.getfield 99, 3) := by decide +kernel
theorem dX6_take_69 : decode cX6_take 69 = .ok (.imul, 1) := by decide +kernel
theorem dX6_take_70 : decode cX6_take 70 = .ok (.iload_n 3, 1) := by decide +kernel
theorem dX6_take_71 : decode cX6_take 71 = .ok (.iadd, 1) := by decide +kernel
theorem dX6_take_72 : decode cX6_take 72 = .ok (.putfield 99, 3) := by decide +kernel
theorem dX6_take_75 : decode cX6_take 75 = .ok (.iload_n 3, 1) := by decide +kernel
theorem dX6_take_76 : decode cX6_take 76 = .ok (.iconst 2, 1) := by decide +kernel
theorem dX6_take_77 : decode cX6_take 77 = .ok (.irem, 1) := by decide +kernel
theorem dX6_take_78 : decode cX6_take 78 = .ok (.iconst 1, 1) := by decide +kernel
theorem dX6_take_79 : decode cX6_take 79 = .ok (.if_icmp .ne 16, 3) := by decide +kernel
theorem dX6_take_82 : decode cX6_take 82 = .ok (.aload_n 0, 1) := by decide +kernel
theorem dX6_take_83 : decode cX6_take 83 = .ok (.getfield 99, 3) := by decide +kernel
theorem dX6_take_86 : decode cX6_take 86 = .ok (.bipush 64, 2) := by decide +kernel
theorem dX6_take_88 : decode cX6_take 88 = .ok (.if_icmp .ge 7, 3) := by decide +kernel
theorem dX6_take_91 : decode cX6_take 91 = .ok (.iconst 1, 1) := by decide +kernel
theorem dX6_take_92 : decode cX6_take 92 = .ok (.goto 4, 3) := by decide +kernel
theorem dX6_take_95 : decode cX6_take 95 = .ok (.iconst 0, 1) := by decide +kernel
theorem dX6_take_96 : decode cX6_take 96 = .ok (.ireturn, 1) := by decide +kernel
theorem dX6_take_97 : decode cX6_take 97 = .ok (.iload_n 1, 1) := by decide +kernel
theorem dX6_take_98 : decode cX6_take 98 = .ok (.bipush 11, 2) := by decide +kernel
theorem dX6_take_100 : decode cX6_take 100 = .ok (.if_icmp .ge 70, 3) := by decide +kernel
theorem dX6_take_103 : decode cX6_take 103 = .ok (.iload_n 1, 1) := by decide +kernel
theorem dX6_take_104 : decode cX6_take 104 = .ok (.iconst 3, 1) := by decide +kernel
theorem dX6_take_105 : decode cX6_take 105 = .ok (.isub, 1) := by decide +kernel
theorem dX6_take_106 : decode cX6_take 106 = .ok (.iconst 2, 1) := by decide +kernel
theorem dX6_take_107 : decode cX6_take 107 = .ok (.idiv, 1) := by decide +kernel
theorem dX6_take_108 : decode cX6_take 108 = .ok (.istore 4, 2) := by decide +kernel
theorem dX6_take_110 : decode cX6_take 110 = .ok (.iload_n 1, 1) := by decide +kernel
theorem dX6_take_111 : decode cX6_take 111 = .ok (.iconst 2, 1) := by decide +kernel
theorem dX6_take_112 : decode cX6_take 112 = .ok (.irem, 1) := by decide +kernel
theorem dX6_take_113 : decode cX6_take 113 = .ok (.iconst 1, 1) := by decide +kernel
theorem dX6_take_114 : decode cX6_take 114 = .ok (.if_icmp .ne 23, 3) := by decide +kernel
theorem dX6_take_117 : decode cX6_take 117 = .ok (.aload_n 0, 1) := by decide +kernel
theorem dX6_take_118 : decode cX6_take 118 = .ok (.getfield 50, 3) := by decide +kernel
theorem dX6_take_121 : decode cX6_take 121 = .ok (.iload 4, 2) := by decide +kernel
theorem dX6_take_123 : decode cX6_take 123 = .ok (.iload_n 3, 1) := by decide +kernel
theorem dX6_take_124 : decode cX6_take 124 = .ok (.iastore, 1) := by decide +kernel
theorem dX6_take_125 : decode cX6_take 125 = .ok (.iload_n 3, 1) := by decide +kernel
theorem dX6_take_126 : decode cX6_take 126 = .ok (.bipush 7, 2) := by decide +kernel
theorem dX6_take_128 : decode cX6_take 128 = .ok (.if_icmp .ge 7, 3) := by decide +kernel
theorem dX6_take_131 : decode cX6_take 131 = .ok (.iconst 1, 1) := by decide +kernel
theorem dX6_take_132 : decode cX6_take 132 = .ok (.goto 4, 3) := by decide +kernel
theorem dX6_take_135 : decode cX6_take 135 = .ok (.iconst 0, 1) := by decide +kernel
theorem dX6_take_136 : decode cX6_take 136 = .ok (.ireturn, 1) := by decide +kernel
theorem dX6_take_137 : decode cX6_take 137 = .ok (.aload_n 0, 1) := by decide +kernel
theorem dX6_take_138 : decode cX6_take 138 = .ok (.getfield 50, 3) := by decide +kernel
theorem dX6_take_141 : decode cX6_take 141 = .ok (.iload 4, 2) := by decide +kernel
theorem dX6_take_143 : decode cX6_take 143 = .ok (.bipush 10, 2) := by decide +kernel
theorem dX6_take_145 : decode cX6_take 145 = .ok (.aload_n 0, 1) := by decide +kernel
theorem dX6_take_146 : decode cX6_take 146 = .ok (.getfield 50, 3) := by decide +kernel
theorem dX6_take_149 : decode cX6_take 149 = .ok (.iload 4, 2) := by decide +kernel
theorem dX6_take_151 : decode cX6_take 151 = .ok (.iaload, 1) := by decide +kernel
theorem dX6_take_152 : decode cX6_take 152 = .ok (.imul, 1) := by decide +kernel
theorem dX6_take_153 : decode cX6_take 153 = .ok (.iload_n 3, 1) := by decide +kernel
theorem dX6_take_154 : decode cX6_take 154 = .ok (.iadd, 1) := by decide +kernel
theorem dX6_take_155 : decode cX6_take 155 = .ok (.iastore, 1) := by decide +kernel
theorem dX6_take_156 : decode cX6_take 156 = .ok (.aload_n 0, 1) := by decide +kernel
theorem dX6_take_157 : decode cX6_take 157 = .ok (.iload 4, 2) := by decide +kernel
theorem dX6_take_159 : decode cX6_take 159 = .ok (.aload_n 0, 1) := by decide +kernel
theorem dX6_take_160 : decode cX6_take 160 = .ok (.getfield 50, 3) := by decide +kernel
theorem dX6_take_163 : decode cX6_take 163 = .ok (.iload 4, 2) := by decide +kernel
theorem dX6_take_165 : decode cX6_take 165 = .ok (.iaload, 1) := by decide +kernel
theorem dX6_take_166 : decode cX6_take 166 = .ok (.invokevirtual 102, 3) := by decide +kernel
theorem dX6_take_169 : decode cX6_take 169 = .ok (.ireturn, 1) := by decide +kernel
theorem dX6_take_170 : decode cX6_take 170 = .ok (.iload_n 1, 1) := by decide +kernel
theorem dX6_take_171 : decode cX6_take 171 = .ok (.bipush 11, 2) := by decide +kernel
theorem dX6_take_173 : decode cX6_take 173 = .ok (.if_icmp .ne 19, 3) := by decide +kernel
theorem dX6_take_176 : decode cX6_take 176 = .ok (.aload_n 0, 1) := by decide +kernel
theorem dX6_take_177 : decode cX6_take 177 = .ok (.iload_n 3, 1) := by decide +kernel
theorem dX6_take_178 : decode cX6_take 178 = .ok (.putfield 105, 3) := by decide +kernel
theorem dX6_take_181 : decode cX6_take 181 = .ok (.iload_n 3, 1) := by decide +kernel
theorem dX6_take_182 : decode cX6_take 182 = .ok (.iconst 4, 1) := by decide +kernel
theorem dX6_take_183 : decode cX6_take 183 = .ok (.if_icmp .ge 7, 3) := by decide +kernel
theorem dX6_take_186 : decode cX6_take 186 = .ok (.iconst 1, 1) := by decide +kernel
theorem dX6_take_187 : decode cX6_take 187 = .ok (.goto 4, 3) := by decide +kernel
theorem dX6_take_190 : decode cX6_take 190 = .ok (.iconst 0, 1) := by decide +kernel
theorem dX6_take_191 : decode cX6_take 191 = .ok (.ireturn, 1) := by decide +kernel
theorem dX6_take_192 : decode cX6_take 192 = .ok (.aload_n 0, 1) := by decide +kernel
theorem dX6_take_193 : decode cX6_take 193 = .ok (.iload_n 3, 1) := by decide +kernel
theorem dX6_take_194 : decode cX6_take 194 = .ok (.putfield 108, 3) := by decide +kernel
theorem dX6_take_197 : decode cX6_take 197 = .ok (.iload_n 3, 1) := by decide +kernel
theorem dX6_take_198 : decode cX6_take 198 = .ok (.ifCond .le 7, 3) := by decide +kernel
theorem dX6_take_201 : decode cX6_take 201 = .ok (.iconst 1, 1) := by decide +kernel
theorem dX6_take_202 : decode cX6_take 202 = .ok (.goto 4, 3) := by decide +kernel
theorem dX6_take_205 : decode cX6_take 205 = .ok (.iconst 0, 1) := by decide +kernel
theorem dX6_take_206 : decode cX6_take 206 = .ok (.ireturn, 1) := by decide +kernel
theorem dX6_readText_0 : decode cX6_readText 0 = .ok (.iconst 0, 1) := by decide +kernel
theorem dX6_readText_1 : decode cX6_readText 1 = .ok (.istore_n 1, 1) := by decide +kernel
theorem dX6_readText_2 : decode cX6_readText 2 = .ok (.iload_n 1, 1) := by decide +kernel
theorem dX6_readText_3 : decode cX6_readText 3 = .ok (.aload_n 0, 1) := by decide +kernel
theorem dX6_readText_4 : decode cX6_readText 4 = .ok (.getfield 94, 3) := by decide +kernel
theorem dX6_readText_7 : decode cX6_readText 7 = .ok (.if_icmp .ge 31, 3) := by decide +kernel
theorem dX6_readText_10 : decode cX6_readText 10 = .ok (.iload_n 1, 1) := by decide +kernel
theorem dX6_readText_11 : decode cX6_readText 11 = .ok (.bipush 13, 2) := by decide +kernel
theorem dX6_readText_13 : decode cX6_readText 13 = .ok (.if_icmp .ge 25, 3) := by decide +kernel
theorem dX6_readText_16 : decode cX6_readText 16 = .ok (.aload_n 0, 1) := by decide +kernel
theorem dX6_readText_17 : decode cX6_readText 17 = .ok (.iload_n 1, 1) := by decide +kernel
theorem dX6_readText_18 : decode cX6_readText 18 = .ok (.aload_n 0, 1) := by decide +kernel
theorem dX6_readText_19 : decode cX6_readText 19 = .ok (.getfield 7, 3) := by decide +kernel
theorem dX6_readText_22 : decode cX6_readText 22 = .ok (.iload_n 1, 1) := by decide +kernel
theorem dX6_readText_23 : decode cX6_readText 23 = .ok (.iaload, 1) := by decide +kernel
theorem dX6_readText_24 : decode cX6_readText 24 = .ok (.invokevirtual 111, 3) := by decide +kernel
theorem dX6_readText_27 : decode cX6_readText 27 = .ok (.ifCond .ne 5, 3) := by decide +kernel
theorem dX6_readText_30 : decode cX6_readText 30 = .ok (.iload_n 1, 1) := by decide +kernel
theorem dX6_readText_31 : decode cX6_readText 31 = .ok (.ireturn, 1) := by decide +kernel
theorem dX6_readText_32 : decode cX6_readText 32 = .ok (.iinc 1 1, 3) := by decide +kernel
theorem dX6_readText_35 : decode cX6_readText 35 = .ok (.goto (-33), 3) := by decide +kernel
theorem dX6_readText_38 : decode cX6_readText 38 = .ok (.aload_n 0, 1) := by decide +kernel
theorem dX6_readText_39 : decode cX6_readText 39 = .ok (.getfield 94, 3) := by decide +kernel
theorem dX6_readText_42 : decode cX6_readText 42 = .ok (.bipush 13, 2) := by decide +kernel
theorem dX6_readText_44 : decode cX6_readText 44 = .ok (.if_icmp .ne 8, 3) := by decide +kernel
theorem dX6_readText_47 : decode cX6_readText 47 = .ok (.bipush (-9), 2) := by decide +kernel
theorem dX6_readText_49 : decode cX6_readText 49 = .ok (.goto 21, 3) := by decide +kernel
theorem dX6_readText_52 : decode cX6_readText 52 = .ok (.aload_n 0, 1) := by decide +kernel
theorem dX6_readText_53 : decode cX6_readText 53 = .ok (.getfield 94, 3) := by decide +kernel
theorem dX6_readText_56 : decode cX6_readText 56 = .ok (.bipush 13, 2) := by decide +kernel
theorem dX6_readText_58 : decode cX6_readText 58 = .ok (.if_icmp .ge 10, 3) := by decide +kernel
theorem dX6_readText_61 : decode cX6_readText 61 = .ok (.aload_n 0, 1) := by decide +kernel
theorem dX6_readText_62 : decode cX6_readText 62 = .ok (.getfield 94, 3) := by decide +kernel
theorem dX6_readText_65 : decode cX6_readText 65 = .ok (.goto 5, 3) := by decide +kernel
theorem dX6_readText_68 : decode cX6_readText 68 = .ok (.bipush 13, 2) := by decide +kernel
theorem dX6_readText_70 : decode cX6_readText 70 = .ok (.ireturn, 1) := by decide +kernel
theorem dX6_fault_0 : decode cX6_fault 0 = .ok (.aload_n 0, 1) := by decide +kernel
theorem dX6_fault_1 : decode cX6_fault 1 = .ok (.invokevirtual 114, 3) := by decide +kernel
theorem dX6_fault_4 : decode cX6_fault 4 = .ok (.ireturn, 1) := by decide +kernel
theorem dX6_station_0 : decode cX6_station 0 = .ok (.aload_n 0, 1) := by decide +kernel
theorem dX6_station_1 : decode cX6_station 1 = .ok (.invokevirtual 114, 3) := by decide +kernel
theorem dX6_station_4 : decode cX6_station 4 = .ok (.bipush (-9), 2) := by decide +kernel
theorem dX6_station_6 : decode cX6_station 6 = .ok (.if_icmp .eq 6, 3) := by decide +kernel
theorem dX6_station_9 : decode cX6_station 9 = .ok (.bipush (-3), 2) := by decide +kernel
theorem dX6_station_11 : decode cX6_station 11 = .ok (.ireturn, 1) := by decide +kernel
theorem dX6_station_12 : decode cX6_station 12 = .ok (.aload_n 0, 1) := by decide +kernel
theorem dX6_station_13 : decode cX6_station 13 = .ok (.aload_n 0, 1) := by decide +kernel
theorem dX6_station_14 : decode cX6_station 14 = .ok (.getfield 99, 3) := by decide +kernel
theorem dX6_station_17 : decode cX6_station 17 = .ok (.putfield 53, 3) := by decide +kernel
theorem dX6_station_20 : decode cX6_station 20 = .ok (.iconst 0, 1) := by decide +kernel
theorem dX6_station_21 : decode cX6_station 21 = .ok (.istore_n 1, 1) := by decide +kernel
theorem dX6_station_22 : decode cX6_station 22 = .ok (.iload_n 1, 1) := by decide +kernel
theorem dX6_station_23 : decode cX6_station 23 = .ok (.iconst 4, 1) := by decide +kernel
theorem dX6_station_24 : decode cX6_station 24 = .ok (.if_icmp .ge 21, 3) := by decide +kernel
theorem dX6_station_27 : decode cX6_station 27 = .ok (.aload_n 0, 1) := by decide +kernel
theorem dX6_station_28 : decode cX6_station 28 = .ok (.getfield 13, 3) := by decide +kernel
theorem dX6_station_31 : decode cX6_station 31 = .ok (.iload_n 1, 1) := by decide +kernel
theorem dX6_station_32 : decode cX6_station 32 = .ok (.aload_n 0, 1) := by decide +kernel
theorem dX6_station_33 : decode cX6_station 33 = .ok (.getfield 50, 3) := by decide +kernel
theorem dX6_station_36 : decode cX6_station 36 = .ok (.iload_n 1, 1) := by decide +kernel
theorem dX6_station_37 : decode cX6_station 37 = .ok (.iaload, 1) := by decide +kernel
theorem dX6_station_38 : decode cX6_station 38 = .ok (.iastore, 1) := by decide +kernel
theorem dX6_station_39 : decode cX6_station 39 = .ok (.iinc 1 1, 3) := by decide +kernel
theorem dX6_station_42 : decode cX6_station 42 = .ok (.goto (-20), 3) := by decide +kernel
theorem dX6_station_45 : decode cX6_station 45 = .ok (.aload_n 0, 1) := by decide +kernel
theorem dX6_station_46 : decode cX6_station 46 = .ok (.aload_n 0, 1) := by decide +kernel
theorem dX6_station_47 : decode cX6_station 47 = .ok (.getfield 105, 3) := by decide +kernel
theorem dX6_station_50 : decode cX6_station 50 = .ok (.putfield 82, 3) := by decide +kernel
theorem dX6_station_53 : decode cX6_station 53 = .ok (.aload_n 0, 1) := by decide +kernel
theorem dX6_station_54 : decode cX6_station 54 = .ok (.aload_n 0, 1) := by decide +kernel
theorem dX6_station_55 : decode cX6_station 55 = .ok (.getfield 108, 3) := by decide +kernel
theorem dX6_station_58 : decode cX6_station 58 = .ok (.putfield 57, 3) := by decide +kernel
theorem dX6_station_61 : decode cX6_station 61 = .ok (.aload_n 0, 1) := by decide +kernel
theorem dX6_station_62 : decode cX6_station 62 = .ok (.invokevirtual 60, 3) := by decide +kernel
theorem dX6_station_65 : decode cX6_station 65 = .ok (.aload_n 0, 1) := by decide +kernel
theorem dX6_station_66 : decode cX6_station 66 = .ok (.invokevirtual 63, 3) := by decide +kernel
theorem dX6_station_69 : decode cX6_station 69 = .ok (.aload_n 0, 1) := by decide +kernel
theorem dX6_station_70 : decode cX6_station 70 = .ok (.iconst 0, 1) := by decide +kernel
theorem dX6_station_71 : decode cX6_station 71 = .ok (.putfield 118, 3) := by decide +kernel
theorem dX6_station_74 : decode cX6_station 74 = .ok (.aload_n 0, 1) := by decide +kernel
theorem dX6_station_75 : decode cX6_station 75 = .ok (.getfield 34, 3) := by decide +kernel
theorem dX6_station_78 : decode cX6_station 78 = .ok (.iconst 0, 1) := by decide +kernel
theorem dX6_station_79 : decode cX6_station 79 = .ok (.iconst 0, 1) := by decide +kernel
theorem dX6_station_80 : decode cX6_station 80 = .ok (.bastore, 1) := by decide +kernel
theorem dX6_station_81 : decode cX6_station 81 = .ok (.aload_n 0, 1) := by decide +kernel
theorem dX6_station_82 : decode cX6_station 82 = .ok (.getfield 34, 3) := by decide +kernel
theorem dX6_station_85 : decode cX6_station 85 = .ok (.iconst 1, 1) := by decide +kernel
theorem dX6_station_86 : decode cX6_station 86 = .ok (.iconst 0, 1) := by decide +kernel
theorem dX6_station_87 : decode cX6_station 87 = .ok (.bastore, 1) := by decide +kernel
theorem dX6_station_88 : decode cX6_station 88 = .ok (.aload_n 0, 1) := by decide +kernel
theorem dX6_station_89 : decode cX6_station 89 = .ok (.getfield 53, 3) := by decide +kernel
theorem dX6_station_92 : decode cX6_station 92 = .ok (.ireturn, 1) := by decide +kernel
theorem dX6_noParts_0 : decode cX6_noParts 0 = .ok (.iconst 0, 1) := by decide +kernel
theorem dX6_noParts_1 : decode cX6_noParts 1 = .ok (.istore_n 1, 1) := by decide +kernel
theorem dX6_noParts_2 : decode cX6_noParts 2 = .ok (.iload_n 1, 1) := by decide +kernel
theorem dX6_noParts_3 : decode cX6_noParts 3 = .ok (.iconst 4, 1) := by decide +kernel
theorem dX6_noParts_4 : decode cX6_noParts 4 = .ok (.if_icmp .ge 17, 3) := by decide +kernel
theorem dX6_noParts_7 : decode cX6_noParts 7 = .ok (.aload_n 0, 1) := by decide +kernel
theorem dX6_noParts_8 : decode cX6_noParts 8 = .ok (.bipush 18, 2) := by decide +kernel
theorem dX6_noParts_10 : decode cX6_noParts 10 = .ok (.iload_n 1, 1) := by decide +kernel
theorem dX6_noParts_11 : decode cX6_noParts 11 = .ok (.iadd, 1) := by decide +kernel
theorem dX6_noParts_12 : decode cX6_noParts 12 = .ok (.bipush (-9), 2) := by decide +kernel
theorem dX6_noParts_14 : decode cX6_noParts 14 = .ok (.iastore, 1) := by decide +kernel
theorem dX6_noParts_15 : decode cX6_noParts 15 = .ok (.iinc 1 1, 3) := by decide +kernel
theorem dX6_noParts_18 : decode cX6_noParts 18 = .ok (.goto (-16), 3) := by decide +kernel
theorem dX6_noParts_21 : decode cX6_noParts 21 = .ok (.return_, 1) := by decide +kernel
theorem dX6_quiet_0 : decode cX6_quiet 0 = .ok (.aload_n 0, 1) := by decide +kernel
theorem dX6_quiet_1 : decode cX6_quiet 1 = .ok (.bipush 7, 2) := by decide +kernel
theorem dX6_quiet_3 : decode cX6_quiet 3 = .ok (.iconst 0, 1) := by decide +kernel
theorem dX6_quiet_4 : decode cX6_quiet 4 = .ok (.iastore, 1) := by decide +kernel
theorem dX6_quiet_5 : decode cX6_quiet 5 = .ok (.aload_n 0, 1) := by decide +kernel
theorem dX6_quiet_6 : decode cX6_quiet 6 = .ok (.iconst 2, 1) := by decide +kernel
theorem dX6_quiet_7 : decode cX6_quiet 7 = .ok (.iconst 0, 1) := by decide +kernel
theorem dX6_quiet_8 : decode cX6_quiet 8 = .ok (.iastore, 1) := by decide +kernel
theorem dX6_quiet_9 : decode cX6_quiet 9 = .ok (.return_, 1) := by decide +kernel
theorem dX6_lose_0 : decode cX6_lose 0 = .ok (.aload_n 0, 1) := by decide +kernel
theorem dX6_lose_1 : decode cX6_lose 1 = .ok (.iconst 3, 1) := by decide +kernel
theorem dX6_lose_2 : decode cX6_lose 2 = .ok (.iconst 0, 1) := by decide +kernel
theorem dX6_lose_3 : decode cX6_lose 3 = .ok (.iastore, 1) := by decide +kernel
theorem dX6_lose_4 : decode cX6_lose 4 = .ok (.aload_n 0, 1) := by decide +kernel
theorem dX6_lose_5 : decode cX6_lose 5 = .ok (.bipush 13, 2) := by decide +kernel
theorem dX6_lose_7 : decode cX6_lose 7 = .ok (.dup2, 1) := by decide +kernel
theorem dX6_lose_8 : decode cX6_lose 8 = .ok (.iaload, 1) := by decide +kernel
theorem dX6_lose_9 : decode cX6_lose 9 = .ok (.iconst 1, 1) := by decide +kernel
theorem dX6_lose_10 : decode cX6_lose 10 = .ok (.iadd, 1) := by decide +kernel
theorem dX6_lose_11 : decode cX6_lose 11 = .ok (.iastore, 1) := by decide +kernel
theorem dX6_lose_12 : decode cX6_lose 12 = .ok (.aload_n 0, 1) := by decide +kernel
theorem dX6_lose_13 : decode cX6_lose 13 = .ok (.invokestatic 121, 3) := by decide +kernel
theorem dX6_lose_16 : decode cX6_lose 16 = .ok (.aload_n 0, 1) := by decide +kernel
theorem dX6_lose_17 : decode cX6_lose 17 = .ok (.invokestatic 125, 3) := by decide +kernel
theorem dX6_lose_20 : decode cX6_lose 20 = .ok (.return_, 1) := by decide +kernel
theorem dX6_hearOf_0 : decode cX6_hearOf 0 = .ok (.iload_n 1, 1) := by decide +kernel
theorem dX6_hearOf_1 : decode cX6_hearOf 1 = .ok (.i2l, 1) := by decide +kernel
theorem dX6_hearOf_2 : decode cX6_hearOf 2 = .ok (.lconst 1, 1) := by decide +kernel
theorem dX6_hearOf_3 : decode cX6_hearOf 3 = .ok (.ldc2_w 128, 3) := by decide +kernel
theorem dX6_hearOf_6 : decode cX6_hearOf 6 = .ok (.invokestatic 68, 3) := by decide +kernel
theorem dX6_hearOf_9 : decode cX6_hearOf 9 = .ok (.ifCond .ne 4, 3) := by decide +kernel
theorem dX6_hearOf_12 : decode cX6_hearOf 12 = .ok (.return_, 1) := by decide +kernel
theorem dX6_hearOf_13 : decode cX6_hearOf 13 = .ok (.iconst 0, 1) := by decide +kernel
theorem dX6_hearOf_14 : decode cX6_hearOf 14 = .ok (.istore_n 2, 1) := by decide +kernel
theorem dX6_hearOf_15 : decode cX6_hearOf 15 = .ok (.iload_n 2, 1) := by decide +kernel
theorem dX6_hearOf_16 : decode cX6_hearOf 16 = .ok (.aload_n 0, 1) := by decide +kernel
theorem dX6_hearOf_17 : decode cX6_hearOf 17 = .ok (.bipush 30, 2) := by decide +kernel
theorem dX6_hearOf_19 : decode cX6_hearOf 19 = .ok (.iaload, 1) := by decide +kernel
theorem dX6_hearOf_20 : decode cX6_hearOf 20 = .ok (.if_icmp .ge 19, 3) := by decide +kernel
theorem dX6_hearOf_23 : decode cX6_hearOf 23 = .ok (.aload_n 0, 1) := by decide +kernel
theorem dX6_hearOf_24 : decode cX6_hearOf 24 = .ok (.bipush 31, 2) := by decide +kernel
theorem dX6_hearOf_26 : decode cX6_hearOf 26 = .ok (.iload_n 2, 1) := by decide +kernel
theorem dX6_hearOf_27 : decode cX6_hearOf 27 = .ok (.iadd, 1) := by decide +kernel
theorem dX6_hearOf_28 : decode cX6_hearOf 28 = .ok (.iaload, 1) := by decide +kernel
theorem dX6_hearOf_29 : decode cX6_hearOf 29 = .ok (.iload_n 1, 1) := by decide +kernel
theorem dX6_hearOf_30 : decode cX6_hearOf 30 = .ok (.if_icmp .eq 9, 3) := by decide +kernel
theorem dX6_hearOf_33 : decode cX6_hearOf 33 = .ok (.iinc 2 1, 3) := by decide +kernel
theorem dX6_hearOf_36 : decode cX6_hearOf 36 = .ok (.goto (-21), 3) := by decide +kernel
theorem dX6_hearOf_39 : decode cX6_hearOf 39 = .ok (.iload_n 2, 1) := by decide +kernel
theorem dX6_hearOf_40 : decode cX6_hearOf 40 = .ok (.aload_n 0, 1) := by decide +kernel
theorem dX6_hearOf_41 : decode cX6_hearOf 41 = .ok (.bipush 30, 2) := by decide +kernel
theorem dX6_hearOf_43 : decode cX6_hearOf 43 = .ok (.iaload, 1) := by decide +kernel
theorem dX6_hearOf_44 : decode cX6_hearOf 44 = .ok (.if_icmp .ge 31, 3) := by decide +kernel
theorem dX6_hearOf_47 : decode cX6_hearOf 47 = .ok (.aload_n 0, 1) := by decide +kernel
theorem dX6_hearOf_48 : decode cX6_hearOf 48 = .ok (.bipush 39, 2) := by decide +kernel
theorem dX6_hearOf_50 : decode cX6_hearOf 50 = .ok (.iload_n 2, 1) := by decide +kernel
theorem dX6_hearOf_51 : decode cX6_hearOf 51 = .ok (.iadd, 1) := by decide +kernel
theorem dX6_hearOf_52 : decode cX6_hearOf 52 = .ok (.dup2, 1) := by decide +kernel
theorem dX6_hearOf_53 : decode cX6_hearOf 53 = .ok (.iaload, 1) := by decide +kernel
theorem dX6_hearOf_54 : decode cX6_hearOf 54 = .ok (.aload_n 0, 1) := by decide +kernel
theorem dX6_hearOf_55 : decode cX6_hearOf 55 = .ok (.bipush 39, 2) := by decide +kernel
theorem dX6_hearOf_57 : decode cX6_hearOf 57 = .ok (.iload_n 2, 1) := by decide +kernel
theorem dX6_hearOf_58 : decode cX6_hearOf 58 = .ok (.iadd, 1) := by decide +kernel
theorem dX6_hearOf_59 : decode cX6_hearOf 59 = .ok (.iaload, 1) := by decide +kernel
theorem dX6_hearOf_60 : decode cX6_hearOf 60 = .ok (.bipush 99, 2) := by decide +kernel
theorem dX6_hearOf_62 : decode cX6_hearOf 62 = .ok (.if_icmp .ge 7, 3) := by decide +kernel
theorem dX6_hearOf_65 : decode cX6_hearOf 65 = .ok (.iconst 1, 1) := by decide +kernel
theorem dX6_hearOf_66 : decode cX6_hearOf 66 = .ok (.goto 4, 3) := by decide +kernel
theorem dX6_hearOf_69 : decode cX6_hearOf 69 = .ok (.iconst 0, 1) := by decide +kernel
theorem dX6_hearOf_70 : decode cX6_hearOf 70 = .ok (.iadd, 1) := by decide +kernel
theorem dX6_hearOf_71 : decode cX6_hearOf 71 = .ok (.iastore, 1) := by decide +kernel
theorem dX6_hearOf_72 : decode cX6_hearOf 72 = .ok (.goto 31, 3) := by decide +kernel
theorem dX6_hearOf_75 : decode cX6_hearOf 75 = .ok (.iload_n 2, 1) := by decide +kernel
theorem dX6_hearOf_76 : decode cX6_hearOf 76 = .ok (.bipush 8, 2) := by decide +kernel
theorem dX6_hearOf_78 : decode cX6_hearOf 78 = .ok (.if_icmp .ge 25, 3) := by decide +kernel
theorem dX6_hearOf_81 : decode cX6_hearOf 81 = .ok (.aload_n 0, 1) := by decide +kernel
theorem dX6_hearOf_82 : decode cX6_hearOf 82 = .ok (.bipush 31, 2) := by decide +kernel
theorem dX6_hearOf_84 : decode cX6_hearOf 84 = .ok (.iload_n 2, 1) := by decide +kernel
theorem dX6_hearOf_85 : decode cX6_hearOf 85 = .ok (.iadd, 1) := by decide +kernel
theorem dX6_hearOf_86 : decode cX6_hearOf 86 = .ok (.iload_n 1, 1) := by decide +kernel
theorem dX6_hearOf_87 : decode cX6_hearOf 87 = .ok (.iastore, 1) := by decide +kernel
theorem dX6_hearOf_88 : decode cX6_hearOf 88 = .ok (.aload_n 0, 1) := by decide +kernel
theorem dX6_hearOf_89 : decode cX6_hearOf 89 = .ok (.bipush 39, 2) := by decide +kernel
theorem dX6_hearOf_91 : decode cX6_hearOf 91 = .ok (.iload_n 2, 1) := by decide +kernel
theorem dX6_hearOf_92 : decode cX6_hearOf 92 = .ok (.iadd, 1) := by decide +kernel
theorem dX6_hearOf_93 : decode cX6_hearOf 93 = .ok (.iconst 1, 1) := by decide +kernel
theorem dX6_hearOf_94 : decode cX6_hearOf 94 = .ok (.iastore, 1) := by decide +kernel
theorem dX6_hearOf_95 : decode cX6_hearOf 95 = .ok (.aload_n 0, 1) := by decide +kernel
theorem dX6_hearOf_96 : decode cX6_hearOf 96 = .ok (.bipush 30, 2) := by decide +kernel
theorem dX6_hearOf_98 : decode cX6_hearOf 98 = .ok (.dup2, 1) := by decide +kernel
theorem dX6_hearOf_99 : decode cX6_hearOf 99 = .ok (.iaload, 1) := by decide +kernel
theorem dX6_hearOf_100 : decode cX6_hearOf 100 = .ok (.iconst 1, 1) := by decide +kernel
theorem dX6_hearOf_101 : decode cX6_hearOf 101 = .ok (.iadd, 1) := by decide +kernel
theorem dX6_hearOf_102 : decode cX6_hearOf 102 = .ok (.iastore, 1) := by decide +kernel
theorem dX6_hearOf_103 : decode cX6_hearOf 103 = .ok (.return_, 1) := by decide +kernel
theorem dX6_takeFlag_0 : decode cX6_takeFlag 0 = .ok (.aload_n 0, 1) := by decide +kernel
theorem dX6_takeFlag_1 : decode cX6_takeFlag 1 = .ok (.bipush 17, 2) := by decide +kernel
theorem dX6_takeFlag_3 : decode cX6_takeFlag 3 = .ok (.iaload, 1) := by decide +kernel
theorem dX6_takeFlag_4 : decode cX6_takeFlag 4 = .ok (.iload_n 1, 1) := by decide +kernel
theorem dX6_takeFlag_5 : decode cX6_takeFlag 5 = .ok (.if_icmp .eq 37, 3) := by decide +kernel
theorem dX6_takeFlag_8 : decode cX6_takeFlag 8 = .ok (.aload_n 0, 1) := by decide +kernel
theorem dX6_takeFlag_9 : decode cX6_takeFlag 9 = .ok (.bipush 17, 2) := by decide +kernel
theorem dX6_takeFlag_11 : decode cX6_takeFlag 11 = .ok (.iload_n 1, 1) := by decide +kernel
theorem dX6_takeFlag_12 : decode cX6_takeFlag 12 = .ok (.iastore, 1) := by decide +kernel
theorem dX6_takeFlag_13 : decode cX6_takeFlag 13 = .ok (.iconst 0, 1) := by decide +kernel
theorem dX6_takeFlag_14 : decode cX6_takeFlag 14 = .ok (.istore_n 2, 1) := by decide +kernel
theorem dX6_takeFlag_15 : decode cX6_takeFlag 15 = .ok (.iload_n 2, 1) := by decide +kernel
theorem dX6_takeFlag_16 : decode cX6_takeFlag 16 = .ok (.iconst 4, 1) := by decide +kernel
theorem dX6_takeFlag_17 : decode cX6_takeFlag 17 = .ok (.if_icmp .ge 25, 3) := by decide +kernel
theorem dX6_takeFlag_20 : decode cX6_takeFlag 20 = .ok (.aload_n 0, 1) := by decide +kernel
theorem dX6_takeFlag_21 : decode cX6_takeFlag 21 = .ok (.bipush 22, 2) := by decide +kernel
theorem dX6_takeFlag_23 : decode cX6_takeFlag 23 = .ok (.iload_n 2, 1) := by decide +kernel
theorem dX6_takeFlag_24 : decode cX6_takeFlag 24 = .ok (.iadd, 1) := by decide +kernel
theorem dX6_takeFlag_25 : decode cX6_takeFlag 25 = .ok (.bipush (-9), 2) := by decide +kernel
theorem dX6_takeFlag_27 : decode cX6_takeFlag 27 = .ok (.iastore, 1) := by decide +kernel
theorem dX6_takeFlag_28 : decode cX6_takeFlag 28 = .ok (.aload_n 0, 1) := by decide +kernel
theorem dX6_takeFlag_29 : decode cX6_takeFlag 29 = .ok (.bipush 26, 2) := by decide +kernel
theorem dX6_takeFlag_31 : decode cX6_takeFlag 31 = .ok (.iload_n 2, 1) := by decide +kernel
theorem dX6_takeFlag_32 : decode cX6_takeFlag 32 = .ok (.iadd, 1) := by decide +kernel
theorem dX6_takeFlag_33 : decode cX6_takeFlag 33 = .ok (.bipush (-9), 2) := by decide +kernel
theorem dX6_takeFlag_35 : decode cX6_takeFlag 35 = .ok (.iastore, 1) := by decide +kernel
theorem dX6_takeFlag_36 : decode cX6_takeFlag 36 = .ok (.iinc 2 1, 3) := by decide +kernel
theorem dX6_takeFlag_39 : decode cX6_takeFlag 39 = .ok (.goto (-24), 3) := by decide +kernel
theorem dX6_takeFlag_42 : decode cX6_takeFlag 42 = .ok (.return_, 1) := by decide +kernel
theorem dX6_takePair_0 : decode cX6_takePair 0 = .ok (.aload_n 0, 1) := by decide +kernel
theorem dX6_takePair_1 : decode cX6_takePair 1 = .ok (.bipush 26, 2) := by decide +kernel
theorem dX6_takePair_3 : decode cX6_takePair 3 = .ok (.iload_n 1, 1) := by decide +kernel
theorem dX6_takePair_4 : decode cX6_takePair 4 = .ok (.iadd, 1) := by decide +kernel
theorem dX6_takePair_5 : decode cX6_takePair 5 = .ok (.iaload, 1) := by decide +kernel
theorem dX6_takePair_6 : decode cX6_takePair 6 = .ok (.iload_n 2, 1) := by decide +kernel
theorem dX6_takePair_7 : decode cX6_takePair 7 = .ok (.if_icmp .ne 10, 3) := by decide +kernel
theorem dX6_takePair_10 : decode cX6_takePair 10 = .ok (.aload_n 0, 1) := by decide +kernel
theorem dX6_takePair_11 : decode cX6_takePair 11 = .ok (.bipush 22, 2) := by decide +kernel
theorem dX6_takePair_13 : decode cX6_takePair 13 = .ok (.iload_n 1, 1) := by decide +kernel
theorem dX6_takePair_14 : decode cX6_takePair 14 = .ok (.iadd, 1) := by decide +kernel
theorem dX6_takePair_15 : decode cX6_takePair 15 = .ok (.iload_n 2, 1) := by decide +kernel
theorem dX6_takePair_16 : decode cX6_takePair 16 = .ok (.iastore, 1) := by decide +kernel
theorem dX6_takePair_17 : decode cX6_takePair 17 = .ok (.aload_n 0, 1) := by decide +kernel
theorem dX6_takePair_18 : decode cX6_takePair 18 = .ok (.bipush 26, 2) := by decide +kernel
theorem dX6_takePair_20 : decode cX6_takePair 20 = .ok (.iload_n 1, 1) := by decide +kernel
theorem dX6_takePair_21 : decode cX6_takePair 21 = .ok (.iadd, 1) := by decide +kernel
theorem dX6_takePair_22 : decode cX6_takePair 22 = .ok (.iload_n 2, 1) := by decide +kernel
theorem dX6_takePair_23 : decode cX6_takePair 23 = .ok (.iastore, 1) := by decide +kernel
theorem dX6_takePair_24 : decode cX6_takePair 24 = .ok (.return_, 1) := by decide +kernel
theorem dX6_lookAt_0 : decode cX6_lookAt 0 = .ok (.aload_n 0, 1) := by decide +kernel
theorem dX6_lookAt_1 : decode cX6_lookAt 1 = .ok (.bipush 18, 2) := by decide +kernel
theorem dX6_lookAt_3 : decode cX6_lookAt 3 = .ok (.iaload, 1) := by decide +kernel
theorem dX6_lookAt_4 : decode cX6_lookAt 4 = .ok (.istore_n 1, 1) := by decide +kernel
theorem dX6_lookAt_5 : decode cX6_lookAt 5 = .ok (.iload_n 1, 1) := by decide +kernel
theorem dX6_lookAt_6 : decode cX6_lookAt 6 = .ok (.bipush (-9), 2) := by decide +kernel
theorem dX6_lookAt_8 : decode cX6_lookAt 8 = .ok (.if_icmp .eq 28, 3) := by decide +kernel
theorem dX6_lookAt_11 : decode cX6_lookAt 11 = .ok (.aload_n 0, 1) := by decide +kernel
theorem dX6_lookAt_12 : decode cX6_lookAt 12 = .ok (.bipush 14, 2) := by decide +kernel
theorem dX6_lookAt_14 : decode cX6_lookAt 14 = .ok (.aload_n 0, 1) := by decide +kernel
theorem dX6_lookAt_15 : decode cX6_lookAt 15 = .ok (.bipush 15, 2) := by decide +kernel
theorem dX6_lookAt_17 : decode cX6_lookAt 17 = .ok (.iaload, 1) := by decide +kernel
theorem dX6_lookAt_18 : decode cX6_lookAt 18 = .ok (.iload_n 1, 1) := by decide +kernel
theorem dX6_lookAt_19 : decode cX6_lookAt 19 = .ok (.if_icmp .ne 7, 3) := by decide +kernel
theorem dX6_lookAt_22 : decode cX6_lookAt 22 = .ok (.iload_n 1, 1) := by decide +kernel
theorem dX6_lookAt_23 : decode cX6_lookAt 23 = .ok (.goto 7, 3) := by decide +kernel
theorem dX6_lookAt_26 : decode cX6_lookAt 26 = .ok (.aload_n 0, 1) := by decide +kernel
theorem dX6_lookAt_27 : decode cX6_lookAt 27 = .ok (.bipush 14, 2) := by decide +kernel
theorem dX6_lookAt_29 : decode cX6_lookAt 29 = .ok (.iaload, 1) := by decide +kernel
theorem dX6_lookAt_30 : decode cX6_lookAt 30 = .ok (.iastore, 1) := by decide +kernel
theorem dX6_lookAt_31 : decode cX6_lookAt 31 = .ok (.aload_n 0, 1) := by decide +kernel
theorem dX6_lookAt_32 : decode cX6_lookAt 32 = .ok (.bipush 15, 2) := by decide +kernel
theorem dX6_lookAt_34 : decode cX6_lookAt 34 = .ok (.iload_n 1, 1) := by decide +kernel
theorem dX6_lookAt_35 : decode cX6_lookAt 35 = .ok (.iastore, 1) := by decide +kernel
theorem dX6_lookAt_36 : decode cX6_lookAt 36 = .ok (.aload_n 0, 1) := by decide +kernel
theorem dX6_lookAt_37 : decode cX6_lookAt 37 = .ok (.bipush 19, 2) := by decide +kernel
theorem dX6_lookAt_39 : decode cX6_lookAt 39 = .ok (.iaload, 1) := by decide +kernel
theorem dX6_lookAt_40 : decode cX6_lookAt 40 = .ok (.istore_n 2, 1) := by decide +kernel
theorem dX6_lookAt_41 : decode cX6_lookAt 41 = .ok (.iload_n 2, 1) := by decide +kernel
theorem dX6_lookAt_42 : decode cX6_lookAt 42 = .ok (.bipush (-9), 2) := by decide +kernel
theorem dX6_lookAt_44 : decode cX6_lookAt 44 = .ok (.if_icmp .ne 4, 3) := by decide +kernel
theorem dX6_lookAt_47 : decode cX6_lookAt 47 = .ok (.return_, 1) := by decide +kernel
theorem dX6_lookAt_48 : decode cX6_lookAt 48 = .ok (.aload_n 0, 1) := by decide +kernel
theorem dX6_lookAt_49 : decode cX6_lookAt 49 = .ok (.bipush 20, 2) := by decide +kernel
theorem dX6_lookAt_51 : decode cX6_lookAt 51 = .ok (.iaload, 1) := by decide +kernel
theorem dX6_lookAt_52 : decode cX6_lookAt 52 = .ok (.istore_n 3, 1) := by decide +kernel
theorem dX6_lookAt_53 : decode cX6_lookAt 53 = .ok (.aload_n 0, 1) := by decide +kernel
theorem dX6_lookAt_54 : decode cX6_lookAt 54 = .ok (.bipush 21, 2) := by decide +kernel
theorem dX6_lookAt_56 : decode cX6_lookAt 56 = .ok (.iaload, 1) := by decide +kernel
theorem dX6_lookAt_57 : decode cX6_lookAt 57 = .ok (.istore 4, 2) := by decide +kernel
theorem dX6_lookAt_59 : decode cX6_lookAt 59 = .ok (.iload_n 3, 1) := by decide +kernel
theorem dX6_lookAt_60 : decode cX6_lookAt 60 = .ok (.bipush (-9), 2) := by decide +kernel
theorem dX6_lookAt_62 : decode cX6_lookAt 62 = .ok (.if_icmp .eq 14, 3) := by decide +kernel
theorem dX6_lookAt_65 : decode cX6_lookAt 65 = .ok (.iload 4, 2) := by decide +kernel
theorem dX6_lookAt_67 : decode cX6_lookAt 67 = .ok (.bipush (-9), 2) := by decide +kernel
theorem dX6_lookAt_69 : decode cX6_lookAt 69 = .ok (.if_icmp .eq 7, 3) := by decide +kernel
theorem dX6_lookAt_72 : decode cX6_lookAt 72 = .ok (.iconst 1, 1) := by decide +kernel
theorem dX6_lookAt_73 : decode cX6_lookAt 73 = .ok (.goto 4, 3) := by decide +kernel
theorem dX6_lookAt_76 : decode cX6_lookAt 76 = .ok (.iconst 0, 1) := by decide +kernel
theorem dX6_lookAt_77 : decode cX6_lookAt 77 = .ok (.istore 5, 2) := by decide +kernel
theorem dX6_lookAt_79 : decode cX6_lookAt 79 = .ok (.iload_n 2, 1) := by decide +kernel
theorem dX6_lookAt_80 : decode cX6_lookAt 80 = .ok (.bipush 64, 2) := by decide +kernel
theorem dX6_lookAt_82 : decode cX6_lookAt 82 = .ok (.idiv, 1) := by decide +kernel
theorem dX6_lookAt_83 : decode cX6_lookAt 83 = .ok (.tableswitch 94 0 2 #[25, 48, 80], 25) := by decide +kernel
theorem dX6_lookAt_108 : decode cX6_lookAt 108 = .ok (.iload 5, 2) := by decide +kernel
theorem dX6_lookAt_110 : decode cX6_lookAt 110 = .ok (.ifCond .eq 74, 3) := by decide +kernel
theorem dX6_lookAt_113 : decode cX6_lookAt 113 = .ok (.aload_n 0, 1) := by decide +kernel
theorem dX6_lookAt_114 : decode cX6_lookAt 114 = .ok (.iload_n 2, 1) := by decide +kernel
theorem dX6_lookAt_115 : decode cX6_lookAt 115 = .ok (.iconst 4, 1) := by decide +kernel
theorem dX6_lookAt_116 : decode cX6_lookAt 116 = .ok (.irem, 1) := by decide +kernel
theorem dX6_lookAt_117 : decode cX6_lookAt 117 = .ok (.sipush 256, 3) := by decide +kernel
theorem dX6_lookAt_120 : decode cX6_lookAt 120 = .ok (.iload_n 3, 1) := by decide +kernel
theorem dX6_lookAt_121 : decode cX6_lookAt 121 = .ok (.imul, 1) := by decide +kernel
theorem dX6_lookAt_122 : decode cX6_lookAt 122 = .ok (.iload 4, 2) := by decide +kernel
theorem dX6_lookAt_124 : decode cX6_lookAt 124 = .ok (.iadd, 1) := by decide +kernel
theorem dX6_lookAt_125 : decode cX6_lookAt 125 = .ok (.invokestatic 130, 3) := by decide +kernel
