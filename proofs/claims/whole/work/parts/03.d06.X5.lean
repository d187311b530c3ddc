theorem dX5_init_0 : decode cX5_init 0 = .ok (.aload_n 0, 1) := by decide +kernel
theorem dX5_init_1 : decode cX5_init 1 = .ok (.invokespecial 1, 3) := by decide +kernel
theorem dX5_init_4 : decode cX5_init 4 = .ok (.aload_n 0, 1) := by decide +kernel
theorem dX5_init_5 : decode cX5_init 5 = .ok (.new 7, 3) := by decide +kernel
theorem dX5_init_8 : decode cX5_init 8 = .ok (.dup, 1) := by decide +kernel
theorem dX5_init_9 : decode cX5_init 9 = .ok (.invokespecial 9, 3) := by decide +kernel
theorem dX5_init_12 : decode cX5_init 12 = .ok (.putfield 10, 3) := by decide +kernel
theorem dX5_init_15 : decode cX5_init 15 = .ok (.aload_n 0, 1) := by decide +kernel
theorem dX5_init_16 : decode cX5_init 16 = .ok (.new 16, 3) := by decide +kernel
theorem dX5_init_19 : decode cX5_init 19 = .ok (.dup, 1) := by decide +kernel
theorem dX5_init_20 : decode cX5_init 20 = .ok (.invokespecial 18, 3) := by decide +kernel
theorem dX5_init_23 : decode cX5_init 23 = .ok (.putfield 19, 3) := by decide +kernel
theorem dX5_init_26 : decode cX5_init 26 = .ok (.aload_n 0, 1) := by decide +kernel
theorem dX5_init_27 : decode cX5_init 27 = .ok (.new 23, 3) := by decide +kernel
theorem dX5_init_30 : decode cX5_init 30 = .ok (.dup, 1) := by decide +kernel
theorem dX5_init_31 : decode cX5_init 31 = .ok (.invokespecial 25, 3) := by decide +kernel
theorem dX5_init_34 : decode cX5_init 34 = .ok (.putfield 26, 3) := by decide +kernel
theorem dX5_init_37 : decode cX5_init 37 = .ok (.aload_n 0, 1) := by decide +kernel
theorem dX5_init_38 : decode cX5_init 38 = .ok (.new 30, 3) := by decide +kernel
theorem dX5_init_41 : decode cX5_init 41 = .ok (.dup, 1) := by decide +kernel
theorem dX5_init_42 : decode cX5_init 42 = .ok (.invokespecial 32, 3) := by decide +kernel
theorem dX5_init_45 : decode cX5_init 45 = .ok (.putfield 33, 3) := by decide +kernel
theorem dX5_init_48 : decode cX5_init 48 = .ok (.aload_n 0, 1) := by decide +kernel
theorem dX5_init_49 : decode cX5_init 49 = .ok (.iconst 2, 1) := by decide +kernel
theorem dX5_init_50 : decode cX5_init 50 = .ok (.anewarray 23, 3) := by decide +kernel
theorem dX5_init_53 : decode cX5_init 53 = .ok (.putfield 37, 3) := by decide +kernel
theorem dX5_init_56 : decode cX5_init 56 = .ok (.aload_n 0, 1) := by decide +kernel
theorem dX5_init_57 : decode cX5_init 57 = .ok (.iconst 2, 1) := by decide +kernel
theorem dX5_init_58 : decode cX5_init 58 = .ok (.newarray .boolean, 2) := by decide +kernel
theorem dX5_init_60 : decode cX5_init 60 = .ok (.putfield 41, 3) := by decide +kernel
theorem dX5_init_63 : decode cX5_init 63 = .ok (.aload_n 0, 1) := by decide +kernel
theorem dX5_init_64 : decode cX5_init 64 = .ok (.bipush 9, 2) := by decide +kernel
theorem dX5_init_66 : decode cX5_init 66 = .ok (.anewarray 23, 3) := by decide +kernel
theorem dX5_init_69 : decode cX5_init 69 = .ok (.putfield 45, 3) := by decide +kernel
theorem dX5_init_72 : decode cX5_init 72 = .ok (.aload_n 0, 1) := by decide +kernel
theorem dX5_init_73 : decode cX5_init 73 = .ok (.iconst 4, 1) := by decide +kernel
theorem dX5_init_74 : decode cX5_init 74 = .ok (.newarray .int, 2) := by decide +kernel
theorem dX5_init_76 : decode cX5_init 76 = .ok (.putfield 48, 3) := by decide +kernel
theorem dX5_init_79 : decode cX5_init 79 = .ok (.aload_n 0, 1) := by decide +kernel
theorem dX5_init_80 : decode cX5_init 80 = .ok (.iconst 4, 1) := by decide +kernel
theorem dX5_init_81 : decode cX5_init 81 = .ok (.newarray .int, 2) := by decide +kernel
theorem dX5_init_83 : decode cX5_init 83 = .ok (.putfield 52, 3) := by decide +kernel
theorem dX5_init_86 : decode cX5_init 86 = .ok (.aload_n 0, 1) := by decide +kernel
theorem dX5_init_87 : decode cX5_init 87 = .ok (.iconst 4, 1) := by decide +kernel
theorem dX5_init_88 : decode cX5_init 88 = .ok (.newarray .int, 2) := by decide +kernel
theorem dX5_init_90 : decode cX5_init 90 = .ok (.putfield 55, 3) := by decide +kernel
theorem dX5_init_93 : decode cX5_init 93 = .ok (.aload_n 0, 1) := by decide +kernel
theorem dX5_init_94 : decode cX5_init 94 = .ok (.iconst 0, 1) := by decide +kernel
theorem dX5_init_95 : decode cX5_init 95 = .ok (.putfield 58, 3) := by decide +kernel
theorem dX5_init_98 : decode cX5_init 98 = .ok (.aload_n 0, 1) := by decide +kernel
theorem dX5_init_99 : decode cX5_init 99 = .ok (.lconst 0, 1) := by decide +kernel
theorem dX5_init_100 : decode cX5_init 100 = .ok (.putfield 62, 3) := by decide +kernel
theorem dX5_init_103 : decode cX5_init 103 = .ok (.iconst 0, 1) := by decide +kernel
theorem dX5_init_104 : decode cX5_init 104 = .ok (.istore_n 1, 1) := by decide +kernel
theorem dX5_init_105 : decode cX5_init 105 = .ok (.iload_n 1, 1) := by decide +kernel
theorem dX5_init_106 : decode cX5_init 106 = .ok (.iconst 2, 1) := by decide +kernel
theorem dX5_init_107 : decode cX5_init 107 = .ok (.if_icmp .ge 22, 3) := by decide +kernel
theorem dX5_init_110 : decode cX5_init 110 = .ok (.aload_n 0, 1) := by decide +kernel
theorem dX5_init_111 : decode cX5_init 111 = .ok (.getfield 37, 3) := by decide +kernel
theorem dX5_init_114 : decode cX5_init 114 = .ok (.iload_n 1, 1) := by decide +kernel
theorem dX5_init_115 : decode cX5_init 115 = .ok (.new 23, 3) := by decide +kernel
theorem dX5_init_118 : decode cX5_init 118 = .ok (.dup, 1) := by decide +kernel
theorem dX5_init_119 : decode cX5_init 119 = .ok (.invokespecial 25, 3) := by decide +kernel
theorem dX5_init_122 : decode cX5_init 122 = .ok (.aastore, 1) := by decide +kernel
theorem dX5_init_123 : decode cX5_init 123 = .ok (.iinc 1 1, 3) := by decide +kernel
theorem dX5_init_126 : decode cX5_init 126 = .ok (.goto (-21), 3) := by decide +kernel
theorem dX5_init_129 : decode cX5_init 129 = .ok (.iconst 0, 1) := by decide +kernel
theorem dX5_init_130 : decode cX5_init 130 = .ok (.istore_n 1, 1) := by decide +kernel
theorem dX5_init_131 : decode cX5_init 131 = .ok (.iload_n 1, 1) := by decide +kernel
theorem dX5_init_132 : decode cX5_init 132 = .ok (.aload_n 0, 1) := by decide +kernel
theorem dX5_init_133 : decode cX5_init 133 = .ok (.getfield 45, 3) := by decide +kernel
theorem dX5_init_136 : decode cX5_init 136 = .ok (.arraylength, 1) := by decide +kernel
theorem dX5_init_137 : decode cX5_init 137 = .ok (.if_icmp .ge 22, 3) := by decide +kernel
theorem dX5_init_140 : decode cX5_init 140 = .ok (.aload_n 0, 1) := by decide +kernel
theorem dX5_init_141 : decode cX5_init 141 = .ok (.getfield 45, 3) := by decide +kernel
theorem dX5_init_144 : decode cX5_init 144 = .ok (.iload_n 1, 1) := by decide +kernel
theorem dX5_init_145 : decode cX5_init 145 = .ok (.new 23, 3) := by decide +kernel
theorem dX5_init_148 : decode cX5_init 148 = .ok (.dup, 1) := by decide +kernel
theorem dX5_init_149 : decode cX5_init 149 = .ok (.invokespecial 25, 3) := by decide +kernel
theorem dX5_init_152 : decode cX5_init 152 = .ok (.aastore, 1) := by decide +kernel
theorem dX5_init_153 : decode cX5_init 153 = .ok (.iinc 1 1, 3) := by decide +kernel
theorem dX5_init_156 : decode cX5_init 156 = .ok (.goto (-25), 3) := by decide +kernel
theorem dX5_init_159 : decode cX5_init 159 = .ok (.return_, 1) := by decide +kernel
theorem dX5_write_0 : decode cX5_write 0 = .ok (.iload_n 1, 1) := by decide +kernel
theorem dX5_write_1 : decode cX5_write 1 = .ok (.ifCond .lt 10, 3) := by decide +kernel
theorem dX5_write_4 : decode cX5_write 4 = .ok (.iload_n 1, 1) := by decide +kernel
theorem dX5_write_5 : decode cX5_write 5 = .ok (.sipush 255, 3) := by decide +kernel
theorem dX5_write_8 : decode cX5_write 8 = .ok (.if_icmp .le 6, 3) := by decide +kernel
theorem dX5_write_11 : decode cX5_write 11 = .ok (.bipush (-2), 2) := by decide +kernel
theorem dX5_write_13 : decode cX5_write 13 = .ok (.ireturn, 1) := by decide +kernel
theorem dX5_write_14 : decode cX5_write 14 = .ok (.aload_n 0, 1) := by decide +kernel
theorem dX5_write_15 : decode cX5_write 15 = .ok (.getfield 10, 3) := by decide +kernel
theorem dX5_write_18 : decode cX5_write 18 = .ok (.iload_n 1, 1) := by decide +kernel
theorem dX5_write_19 : decode cX5_write 19 = .ok (.invokevirtual 66, 3) := by decide +kernel
theorem dX5_write_22 : decode cX5_write 22 = .ok (.ifCond .eq 13, 3) := by decide +kernel
theorem dX5_write_25 : decode cX5_write 25 = .ok (.aload_n 0, 1) := by decide +kernel
theorem dX5_write_26 : decode cX5_write 26 = .ok (.getfield 10, 3) := by decide +kernel
theorem dX5_write_29 : decode cX5_write 29 = .ok (.getfield 70, 3) := by decide +kernel
theorem dX5_write_32 : decode cX5_write 32 = .ok (.goto 5, 3) := by decide +kernel
theorem dX5_write_35 : decode cX5_write 35 = .ok (.bipush (-4), 2) := by decide +kernel
theorem dX5_write_37 : decode cX5_write 37 = .ok (.ireturn, 1) := by decide +kernel
theorem dX5_wipe_0 : decode cX5_wipe 0 = .ok (.aload_n 0, 1) := by decide +kernel
theorem dX5_wipe_1 : decode cX5_wipe 1 = .ok (.getfield 10, 3) := by decide +kernel
theorem dX5_wipe_4 : decode cX5_wipe 4 = .ok (.getfield 70, 3) := by decide +kernel
theorem dX5_wipe_7 : decode cX5_wipe 7 = .ok (.istore_n 1, 1) := by decide +kernel
theorem dX5_wipe_8 : decode cX5_wipe 8 = .ok (.aload_n 0, 1) := by decide +kernel
theorem dX5_wipe_9 : decode cX5_wipe 9 = .ok (.getfield 10, 3) := by decide +kernel
theorem dX5_wipe_12 : decode cX5_wipe 12 = .ok (.iconst 0, 1) := by decide +kernel
theorem dX5_wipe_13 : decode cX5_wipe 13 = .ok (.putfield 70, 3) := by decide +kernel
theorem dX5_wipe_16 : decode cX5_wipe 16 = .ok (.iload_n 1, 1) := by decide +kernel
theorem dX5_wipe_17 : decode cX5_wipe 17 = .ok (.ireturn, 1) := by decide +kernel
theorem dX5_fault_0 : decode cX5_fault 0 = .ok (.aload_n 0, 1) := by decide +kernel
theorem dX5_fault_1 : decode cX5_fault 1 = .ok (.getfield 10, 3) := by decide +kernel
theorem dX5_fault_4 : decode cX5_fault 4 = .ok (.invokevirtual 73, 3) := by decide +kernel
theorem dX5_fault_7 : decode cX5_fault 7 = .ok (.ireturn, 1) := by decide +kernel
theorem dX5_station_0 : decode cX5_station 0 = .ok (.aload_n 0, 1) := by decide +kernel
theorem dX5_station_1 : decode cX5_station 1 = .ok (.getfield 10, 3) := by decide +kernel
theorem dX5_station_4 : decode cX5_station 4 = .ok (.invokevirtual 73, 3) := by decide +kernel
theorem dX5_station_7 : decode cX5_station 7 = .ok (.bipush (-9), 2) := by decide +kernel
theorem dX5_station_9 : decode cX5_station 9 = .ok (.if_icmp .eq 6, 3) := by decide +kernel
theorem dX5_station_12 : decode cX5_station 12 = .ok (.bipush (-3), 2) := by decide +kernel
theorem dX5_station_14 : decode cX5_station 14 = .ok (.ireturn, 1) := by decide +kernel
theorem dX5_station_15 : decode cX5_station 15 = .ok (.aload_n 0, 1) := by decide +kernel
theorem dX5_station_16 : decode cX5_station 16 = .ok (.getfield 19, 3) := by decide +kernel
theorem dX5_station_19 : decode cX5_station 19 = .ok (.aload_n 0, 1) := by decide +kernel
theorem dX5_station_20 : decode cX5_station 20 = .ok (.getfield 10, 3) := by decide +kernel
theorem dX5_station_23 : decode cX5_station 23 = .ok (.invokevirtual 77, 3) := by decide +kernel
theorem dX5_station_26 : decode cX5_station 26 = .ok (.aload_n 0, 1) := by decide +kernel
theorem dX5_station_27 : decode cX5_station 27 = .ok (.getfield 26, 3) := by decide +kernel
theorem dX5_station_30 : decode cX5_station 30 = .ok (.invokevirtual 81, 3) := by decide +kernel
theorem dX5_station_33 : decode cX5_station 33 = .ok (.aload_n 0, 1) := by decide +kernel
theorem dX5_station_34 : decode cX5_station 34 = .ok (.getfield 33, 3) := by decide +kernel
theorem dX5_station_37 : decode cX5_station 37 = .ok (.invokevirtual 84, 3) := by decide +kernel
theorem dX5_station_40 : decode cX5_station 40 = .ok (.iconst 0, 1) := by decide +kernel
theorem dX5_station_41 : decode cX5_station 41 = .ok (.istore_n 1, 1) := by decide +kernel
theorem dX5_station_42 : decode cX5_station 42 = .ok (.iload_n 1, 1) := by decide +kernel
theorem dX5_station_43 : decode cX5_station 43 = .ok (.iconst 2, 1) := by decide +kernel
theorem dX5_station_44 : decode cX5_station 44 = .ok (.if_icmp .ge 16, 3) := by decide +kernel
theorem dX5_station_47 : decode cX5_station 47 = .ok (.aload_n 0, 1) := by decide +kernel
theorem dX5_station_48 : decode cX5_station 48 = .ok (.getfield 41, 3) := by decide +kernel
theorem dX5_station_51 : decode cX5_station 51 = .ok (.iload_n 1, 1) := by decide +kernel
theorem dX5_station_52 : decode cX5_station 52 = .ok (.iconst 0, 1) := by decide +kernel
theorem dX5_station_53 : decode cX5_station 53 = .ok (.bastore, 1) := by decide +kernel
theorem dX5_station_54 : decode cX5_station 54 = .ok (.iinc 1 1, 3) := by decide +kernel
theorem dX5_station_57 : decode cX5_station 57 = .ok (.goto (-15), 3) := by decide +kernel
theorem dX5_station_60 : decode cX5_station 60 = .ok (.aload_n 0, 1) := by decide +kernel
theorem dX5_station_61 : decode cX5_station 61 = .ok (.getfield 19, 3) := by decide +kernel
theorem dX5_station_64 : decode cX5_station 64 = .ok (.getfield 87, 3) := by decide +kernel
theorem dX5_station_67 : decode cX5_station 67 = .ok (.ireturn, 1) := by decide +kernel
theorem dX5_about_0 : decode cX5_about 0 = .ok (.iload_n 1, 1) := by decide +kernel
theorem dX5_about_1 : decode cX5_about 1 = .ok (.tableswitch 148 0 17 #[87, 95, 103, 148, 148, 148, 148, 148, 148, 148, 148, 148, 148, 111, 119, 124, 132, 140], 87) := by decide +kernel
theorem dX5_about_88 : decode cX5_about 88 = .ok (.aload_n 0, 1) := by decide +kernel
theorem dX5_about_89 : decode cX5_about 89 = .ok (.getfield 19, 3) := by decide +kernel
theorem dX5_about_92 : decode cX5_about 92 = .ok (.getfield 87, 3) := by decide +kernel
theorem dX5_about_95 : decode cX5_about 95 = .ok (.ireturn, 1) := by decide +kernel
theorem dX5_about_96 : decode cX5_about 96 = .ok (.aload_n 0, 1) := by decide +kernel
theorem dX5_about_97 : decode cX5_about 97 = .ok (.getfield 19, 3) := by decide +kernel
theorem dX5_about_100 : decode cX5_about 100 = .ok (.getfield 90, 3) := by decide +kernel
theorem dX5_about_103 : decode cX5_about 103 = .ok (.ireturn, 1) := by decide +kernel
theorem dX5_about_104 : decode cX5_about 104 = .ok (.aload_n 0, 1) := by decide +kernel
theorem dX5_about_105 : decode cX5_about 105 = .ok (.getfield 19, 3) := by decide +kernel
theorem dX5_about_108 : decode cX5_about 108 = .ok (.getfield 93, 3) := by decide +kernel
theorem dX5_about_111 : decode cX5_about 111 = .ok (.ireturn, 1) := by decide +kernel
theorem dX5_about_112 : decode cX5_about 112 = .ok (.aload_n 0, 1) := by decide +kernel
theorem dX5_about_113 : decode cX5_about 113 = .ok (.getfield 33, 3) := by decide +kernel
theorem dX5_about_116 : decode cX5_about 116 = .ok (.getfield 96, 3) := by decide +kernel
theorem dX5_about_119 : decode cX5_about 119 = .ok (.ireturn, 1) := by decide +kernel
theorem dX5_about_120 : decode cX5_about 120 = .ok (.aload_n 0, 1) := by decide +kernel
theorem dX5_about_121 : decode cX5_about 121 = .ok (.getfield 58, 3) := by decide +kernel
theorem dX5_about_124 : decode cX5_about 124 = .ok (.ireturn, 1) := by decide +kernel
theorem dX5_about_125 : decode cX5_about 125 = .ok (.aload_n 0, 1) := by decide +kernel
theorem dX5_about_126 : decode cX5_about 126 = .ok (.getfield 10, 3) := by decide +kernel
theorem dX5_about_129 : decode cX5_about 129 = .ok (.getfield 70, 3) := by decide +kernel
theorem dX5_about_132 : decode cX5_about 132 = .ok (.ireturn, 1) := by decide +kernel
theorem dX5_about_133 : decode cX5_about 133 = .ok (.aload_n 0, 1) := by decide +kernel
theorem dX5_about_134 : decode cX5_about 134 = .ok (.getfield 19, 3) := by decide +kernel
theorem dX5_about_137 : decode cX5_about 137 = .ok (.getfield 99, 3) := by decide +kernel
theorem dX5_about_140 : decode cX5_about 140 = .ok (.ireturn, 1) := by decide +kernel
theorem dX5_about_141 : decode cX5_about 141 = .ok (.aload_n 0, 1) := by decide +kernel
theorem dX5_about_142 : decode cX5_about 142 = .ok (.getfield 19, 3) := by decide +kernel
theorem dX5_about_145 : decode cX5_about 145 = .ok (.getfield 102, 3) := by decide +kernel
theorem dX5_about_148 : decode cX5_about 148 = .ok (.ireturn, 1) := by decide +kernel
theorem dX5_about_149 : decode cX5_about 149 = .ok (.aload_n 0, 1) := by decide +kernel
theorem dX5_about_150 : decode cX5_about 150 = .ok (.getfield 26, 3) := by decide +kernel
theorem dX5_about_153 : decode cX5_about 153 = .ok (.iload_n 1, 1) := by decide +kernel
theorem dX5_about_154 : decode cX5_about 154 = .ok (.invokevirtual 105, 3) := by decide +kernel
theorem dX5_about_157 : decode cX5_about 157 = .ok (.ireturn, 1) := by decide +kernel
theorem dX5_offset_0 : decode cX5_offset 0 = .ok (.iload_n 1, 1) := by decide +kernel
theorem dX5_offset_1 : decode cX5_offset 1 = .ok (.invokestatic 109, 3) := by decide +kernel
theorem dX5_offset_4 : decode cX5_offset 4 = .ok (.ifCond .eq 15, 3) := by decide +kernel
theorem dX5_offset_7 : decode cX5_offset 7 = .ok (.aload_n 0, 1) := by decide +kernel
theorem dX5_offset_8 : decode cX5_offset 8 = .ok (.getfield 19, 3) := by decide +kernel
theorem dX5_offset_11 : decode cX5_offset 11 = .ok (.getfield 112, 3) := by decide +kernel
theorem dX5_offset_14 : decode cX5_offset 14 = .ok (.iload_n 1, 1) := by decide +kernel
theorem dX5_offset_15 : decode cX5_offset 15 = .ok (.iaload, 1) := by decide +kernel
theorem dX5_offset_16 : decode cX5_offset 16 = .ok (.goto 4, 3) := by decide +kernel
theorem dX5_offset_19 : decode cX5_offset 19 = .ok (.iconst (-1), 1) := by decide +kernel
theorem dX5_offset_20 : decode cX5_offset 20 = .ok (.ireturn, 1) := by decide +kernel
theorem dX5_told_0 : decode cX5_told 0 = .ok (.iload_n 1, 1) := by decide +kernel
theorem dX5_told_1 : decode cX5_told 1 = .ok (.tableswitch 123 0 6 #[43, 54, 65, 76, 87, 98, 112], 43) := by decide +kernel
theorem dX5_told_44 : decode cX5_told 44 = .ok (.aload_n 0, 1) := by decide +kernel
theorem dX5_told_45 : decode cX5_told 45 = .ok (.getfield 26, 3) := by decide +kernel
theorem dX5_told_48 : decode cX5_told 48 = .ok (.getfield 115, 3) := by decide +kernel
theorem dX5_told_51 : decode cX5_told 51 = .ok (.getfield 119, 3) := by decide +kernel
theorem dX5_told_54 : decode cX5_told 54 = .ok (.ireturn, 1) := by decide +kernel
theorem dX5_told_55 : decode cX5_told 55 = .ok (.aload_n 0, 1) := by decide +kernel
theorem dX5_told_56 : decode cX5_told 56 = .ok (.getfield 26, 3) := by decide +kernel
theorem dX5_told_59 : decode cX5_told 59 = .ok (.getfield 115, 3) := by decide +kernel
theorem dX5_told_62 : decode cX5_told 62 = .ok (.getfield 124, 3) := by decide +kernel
theorem dX5_told_65 : decode cX5_told 65 = .ok (.ireturn, 1) := by decide +kernel
theorem dX5_told_66 : decode cX5_told 66 = .ok (.aload_n 0, 1) := by decide +kernel
theorem dX5_told_67 : decode cX5_told 67 = .ok (.getfield 26, 3) := by decide +kernel
theorem dX5_told_70 : decode cX5_told 70 = .ok (.getfield 115, 3) := by decide +kernel
theorem dX5_told_73 : decode cX5_told 73 = .ok (.getfield 127, 3) := by decide +kernel
theorem dX5_told_76 : decode cX5_told 76 = .ok (.ireturn, 1) := by decide +kernel
theorem dX5_told_77 : decode cX5_told 77 = .ok (.aload_n 0, 1) := by decide +kernel
theorem dX5_told_78 : decode cX5_told 78 = .ok (.getfield 26, 3) := by decide +kernel
theorem dX5_told_81 : decode cX5_told 81 = .ok (.getfield 115, 3) := by decide +kernel
theorem dX5_told_84 : decode cX5_told 84 = .ok (.getfield 130, 3) := by decide +kernel
theorem dX5_told_87 : decode cX5_told 87 = .ok (.ireturn, 1) := by decide +kernel
theorem dX5_told_88 : decode cX5_told 88 = .ok (.aload_n 0, 1) := by decide +kernel
theorem dX5_told_89 : decode cX5_told 89 = .ok (.getfield 26, 3) := by decide +kernel
theorem dX5_told_92 : decode cX5_told 92 = .ok (.getfield 115, 3) := by decide +kernel
theorem dX5_told_95 : decode cX5_told 95 = .ok (.getfield 133, 3) := by decide +kernel
theorem dX5_told_98 : decode cX5_told 98 = .ok (.ireturn, 1) := by decide +kernel
theorem dX5_told_99 : decode cX5_told 99 = .ok (.aload_n 0, 1) := by decide +kernel
theorem dX5_told_100 : decode cX5_told 100 = .ok (.getfield 26, 3) := by decide +kernel
theorem dX5_told_103 : decode cX5_told 103 = .ok (.getfield 115, 3) := by decide +kernel
theorem dX5_told_106 : decode cX5_told 106 = .ok (.getfield 136, 3) := by decide +kernel
theorem dX5_told_109 : decode cX5_told 109 = .ok (.invokestatic 139, 3) := by decide +kernel
theorem dX5_told_112 : decode cX5_told 112 = .ok (.ireturn, 1) := by decide +kernel
theorem dX5_told_113 : decode cX5_told 113 = .ok (.aload_n 0, 1) := by decide +kernel
theorem dX5_told_114 : decode cX5_told 114 = .ok (.getfield 26, 3) := by decide +kernel
theorem dX5_told_117 : decode cX5_told 117 = .ok (.getfield 143, 3) := by decide +kernel
theorem dX5_told_120 : decode cX5_told 120 = .ok (.invokestatic 139, 3) := by decide +kernel
theorem dX5_told_123 : decode cX5_told 123 = .ok (.ireturn, 1) := by decide +kernel
theorem dX5_told_124 : decode cX5_told 124 = .ok (.bipush (-2), 2) := by decide +kernel
theorem dX5_told_126 : decode cX5_told 126 = .ok (.ireturn, 1) := by decide +kernel
theorem dX5_part_0 : decode cX5_part 0 = .ok (.iload_n 1, 1) := by decide +kernel
theorem dX5_part_1 : decode cX5_part 1 = .ok (.invokestatic 109, 3) := by decide +kernel
theorem dX5_part_4 : decode cX5_part 4 = .ok (.ifCond .eq 15, 3) := by decide +kernel
theorem dX5_part_7 : decode cX5_part 7 = .ok (.aload_n 0, 1) := by decide +kernel
theorem dX5_part_8 : decode cX5_part 8 = .ok (.getfield 26, 3) := by decide +kernel
theorem dX5_part_11 : decode cX5_part 11 = .ok (.getfield 143, 3) := by decide +kernel
theorem dX5_part_14 : decode cX5_part 14 = .ok (.iload_n 1, 1) := by decide +kernel
theorem dX5_part_15 : decode cX5_part 15 = .ok (.iaload, 1) := by decide +kernel
theorem dX5_part_16 : decode cX5_part 16 = .ok (.goto 4, 3) := by decide +kernel
theorem dX5_part_19 : decode cX5_part 19 = .ok (.iconst (-1), 1) := by decide +kernel
theorem dX5_part_20 : decode cX5_part 20 = .ok (.ireturn, 1) := by decide +kernel
theorem dX5_name_0 : decode cX5_name 0 = .ok (.iload_n 1, 1) := by decide +kernel
theorem dX5_name_1 : decode cX5_name 1 = .ok (.invokestatic 146, 3) := by decide +kernel
theorem dX5_name_4 : decode cX5_name 4 = .ok (.ifCond .ne 5, 3) := by decide +kernel
theorem dX5_name_7 : decode cX5_name 7 = .ok (.iconst (-1), 1) := by decide +kernel
theorem dX5_name_8 : decode cX5_name 8 = .ok (.ireturn, 1) := by decide +kernel
theorem dX5_name_9 : decode cX5_name 9 = .ok (.iload_n 2, 1) := by decide +kernel
theorem dX5_name_10 : decode cX5_name 10 = .ok (.ifCond .eq 18, 3) := by decide +kernel
theorem dX5_name_13 : decode cX5_name 13 = .ok (.aload_n 0, 1) := by decide +kernel
theorem dX5_name_14 : decode cX5_name 14 = .ok (.getfield 26, 3) := by decide +kernel
theorem dX5_name_17 : decode cX5_name 17 = .ok (.getfield 115, 3) := by decide +kernel
theorem dX5_name_20 : decode cX5_name 20 = .ok (.getfield 149, 3) := by decide +kernel
theorem dX5_name_23 : decode cX5_name 23 = .ok (.iload_n 1, 1) := by decide +kernel
theorem dX5_name_24 : decode cX5_name 24 = .ok (.iaload, 1) := by decide +kernel
theorem dX5_name_25 : decode cX5_name 25 = .ok (.goto 15, 3) := by decide +kernel
theorem dX5_name_28 : decode cX5_name 28 = .ok (.aload_n 0, 1) := by decide +kernel
theorem dX5_name_29 : decode cX5_name 29 = .ok (.getfield 26, 3) := by decide +kernel
theorem dX5_name_32 : decode cX5_name 32 = .ok (.getfield 115, 3) := by decide +kernel
theorem dX5_name_35 : decode cX5_name 35 = .ok (.getfield 136, 3) := by decide +kernel
theorem dX5_name_38 : decode cX5_name 38 = .ok (.iload_n 1, 1) := by decide +kernel
theorem dX5_name_39 : decode cX5_name 39 = .ok (.iaload, 1) := by decide +kernel
theorem dX5_name_40 : decode cX5_name 40 = .ok (.ireturn, 1) := by decide +kernel
theorem dX5_list_0 : decode cX5_list 0 = .ok (.aload_n 0, 1) := by decide +kernel
theorem dX5_list_1 : decode cX5_list 1 = .ok (.getfield 26, 3) := by decide +kernel
theorem dX5_list_4 : decode cX5_list 4 = .ok (.getfield 115, 3) := by decide +kernel
theorem dX5_list_7 : decode cX5_list 7 = .ok (.iload_n 1, 1) := by decide +kernel
theorem dX5_list_8 : decode cX5_list 8 = .ok (.invokevirtual 152, 3) := by decide +kernel
theorem dX5_list_11 : decode cX5_list 11 = .ok (.istore_n 3, 1) := by decide +kernel
theorem dX5_list_12 : decode cX5_list 12 = .ok (.iload_n 3, 1) := by decide +kernel
theorem dX5_list_13 : decode cX5_list 13 = .ok (.ifCond .ge 6, 3) := by decide +kernel
theorem dX5_list_16 : decode cX5_list 16 = .ok (.bipush (-9), 2) := by decide +kernel
theorem dX5_list_18 : decode cX5_list 18 = .ok (.ireturn, 1) := by decide +kernel
theorem dX5_list_19 : decode cX5_list 19 = .ok (.iload_n 2, 1) := by decide +kernel
theorem dX5_list_20 : decode cX5_list 20 = .ok (.ifCond .eq 18, 3) := by decide +kernel
theorem dX5_list_23 : decode cX5_list 23 = .ok (.aload_n 0, 1) := by decide +kernel
theorem dX5_list_24 : decode cX5_list 24 = .ok (.getfield 26, 3) := by decide +kernel
theorem dX5_list_27 : decode cX5_list 27 = .ok (.getfield 115, 3) := by decide +kernel
theorem dX5_list_30 : decode cX5_list 30 = .ok (.getfield 155, 3) := by decide +kernel
theorem dX5_list_33 : decode cX5_list 33 = .ok (.iload_n 3, 1) := by decide +kernel
theorem dX5_list_34 : decode cX5_list 34 = .ok (.iaload, 1) := by decide +kernel
theorem dX5_list_35 : decode cX5_list 35 = .ok (.goto 15, 3) := by decide +kernel
theorem dX5_list_38 : decode cX5_list 38 = .ok (.aload_n 0, 1) := by decide +kernel
theorem dX5_list_39 : decode cX5_list 39 = .ok (.getfield 26, 3) := by decide +kernel
theorem dX5_list_42 : decode cX5_list 42 = .ok (.getfield 115, 3) := by decide +kernel
theorem dX5_list_45 : decode cX5_list 45 = .ok (.getfield 158, 3) := by decide +kernel
theorem dX5_list_48 : decode cX5_list 48 = .ok (.iload_n 3, 1) := by decide +kernel
theorem dX5_list_49 : decode cX5_list 49 = .ok (.iaload, 1) := by decide +kernel
theorem dX5_list_50 : decode cX5_list 50 = .ok (.ireturn, 1) := by decide +kernel
theorem dX5_word_0 : decode cX5_word 0 = .ok (.iload_n 1, 1) := by decide +kernel
theorem dX5_word_1 : decode cX5_word 1 = .ok (.invokestatic 109, 3) := by decide +kernel
theorem dX5_word_4 : decode cX5_word 4 = .ok (.ifCond .ne 5, 3) := by decide +kernel
theorem dX5_word_7 : decode cX5_word 7 = .ok (.iconst (-1), 1) := by decide +kernel
theorem dX5_word_8 : decode cX5_word 8 = .ok (.ireturn, 1) := by decide +kernel
theorem dX5_word_9 : decode cX5_word 9 = .ok (.iload_n 2, 1) := by decide +kernel
theorem dX5_word_10 : decode cX5_word 10 = .ok (.invokestatic 161, 3) := by decide +kernel
theorem dX5_word_13 : decode cX5_word 13 = .ok (.ifCond .eq 15, 3) := by decide +kernel
theorem dX5_word_16 : decode cX5_word 16 = .ok (.aload_n 0, 1) := by decide +kernel
theorem dX5_word_17 : decode cX5_word 17 = .ok (.getfield 19, 3) := by decide +kernel
theorem dX5_word_20 : decode cX5_word 20 = .ok (.iload_n 1, 1) := by decide +kernel
theorem dX5_word_21 : decode cX5_word 21 = .ok (.iload_n 2, 1) := by decide +kernel
theorem dX5_word_22 : decode cX5_word 22 = .ok (.invokevirtual 164, 3) := by decide +kernel
theorem dX5_word_25 : decode cX5_word 25 = .ok (.goto 5, 3) := by decide +kernel
theorem dX5_word_28 : decode cX5_word 28 = .ok (.bipush (-2), 2) := by decide +kernel
theorem dX5_word_30 : decode cX5_word 30 = .ok (.ireturn, 1) := by decide +kernel
theorem dX5_rest_0 : decode cX5_rest 0 = .ok (.iload_n 1, 1) := by decide +kernel
theorem dX5_rest_1 : decode cX5_rest 1 = .ok (.invokestatic 109, 3) := by decide +kernel
theorem dX5_rest_4 : decode cX5_rest 4 = .ok (.ifCond .ne 5, 3) := by decide +kernel
theorem dX5_rest_7 : decode cX5_rest 7 = .ok (.iconst (-1), 1) := by decide +kernel
theorem dX5_rest_8 : decode cX5_rest 8 = .ok (.ireturn, 1) := by decide +kernel
theorem dX5_rest_9 : decode cX5_rest 9 = .ok (.iload_n 2, 1) := by decide +kernel
theorem dX5_rest_10 : decode cX5_rest 10 = .ok (.invokestatic 168, 3) := by decide +kernel
theorem dX5_rest_13 : decode cX5_rest 13 = .ok (.ifCond .eq 15, 3) := by decide +kernel
theorem dX5_rest_16 : decode cX5_rest 16 = .ok (.aload_n 0, 1) := by decide +kernel
theorem dX5_rest_17 : decode cX5_rest 17 = .ok (.getfield 19, 3) := by decide +kernel
theorem dX5_rest_20 : decode cX5_rest 20 = .ok (.iload_n 1, 1) := by decide +kernel
theorem dX5_rest_21 : decode cX5_rest 21 = .ok (.iload_n 2, 1) := by decide +kernel
theorem dX5_rest_22 : decode cX5_rest 22 = .ok (.invokevirtual 171, 3) := by decide +kernel
theorem dX5_rest_25 : decode cX5_rest 25 = .ok (.goto 5, 3) := by decide +kernel
theorem dX5_rest_28 : decode cX5_rest 28 = .ok (.bipush (-2), 2) := by decide +kernel
theorem dX5_rest_30 : decode cX5_rest 30 = .ok (.ireturn, 1) := by decide +kernel
theorem dX5_mended_0 : decode cX5_mended 0 = .ok (.iload_n 1, 1) := by decide +kernel
theorem dX5_mended_1 : decode cX5_mended 1 = .ok (.invokestatic 109, 3) := by decide +kernel
theorem dX5_mended_4 : decode cX5_mended 4 = .ok (.ifCond .ne 5, 3) := by decide +kernel
theorem dX5_mended_7 : decode cX5_mended 7 = .ok (.iconst (-1), 1) := by decide +kernel
theorem dX5_mended_8 : decode cX5_mended 8 = .ok (.ireturn, 1) := by decide +kernel
theorem dX5_mended_9 : decode cX5_mended 9 = .ok (.iload_n 2, 1) := by decide +kernel
theorem dX5_mended_10 : decode cX5_mended 10 = .ok (.invokestatic 168, 3) := by decide +kernel
theorem dX5_mended_13 : decode cX5_mended 13 = .ok (.ifCond .ne 6, 3) := by decide +kernel
theorem dX5_mended_16 : decode cX5_mended 16 = .ok (.bipush (-2), 2) := by decide +kernel
theorem dX5_mended_18 : decode cX5_mended 18 = .ok (.ireturn, 1) := by decide +kernel
theorem dX5_mended_19 : decode cX5_mended 19 = .ok (.aload_n 0, 1) := by decide +kernel
theorem dX5_mended_20 : decode cX5_mended 20 = .ok (.getfield 19, 3) := by decide +kernel
theorem dX5_mended_23 : decode cX5_mended 23 = .ok (.iload_n 2, 1) := by decide +kernel
theorem dX5_mended_24 : decode cX5_mended 24 = .ok (.aload_n 0, 1) := by decide +kernel
theorem dX5_mended_25 : decode cX5_mended 25 = .ok (.getfield 19, 3) := by decide +kernel
theorem dX5_mended_28 : decode cX5_mended 28 = .ok (.iload_n 1, 1) := by decide +kernel
theorem dX5_mended_29 : decode cX5_mended 29 = .ok (.iload_n 2, 1) := by decide +kernel
theorem dX5_mended_30 : decode cX5_mended 30 = .ok (.invokevirtual 171, 3) := by decide +kernel
theorem dX5_mended_33 : decode cX5_mended 33 = .ok (.invokevirtual 174, 3) := by decide +kernel
theorem dX5_mended_36 : decode cX5_mended 36 = .ok (.istore_n 3, 1) := by decide +kernel
theorem dX5_mended_37 : decode cX5_mended 37 = .ok (.iload_n 3, 1) := by decide +kernel
theorem dX5_mended_38 : decode cX5_mended 38 = .ok (.bipush (-9), 2) := by decide +kernel
theorem dX5_mended_40 : decode cX5_mended 40 = .ok (.if_icmp .ne 8, 3) := by decide +kernel
theorem dX5_mended_43 : decode cX5_mended 43 = .ok (.bipush (-9), 2) := by decide +kernel
theorem dX5_mended_45 : decode cX5_mended 45 = .ok (.goto 7, 3) := by decide +kernel
theorem dX5_mended_48 : decode cX5_mended 48 = .ok (.iload_n 3, 1) := by decide +kernel
theorem dX5_mended_49 : decode cX5_mended 49 = .ok (.bipush 6, 2) := by decide +kernel
theorem dX5_mended_51 : decode cX5_mended 51 = .ok (.ishr, 1) := by decide +kernel
theorem dX5_mended_52 : decode cX5_mended 52 = .ok (.ireturn, 1) := by decide +kernel
theorem dX5_distance_0 : decode cX5_distance 0 = .ok (.bipush 14, 2) := by decide +kernel
theorem dX5_distance_2 : decode cX5_distance 2 = .ok (.istore_n 1, 1) := by decide +kernel
theorem dX5_distance_3 : decode cX5_distance 3 = .ok (.iconst 1, 1) := by decide +kernel
theorem dX5_distance_4 : decode cX5_distance 4 = .ok (.istore_n 2, 1) := by decide +kernel
theorem dX5_distance_5 : decode cX5_distance 5 = .ok (.iload_n 2, 1) := by decide +kernel
theorem dX5_distance_6 : decode cX5_distance 6 = .ok (.sipush 256, 3) := by decide +kernel
theorem dX5_distance_9 : decode cX5_distance 9 = .ok (.if_icmp .ge 25, 3) := by decide +kernel
theorem dX5_distance_12 : decode cX5_distance 12 = .ok (.iload_n 1, 1) := by decide +kernel
theorem dX5_distance_13 : decode cX5_distance 13 = .ok (.aload_n 0, 1) := by decide +kernel
theorem dX5_distance_14 : decode cX5_distance 14 = .ok (.getfield 19, 3) := by decide +kernel
theorem dX5_distance_17 : decode cX5_distance 17 = .ok (.iload_n 2, 1) := by decide +kernel
theorem dX5_distance_18 : decode cX5_distance 18 = .ok (.invokevirtual 177, 3) := by decide +kernel
theorem dX5_distance_21 : decode cX5_distance 21 = .ok (.invokestatic 180, 3) := by decide +kernel
theorem dX5_distance_24 : decode cX5_distance 24 = .ok (.invokestatic 185, 3) := by decide +kernel
theorem dX5_distance_27 : decode cX5_distance 27 = .ok (.istore_n 1, 1) := by decide +kernel
theorem dX5_distance_28 : decode cX5_distance 28 = .ok (.iinc 2 1, 3) := by decide +kernel
theorem dX5_distance_31 : decode cX5_distance 31 = .ok (.goto (-26), 3) := by decide +kernel
theorem dX5_distance_34 : decode cX5_distance 34 = .ok (.iload_n 1, 1) := by decide +kernel
theorem dX5_distance_35 : decode cX5_distance 35 = .ok (.ireturn, 1) := by decide +kernel
theorem dX5_flips_0 : decode cX5_flips 0 = .ok (.iload_n 1, 1) := by decide +kernel
theorem dX5_flips_1 : decode cX5_flips 1 = .ok (.ifCond .lt 17, 3) := by decide +kernel
theorem dX5_flips_4 : decode cX5_flips 4 = .ok (.iload_n 1, 1) := by decide +kernel
theorem dX5_flips_5 : decode cX5_flips 5 = .ok (.iconst 4, 1) := by decide +kernel
theorem dX5_flips_6 : decode cX5_flips 6 = .ok (.if_icmp .gt 12, 3) := by decide +kernel
theorem dX5_flips_9 : decode cX5_flips 9 = .ok (.iload_n 2, 1) := by decide +kernel
theorem dX5_flips_10 : decode cX5_flips 10 = .ok (.ifCond .lt 8, 3) := by decide +kernel
theorem dX5_flips_13 : decode cX5_flips 13 = .ok (.iload_n 2, 1) := by decide +kernel
theorem dX5_flips_14 : decode cX5_flips 14 = .ok (.iconst 3, 1) := by decide +kernel
theorem dX5_flips_15 : decode cX5_flips 15 = .ok (.if_icmp .le 6, 3) := by decide +kernel
theorem dX5_flips_18 : decode cX5_flips 18 = .ok (.bipush (-2), 2) := by decide +kernel
theorem dX5_flips_20 : decode cX5_flips 20 = .ok (.ireturn, 1) := by decide +kernel
theorem dX5_flips_21 : decode cX5_flips 21 = .ok (.aload_n 0, 1) := by decide +kernel
theorem dX5_flips_22 : decode cX5_flips 22 = .ok (.getfield 19, 3) := by decide +kernel
theorem dX5_flips_25 : decode cX5_flips 25 = .ok (.iload_n 2, 1) := by decide +kernel
theorem dX5_flips_26 : decode cX5_flips 26 = .ok (.iload_n 1, 1) := by decide +kernel
theorem dX5_flips_27 : decode cX5_flips 27 = .ok (.iconst 0, 1) := by decide +kernel
theorem dX5_flips_28 : decode cX5_flips 28 = .ok (.iconst 0, 1) := by decide +kernel
theorem dX5_flips_29 : decode cX5_flips 29 = .ok (.invokestatic 190, 3) := by decide +kernel
theorem dX5_flips_32 : decode cX5_flips 32 = .ok (.ireturn, 1) := by decide +kernel
theorem dX5_slips_0 : decode cX5_slips 0 = .ok (.iload_n 1, 1) := by decide +kernel
theorem dX5_slips_1 : decode cX5_slips 1 = .ok (.invokestatic 109, 3) := by decide +kernel
theorem dX5_slips_4 : decode cX5_slips 4 = .ok (.ifCond .ne 5, 3) := by decide +kernel
theorem dX5_slips_7 : decode cX5_slips 7 = .ok (.iconst (-1), 1) := by decide +kernel
theorem dX5_slips_8 : decode cX5_slips 8 = .ok (.ireturn, 1) := by decide +kernel
theorem dX5_slips_9 : decode cX5_slips 9 = .ok (.iload_n 2, 1) := by decide +kernel
theorem dX5_slips_10 : decode cX5_slips 10 = .ok (.invokestatic 161, 3) := by decide +kernel
theorem dX5_slips_13 : decode cX5_slips 13 = .ok (.ifCond .eq 10, 3) := by decide +kernel
theorem dX5_slips_16 : decode cX5_slips 16 = .ok (.iload_n 3, 1) := by decide +kernel
theorem dX5_slips_17 : decode cX5_slips 17 = .ok (.invokestatic 161, 3) := by decide +kernel
theorem dX5_slips_20 : decode cX5_slips 20 = .ok (.ifCond .ne 6, 3) := by decide +kernel
theorem dX5_slips_23 : decode cX5_slips 23 = .ok (.bipush (-2), 2) := by decide +kernel
theorem dX5_slips_25 : decode cX5_slips 25 = .ok (.ireturn, 1) := by decide +kernel
theorem dX5_slips_26 : decode cX5_slips 26 = .ok (.aload_n 0, 1) := by decide +kernel
theorem dX5_slips_27 : decode cX5_slips 27 = .ok (.getfield 19, 3) := by decide +kernel
theorem dX5_slips_30 : decode cX5_slips 30 = .ok (.iload_n 1, 1) := by decide +kernel
theorem dX5_slips_31 : decode cX5_slips 31 = .ok (.iload_n 2, 1) := by decide +kernel
theorem dX5_slips_32 : decode cX5_slips 32 = .ok (.invokevirtual 164, 3) := by decide +kernel
theorem dX5_slips_35 : decode cX5_slips 35 = .ok (.bipush 14, 2) := by decide +kernel
theorem dX5_slips_37 : decode cX5_slips 37 = .ok (.ishl, 1) := by decide +kernel
theorem dX5_slips_38 : decode cX5_slips 38 = .ok (.aload_n 0, 1) := by decide +kernel
theorem dX5_slips_39 : decode cX5_slips 39 = .ok (.getfield 19, 3) := by decide +kernel
theorem dX5_slips_42 : decode cX5_slips 42 = .ok (.iload_n 1, 1) := by decide +kernel
theorem dX5_slips_43 : decode cX5_slips 43 = .ok (.invokestatic 194, 3) := by decide +kernel
theorem dX5_slips_46 : decode cX5_slips 46 = .ok (.iload_n 3, 1) := by decide +kernel
theorem dX5_slips_47 : decode cX5_slips 47 = .ok (.invokevirtual 164, 3) := by decide +kernel
theorem dX5_slips_50 : decode cX5_slips 50 = .ok (.ior, 1) := by decide +kernel
theorem dX5_slips_51 : decode cX5_slips 51 = .ok (.istore 4, 2) := by decide +kernel
theorem dX5_slips_53 : decode cX5_slips 53 = .ok (.iconst 0, 1) := by decide +kernel
theorem dX5_slips_54 : decode cX5_slips 54 = .ok (.istore 5, 2) := by decide +kernel
theorem dX5_slips_56 : decode cX5_slips 56 = .ok (.iconst 1, 1) := by decide +kernel
theorem dX5_slips_57 : decode cX5_slips 57 = .ok (.istore 6, 2) := by decide +kernel
theorem dX5_slips_59 : decode cX5_slips 59 = .ok (.iload 6, 2) := by decide +kernel
theorem dX5_slips_61 : decode cX5_slips 61 = .ok (.bipush 14, 2) := by decide +kernel
theorem dX5_slips_63 : decode cX5_slips 63 = .ok (.if_icmp .ge 42, 3) := by decide +kernel
theorem dX5_slips_66 : decode cX5_slips 66 = .ok (.aload_n 0, 1) := by decide +kernel
theorem dX5_slips_67 : decode cX5_slips 67 = .ok (.getfield 19, 3) := by decide +kernel
theorem dX5_slips_70 : decode cX5_slips 70 = .ok (.iload 4, 2) := by decide +kernel
theorem dX5_slips_72 : decode cX5_slips 72 = .ok (.bipush 14, 2) := by decide +kernel
theorem dX5_slips_74 : decode cX5_slips 74 = .ok (.iload 6, 2) := by decide +kernel
theorem dX5_slips_76 : decode cX5_slips 76 = .ok (.isub, 1) := by decide +kernel
theorem dX5_slips_77 : decode cX5_slips 77 = .ok (.ishr, 1) := by decide +kernel
theorem dX5_slips_78 : decode cX5_slips 78 = .ok (.sipush 16383, 3) := by decide +kernel
theorem dX5_slips_81 : decode cX5_slips 81 = .ok (.iand, 1) := by decide +kernel
theorem dX5_slips_82 : decode cX5_slips 82 = .ok (.invokevirtual 197, 3) := by decide +kernel
theorem dX5_slips_85 : decode cX5_slips 85 = .ok (.bipush (-9), 2) := by decide +kernel
theorem dX5_slips_87 : decode cX5_slips 87 = .ok (.if_icmp .eq 12, 3) := by decide +kernel
theorem dX5_slips_90 : decode cX5_slips 90 = .ok (.iload 5, 2) := by decide +kernel
theorem dX5_slips_92 : decode cX5_slips 92 = .ok (.iconst 1, 1) := by decide +kernel
theorem dX5_slips_93 : decode cX5_slips 93 = .ok (.iload 6, 2) := by decide +kernel
theorem dX5_slips_95 : decode cX5_slips 95 = .ok (.ishl, 1) := by decide +kernel
theorem dX5_slips_96 : decode cX5_slips 96 = .ok (.ior, 1) := by decide +kernel
theorem dX5_slips_97 : decode cX5_slips 97 = .ok (.istore 5, 2) := by decide +kernel
theorem dX5_slips_99 : decode cX5_slips 99 = .ok (.iinc 6 1, 3) := by decide +kernel
theorem dX5_slips_102 : decode cX5_slips 102 = .ok (.goto (-43), 3) := by decide +kernel
theorem dX5_slips_105 : decode cX5_slips 105 = .ok (.iload 5, 2) := by decide +kernel
theorem dX5_slips_107 : decode cX5_slips 107 = .ok (.ireturn, 1) := by decide +kernel
theorem dX5_bits_0 : decode cX5_bits 0 = .ok (.iload_n 1, 1) := by decide +kernel
theorem dX5_bits_1 : decode cX5_bits 1 = .ok (.iconst 1, 1) := by decide +kernel
theorem dX5_bits_2 : decode cX5_bits 2 = .ok (.if_icmp .lt 19, 3) := by decide +kernel
theorem dX5_bits_5 : decode cX5_bits 5 = .ok (.iload_n 1, 1) := by decide +kernel
theorem dX5_bits_6 : decode cX5_bits 6 = .ok (.bipush 14, 2) := by decide +kernel
theorem dX5_bits_8 : decode cX5_bits 8 = .ok (.if_icmp .gt 13, 3) := by decide +kernel
theorem dX5_bits_11 : decode cX5_bits 11 = .ok (.iload_n 2, 1) := by decide +kernel
theorem dX5_bits_12 : decode cX5_bits 12 = .ok (.ifCond .lt 9, 3) := by decide +kernel
theorem dX5_bits_15 : decode cX5_bits 15 = .ok (.iload_n 2, 1) := by decide +kernel
theorem dX5_bits_16 : decode cX5_bits 16 = .ok (.iload_n 1, 1) := by decide +kernel
theorem dX5_bits_17 : decode cX5_bits 17 = .ok (.ishr, 1) := by decide +kernel
theorem dX5_bits_18 : decode cX5_bits 18 = .ok (.ifCond .eq 6, 3) := by decide +kernel
theorem dX5_bits_21 : decode cX5_bits 21 = .ok (.bipush (-2), 2) := by decide +kernel
theorem dX5_bits_23 : decode cX5_bits 23 = .ok (.ireturn, 1) := by decide +kernel
theorem dX5_bits_24 : decode cX5_bits 24 = .ok (.aload_n 0, 1) := by decide +kernel
theorem dX5_bits_25 : decode cX5_bits 25 = .ok (.getfield 33, 3) := by decide +kernel
theorem dX5_bits_28 : decode cX5_bits 28 = .ok (.aload_n 0, 1) := by decide +kernel
theorem dX5_bits_29 : decode cX5_bits 29 = .ok (.getfield 26, 3) := by decide +kernel
theorem dX5_bits_32 : decode cX5_bits 32 = .ok (.invokevirtual 200, 3) := by decide +kernel
theorem dX5_bits_35 : decode cX5_bits 35 = .ok (.aload_n 0, 1) := by decide +kernel
theorem dX5_bits_36 : decode cX5_bits 36 = .ok (.getfield 26, 3) := by decide +kernel
theorem dX5_bits_39 : decode cX5_bits 39 = .ok (.aload_n 0, 1) := by decide +kernel
theorem dX5_bits_40 : decode cX5_bits 40 = .ok (.getfield 19, 3) := by decide +kernel
theorem dX5_bits_43 : decode cX5_bits 43 = .ok (.iload_n 2, 1) := by decide +kernel
theorem dX5_bits_44 : decode cX5_bits 44 = .ok (.i2l, 1) := by decide +kernel
theorem dX5_bits_45 : decode cX5_bits 45 = .ok (.iload_n 1, 1) := by decide +kernel
theorem dX5_bits_46 : decode cX5_bits 46 = .ok (.invokevirtual 204, 3) := by decide +kernel
theorem dX5_bits_49 : decode cX5_bits 49 = .ok (.aload_n 0, 1) := by decide +kernel
theorem dX5_bits_50 : decode cX5_bits 50 = .ok (.getfield 26, 3) := by decide +kernel
theorem dX5_bits_53 : decode cX5_bits 53 = .ok (.invokevirtual 208, 3) := by decide +kernel
theorem dX5_bits_56 : decode cX5_bits 56 = .ok (.ireturn, 1) := by decide +kernel
theorem dX5_hear_0 : decode cX5_hear 0 = .ok (.iload_n 1, 1) := by decide +kernel
theorem dX5_hear_1 : decode cX5_hear 1 = .ok (.invokestatic 109, 3) := by decide +kernel
theorem dX5_hear_4 : decode cX5_hear 4 = .ok (.ifCond .ne 5, 3) := by decide +kernel
theorem dX5_hear_7 : decode cX5_hear 7 = .ok (.iconst (-1), 1) := by decide +kernel
theorem dX5_hear_8 : decode cX5_hear 8 = .ok (.ireturn, 1) := by decide +kernel
theorem dX5_hear_9 : decode cX5_hear 9 = .ok (.iload_n 2, 1) := by decide +kernel
theorem dX5_hear_10 : decode cX5_hear 10 = .ok (.invokestatic 161, 3) := by decide +kernel
theorem dX5_hear_13 : decode cX5_hear 13 = .ok (.ifCond .eq 10, 3) := by decide +kernel
theorem dX5_hear_16 : decode cX5_hear 16 = .ok (.iload_n 3, 1) := by decide +kernel
theorem dX5_hear_17 : decode cX5_hear 17 = .ok (.invokestatic 168, 3) := by decide +kernel
theorem dX5_hear_20 : decode cX5_hear 20 = .ok (.ifCond .ne 6, 3) := by decide +kernel
theorem dX5_hear_23 : decode cX5_hear 23 = .ok (.bipush (-2), 2) := by decide +kernel
theorem dX5_hear_25 : decode cX5_hear 25 = .ok (.ireturn, 1) := by decide +kernel
theorem dX5_hear_26 : decode cX5_hear 26 = .ok (.aload_n 0, 1) := by decide +kernel
theorem dX5_hear_27 : decode cX5_hear 27 = .ok (.getfield 33, 3) := by decide +kernel
theorem dX5_hear_30 : decode cX5_hear 30 = .ok (.aload_n 0, 1) := by decide +kernel
theorem dX5_hear_31 : decode cX5_hear 31 = .ok (.getfield 26, 3) := by decide +kernel
theorem dX5_hear_34 : decode cX5_hear 34 = .ok (.invokevirtual 200, 3) := by decide +kernel
theorem dX5_hear_37 : decode cX5_hear 37 = .ok (.aload_n 0, 1) := by decide +kernel
theorem dX5_hear_38 : decode cX5_hear 38 = .ok (.getfield 26, 3) := by decide +kernel
theorem dX5_hear_41 : decode cX5_hear 41 = .ok (.aload_n 0, 1) := by decide +kernel
theorem dX5_hear_42 : decode cX5_hear 42 = .ok (.getfield 19, 3) := by decide +kernel
theorem dX5_hear_45 : decode cX5_hear 45 = .ok (.aload_n 0, 1) := by decide +kernel
theorem dX5_hear_46 : decode cX5_hear 46 = .ok (.getfield 19, 3) := by decide +kernel
theorem dX5_hear_49 : decode cX5_hear 49 = .ok (.iload_n 1, 1) := by decide +kernel
theorem dX5_hear_50 : decode cX5_hear 50 = .ok (.iload_n 2, 1) := by decide +kernel
theorem dX5_hear_51 : decode cX5_hear 51 = .ok (.invokevirtual 164, 3) := by decide +kernel
theorem dX5_hear_54 : decode cX5_hear 54 = .ok (.iload_n 3, 1) := by decide +kernel
theorem dX5_hear_55 : decode cX5_hear 55 = .ok (.ixor, 1) := by decide +kernel
theorem dX5_hear_56 : decode cX5_hear 56 = .ok (.i2l, 1) := by decide +kernel
theorem dX5_hear_57 : decode cX5_hear 57 = .ok (.bipush 14, 2) := by decide +kernel
theorem dX5_hear_59 : decode cX5_hear 59 = .ok (.invokevirtual 204, 3) := by decide +kernel
theorem dX5_hear_62 : decode cX5_hear 62 = .ok (.aload_n 0, 1) := by decide +kernel
theorem dX5_hear_63 : decode cX5_hear 63 = .ok (.getfield 26, 3) := by decide +kernel
theorem dX5_hear_66 : decode cX5_hear 66 = .ok (.invokevirtual 208, 3) := by decide +kernel
theorem dX5_hear_69 : decode cX5_hear 69 = .ok (.ireturn, 1) := by decide +kernel
theorem dX5_group_0 : decode cX5_group 0 = .ok (.iload_n 2, 1) := by decide +kernel
theorem dX5_group_1 : decode cX5_group 1 = .ok (.iconst 1, 1) := by decide +kernel
theorem dX5_group_2 : decode cX5_group 2 = .ok (.if_icmp .lt 9, 3) := by decide +kernel
theorem dX5_group_5 : decode cX5_group 5 = .ok (.iload_n 2, 1) := by decide +kernel
theorem dX5_group_6 : decode cX5_group 6 = .ok (.bipush 9, 2) := by decide +kernel
theorem dX5_group_8 : decode cX5_group 8 = .ok (.if_icmp .le 6, 3) := by decide +kernel
theorem dX5_group_11 : decode cX5_group 11 = .ok (.bipush (-2), 2) := by decide +kernel
theorem dX5_group_13 : decode cX5_group 13 = .ok (.ireturn, 1) := by decide +kernel
theorem dX5_group_14 : decode cX5_group 14 = .ok (.aload_n 0, 1) := by decide +kernel
theorem dX5_group_15 : decode cX5_group 15 = .ok (.getfield 33, 3) := by decide +kernel
theorem dX5_group_18 : decode cX5_group 18 = .ok (.aload_n 0, 1) := by decide +kernel
theorem dX5_group_19 : decode cX5_group 19 = .ok (.getfield 26, 3) := by decide +kernel
theorem dX5_group_22 : decode cX5_group 22 = .ok (.invokevirtual 200, 3) := by decide +kernel
theorem dX5_group_25 : decode cX5_group 25 = .ok (.aload_n 0, 1) := by decide +kernel
theorem dX5_group_26 : decode cX5_group 26 = .ok (.getfield 26, 3) := by decide +kernel
theorem dX5_group_29 : decode cX5_group 29 = .ok (.getfield 211, 3) := by decide +kernel
theorem dX5_group_32 : decode cX5_group 32 = .ok (.aload_n 0, 1) := by decide +kernel
theorem dX5_group_33 : decode cX5_group 33 = .ok (.getfield 26, 3) := by decide +kernel
theorem dX5_group_36 : decode cX5_group 36 = .ok (.getfield 214, 3) := by decide +kernel
theorem dX5_group_39 : decode cX5_group 39 = .ok (.iadd, 1) := by decide +kernel
theorem dX5_group_40 : decode cX5_group 40 = .ok (.istore_n 3, 1) := by decide +kernel
theorem dX5_group_41 : decode cX5_group 41 = .ok (.aload_n 0, 1) := by decide +kernel
theorem dX5_group_42 : decode cX5_group 42 = .ok (.aload_n 0, 1) := by decide +kernel
theorem dX5_group_43 : decode cX5_group 43 = .ok (.getfield 26, 3) := by decide +kernel
theorem dX5_group_46 : decode cX5_group 46 = .ok (.iload_n 1, 1) := by decide +kernel
theorem dX5_group_47 : decode cX5_group 47 = .ok (.iload_n 2, 1) := by decide +kernel
theorem dX5_group_48 : decode cX5_group 48 = .ok (.invokevirtual 217, 3) := by decide +kernel
theorem dX5_group_51 : decode cX5_group 51 = .ok (.aload_n 0, 1) := by decide +kernel
theorem dX5_group_52 : decode cX5_group 52 = .ok (.getfield 26, 3) := by decide +kernel
theorem dX5_group_55 : decode cX5_group 55 = .ok (.getfield 211, 3) := by decide +kernel
theorem dX5_group_58 : decode cX5_group 58 = .ok (.aload_n 0, 1) := by decide +kernel
theorem dX5_group_59 : decode cX5_group 59 = .ok (.getfield 26, 3) := by decide +kernel
theorem dX5_group_62 : decode cX5_group 62 = .ok (.getfield 214, 3) := by decide +kernel
theorem dX5_group_65 : decode cX5_group 65 = .ok (.iadd, 1) := by decide +kernel
theorem dX5_group_66 : decode cX5_group 66 = .ok (.iload_n 3, 1) := by decide +kernel
theorem dX5_group_67 : decode cX5_group 67 = .ok (.isub, 1) := by decide +kernel
theorem dX5_group_68 : decode cX5_group 68 = .ok (.ireturn, 1) := by decide +kernel
theorem dX5_reset_0 : decode cX5_reset 0 = .ok (.aload_n 0, 1) := by decide +kernel
theorem dX5_reset_1 : decode cX5_reset 1 = .ok (.getfield 26, 3) := by decide +kernel
theorem dX5_reset_4 : decode cX5_reset 4 = .ok (.invokevirtual 208, 3) := by decide +kernel
theorem dX5_reset_7 : decode cX5_reset 7 = .ok (.istore_n 1, 1) := by decide +kernel
theorem dX5_reset_8 : decode cX5_reset 8 = .ok (.aload_n 0, 1) := by decide +kernel
theorem dX5_reset_9 : decode cX5_reset 9 = .ok (.getfield 33, 3) := by decide +kernel
theorem dX5_reset_12 : decode cX5_reset 12 = .ok (.aload_n 0, 1) := by decide +kernel
theorem dX5_reset_13 : decode cX5_reset 13 = .ok (.getfield 26, 3) := by decide +kernel
theorem dX5_reset_16 : decode cX5_reset 16 = .ok (.invokevirtual 200, 3) := by decide +kernel
theorem dX5_reset_19 : decode cX5_reset 19 = .ok (.aload_n 0, 1) := by decide +kernel
theorem dX5_reset_20 : decode cX5_reset 20 = .ok (.getfield 26, 3) := by decide +kernel
theorem dX5_reset_23 : decode cX5_reset 23 = .ok (.invokevirtual 221, 3) := by decide +kernel
theorem dX5_reset_26 : decode cX5_reset 26 = .ok (.iload_n 1, 1) := by decide +kernel
theorem dX5_reset_27 : decode cX5_reset 27 = .ok (.ireturn, 1) := by decide +kernel
theorem dX5_undo_0 : decode cX5_undo 0 = .ok (.aload_n 0, 1) := by decide +kernel
theorem dX5_undo_1 : decode cX5_undo 1 = .ok (.getfield 33, 3) := by decide +kernel
theorem dX5_undo_4 : decode cX5_undo 4 = .ok (.aload_n 0, 1) := by decide +kernel
theorem dX5_undo_5 : decode cX5_undo 5 = .ok (.getfield 26, 3) := by decide +kernel
theorem dX5_undo_8 : decode cX5_undo 8 = .ok (.invokevirtual 224, 3) := by decide +kernel
theorem dX5_undo_11 : decode cX5_undo 11 = .ok (.ifCond .eq 13, 3) := by decide +kernel
theorem dX5_undo_14 : decode cX5_undo 14 = .ok (.aload_n 0, 1) := by decide +kernel
theorem dX5_undo_15 : decode cX5_undo 15 = .ok (.getfield 33, 3) := by decide +kernel
theorem dX5_undo_18 : decode cX5_undo 18 = .ok (.getfield 96, 3) := by decide +kernel
theorem dX5_undo_21 : decode cX5_undo 21 = .ok (.goto 5, 3) := by decide +kernel
theorem dX5_undo_24 : decode cX5_undo 24 = .ok (.bipush (-3), 2) := by decide +kernel
theorem dX5_undo_26 : decode cX5_undo 26 = .ok (.ireturn, 1) := by decide +kernel
theorem dX5_ahead_0 : decode cX5_ahead 0 = .ok (.iload_n 2, 1) := by decide +kernel
theorem dX5_ahead_1 : decode cX5_ahead 1 = .ok (.ifCond .lt 20, 3) := by decide +kernel
theorem dX5_ahead_4 : decode cX5_ahead 4 = .ok (.iload_n 2, 1) := by decide +kernel
theorem dX5_ahead_5 : decode cX5_ahead 5 = .ok (.bipush 9, 2) := by decide +kernel
theorem dX5_ahead_7 : decode cX5_ahead 7 = .ok (.if_icmp .gt 14, 3) := by decide +kernel
theorem dX5_ahead_10 : decode cX5_ahead 10 = .ok (.iload_n 3, 1) := by decide +kernel
theorem dX5_ahead_11 : decode cX5_ahead 11 = .ok (.iconst 3, 1) := by decide +kernel
theorem dX5_ahead_12 : decode cX5_ahead 12 = .ok (.if_icmp .lt 9, 3) := by decide +kernel
theorem dX5_ahead_15 : decode cX5_ahead 15 = .ok (.iload_n 3, 1) := by decide +kernel
theorem dX5_ahead_16 : decode cX5_ahead 16 = .ok (.bipush 12, 2) := by decide +kernel
theorem dX5_ahead_18 : decode cX5_ahead 18 = .ok (.if_icmp .le 6, 3) := by decide +kernel
theorem dX5_ahead_21 : decode cX5_ahead 21 = .ok (.bipush (-2), 2) := by decide +kernel
theorem dX5_ahead_23 : decode cX5_ahead 23 = .ok (.ireturn, 1) := by decide +kernel
theorem dX5_ahead_24 : decode cX5_ahead 24 = .ok (.aload_n 0, 1) := by decide +kernel
theorem dX5_ahead_25 : decode cX5_ahead 25 = .ok (.invokevirtual 228, 3) := by decide +kernel
theorem dX5_ahead_28 : decode cX5_ahead 28 = .ok (.astore 4, 2) := by decide +kernel
theorem dX5_ahead_30 : decode cX5_ahead 30 = .ok (.aload_n 0, 1) := by decide +kernel
theorem dX5_ahead_31 : decode cX5_ahead 31 = .ok (.aload 4, 2) := by decide +kernel
theorem dX5_ahead_33 : decode cX5_ahead 33 = .ok (.iload_n 1, 1) := by decide +kernel
theorem dX5_ahead_34 : decode cX5_ahead 34 = .ok (.iload_n 2, 1) := by decide +kernel
theorem dX5_ahead_35 : decode cX5_ahead 35 = .ok (.invokevirtual 217, 3) := by decide +kernel
theorem dX5_ahead_38 : decode cX5_ahead 38 = .ok (.aload 4, 2) := by decide +kernel
theorem dX5_ahead_40 : decode cX5_ahead 40 = .ok (.iload_n 3, 1) := by decide +kernel
theorem dX5_ahead_41 : decode cX5_ahead 41 = .ok (.invokevirtual 105, 3) := by decide +kernel
theorem dX5_ahead_44 : decode cX5_ahead 44 = .ok (.ireturn, 1) := by decide +kernel
theorem dX5_needs_0 : decode cX5_needs 0 = .ok (.aload_n 0, 1) := by decide +kernel
theorem dX5_needs_1 : decode cX5_needs 1 = .ok (.invokevirtual 228, 3) := by decide +kernel
theorem dX5_needs_4 : decode cX5_needs 4 = .ok (.astore_n 2, 1) := by decide +kernel
theorem dX5_needs_5 : decode cX5_needs 5 = .ok (.aload_n 0, 1) := by decide +kernel
theorem dX5_needs_6 : decode cX5_needs 6 = .ok (.getfield 19, 3) := by decide +kernel
theorem dX5_needs_9 : decode cX5_needs 9 = .ok (.iload_n 1, 1) := by decide +kernel
theorem dX5_needs_10 : decode cX5_needs 10 = .ok (.invokevirtual 232, 3) := by decide +kernel
theorem dX5_needs_13 : decode cX5_needs 13 = .ok (.lstore_n 3, 1) := by decide +kernel
theorem dX5_needs_14 : decode cX5_needs 14 = .ok (.iconst 0, 1) := by decide +kernel
theorem dX5_needs_15 : decode cX5_needs 15 = .ok (.istore 5, 2) := by decide +kernel
theorem dX5_needs_17 : decode cX5_needs 17 = .ok (.iload 5, 2) := by decide +kernel
theorem dX5_needs_19 : decode cX5_needs 19 = .ok (.bipush 9, 2) := by decide +kernel
theorem dX5_needs_21 : decode cX5_needs 21 = .ok (.if_icmp .gt 37, 3) := by decide +kernel
theorem dX5_needs_24 : decode cX5_needs 24 = .ok (.aload_n 2, 1) := by decide +kernel
theorem dX5_needs_25 : decode cX5_needs 25 = .ok (.getfield 236, 3) := by decide +kernel
theorem dX5_needs_28 : decode cX5_needs 28 = .ok (.ifCond .eq 6, 3) := by decide +kernel
theorem dX5_needs_31 : decode cX5_needs 31 = .ok (.iload 5, 2) := by decide +kernel
theorem dX5_needs_33 : decode cX5_needs 33 = .ok (.ireturn, 1) := by decide +kernel
theorem dX5_needs_34 : decode cX5_needs 34 = .ok (.iload 5, 2) := by decide +kernel
theorem dX5_needs_36 : decode cX5_needs 36 = .ok (.bipush 9, 2) := by decide +kernel
theorem dX5_needs_38 : decode cX5_needs 38 = .ok (.if_icmp .ge 14, 3) := by decide +kernel
theorem dX5_needs_41 : decode cX5_needs 41 = .ok (.aload_n 2, 1) := by decide +kernel
theorem dX5_needs_42 : decode cX5_needs 42 = .ok (.aload_n 0, 1) := by decide +kernel
theorem dX5_needs_43 : decode cX5_needs 43 = .ok (.getfield 19, 3) := by decide +kernel
theorem dX5_needs_46 : decode cX5_needs 46 = .ok (.lload_n 3, 1) := by decide +kernel
theorem dX5_needs_47 : decode cX5_needs 47 = .ok (.bipush 56, 2) := by decide +kernel
theorem dX5_needs_49 : decode cX5_needs 49 = .ok (.invokevirtual 204, 3) := by decide +kernel
theorem dX5_needs_52 : decode cX5_needs 52 = .ok (.iinc 5 1, 3) := by decide +kernel
theorem dX5_needs_55 : decode cX5_needs 55 = .ok (.goto (-38), 3) := by decide +kernel
theorem dX5_needs_58 : decode cX5_needs 58 = .ok (.bipush (-9), 2) := by decide +kernel
theorem dX5_needs_60 : decode cX5_needs 60 = .ok (.ireturn, 1) := by decide +kernel
theorem dX5_judge_0 : decode cX5_judge 0 = .ok (.iload_n 1, 1) := by decide +kernel
theorem dX5_judge_1 : decode cX5_judge 1 = .ok (.iconst 1, 1) := by decide +kernel
theorem dX5_judge_2 : decode cX5_judge 2 = .ok (.if_icmp .lt 24, 3) := by decide +kernel
theorem dX5_judge_5 : decode cX5_judge 5 = .ok (.iload_n 1, 1) := by decide +kernel
theorem dX5_judge_6 : decode cX5_judge 6 = .ok (.iconst 3, 1) := by decide +kernel
theorem dX5_judge_7 : decode cX5_judge 7 = .ok (.if_icmp .gt 19, 3) := by decide +kernel
theorem dX5_judge_10 : decode cX5_judge 10 = .ok (.lload_n 2, 1) := by decide +kernel
theorem dX5_judge_11 : decode cX5_judge 11 = .ok (.lconst 0, 1) := by decide +kernel
theorem dX5_judge_12 : decode cX5_judge 12 = .ok (.lcmp, 1) := by decide +kernel
theorem dX5_judge_13 : decode cX5_judge 13 = .ok (.ifCond .lt 13, 3) := by decide +kernel
theorem dX5_judge_16 : decode cX5_judge 16 = .ok (.lload_n 2, 1) := by decide +kernel
theorem dX5_judge_17 : decode cX5_judge 17 = .ok (.iload_n 1, 1) := by decide +kernel
theorem dX5_judge_18 : decode cX5_judge 18 = .ok (.invokestatic 240, 3) := by decide +kernel
theorem dX5_judge_21 : decode cX5_judge 21 = .ok (.lconst 0, 1) := by decide +kernel
theorem dX5_judge_22 : decode cX5_judge 22 = .ok (.lcmp, 1) := by decide +kernel
theorem dX5_judge_23 : decode cX5_judge 23 = .ok (.ifCond .eq 6, 3) := by decide +kernel
theorem dX5_judge_26 : decode cX5_judge 26 = .ok (.bipush (-2), 2) := by decide +kernel
theorem dX5_judge_28 : decode cX5_judge 28 = .ok (.ireturn, 1) := by decide +kernel
theorem dX5_judge_29 : decode cX5_judge 29 = .ok (.aload_n 0, 1) := by decide +kernel
theorem dX5_judge_30 : decode cX5_judge 30 = .ok (.invokevirtual 228, 3) := by decide +kernel
theorem dX5_judge_33 : decode cX5_judge 33 = .ok (.astore 4, 2) := by decide +kernel
theorem dX5_judge_35 : decode cX5_judge 35 = .ok (.iconst 0, 1) := by decide +kernel
theorem dX5_judge_36 : decode cX5_judge 36 = .ok (.istore 5, 2) := by decide +kernel
theorem dX5_judge_38 : decode cX5_judge 38 = .ok (.iload 5, 2) := by decide +kernel
theorem dX5_judge_40 : decode cX5_judge 40 = .ok (.iload_n 1, 1) := by decide +kernel
theorem dX5_judge_41 : decode cX5_judge 41 = .ok (.if_icmp .ge 40, 3) := by decide +kernel
theorem dX5_judge_44 : decode cX5_judge 44 = .ok (.lload_n 2, 1) := by decide +kernel
theorem dX5_judge_45 : decode cX5_judge 45 = .ok (.iload_n 1, 1) := by decide +kernel
theorem dX5_judge_46 : decode cX5_judge 46 = .ok (.iconst 1, 1) := by decide +kernel
theorem dX5_judge_47 : decode cX5_judge 47 = .ok (.isub, 1) := by decide +kernel
theorem dX5_judge_48 : decode cX5_judge 48 = .ok (.iload 5, 2) := by decide +kernel
theorem dX5_judge_50 : decode cX5_judge 50 = .ok (.isub, 1) := by decide +kernel
theorem dX5_judge_51 : decode cX5_judge 51 = .ok (.invokestatic 240, 3) := by decide +kernel
theorem dX5_judge_54 : decode cX5_judge 54 = .ok (.ldc2_w 244, 3) := by decide +kernel
theorem dX5_judge_57 : decode cX5_judge 57 = .ok (.lrem, 1) := by decide +kernel
theorem dX5_judge_58 : decode cX5_judge 58 = .ok (.l2i, 1) := by decide +kernel
theorem dX5_judge_59 : decode cX5_judge 59 = .ok (.istore 6, 2) := by decide +kernel
theorem dX5_judge_61 : decode cX5_judge 61 = .ok (.aload_n 0, 1) := by decide +kernel
theorem dX5_judge_62 : decode cX5_judge 62 = .ok (.aload 4, 2) := by decide +kernel
theorem dX5_judge_64 : decode cX5_judge 64 = .ok (.iload 6, 2) := by decide +kernel
theorem dX5_judge_66 : decode cX5_judge 66 = .ok (.invokevirtual 246, 3) := by decide +kernel
theorem dX5_judge_69 : decode cX5_judge 69 = .ok (.ifCond .ne 6, 3) := by decide +kernel
theorem dX5_judge_72 : decode cX5_judge 72 = .ok (.iload 5, 2) := by decide +kernel
theorem dX5_judge_74 : decode cX5_judge 74 = .ok (.ireturn, 1) := by decide +kernel
theorem dX5_judge_75 : decode cX5_judge 75 = .ok (.iinc 5 1, 3) := by decide +kernel
theorem dX5_judge_78 : decode cX5_judge 78 = .ok (.goto (-40), 3) := by decide +kernel
theorem dX5_judge_81 : decode cX5_judge 81 = .ok (.bipush (-9), 2) := by decide +kernel
theorem dX5_judge_83 : decode cX5_judge 83 = .ok (.ireturn, 1) := by decide +kernel
theorem dX5_see_0 : decode cX5_see 0 = .ok (.iload_n 2, 1) := by decide +kernel
theorem dX5_see_1 : decode cX5_see 1 = .ok (.ifCond .lt 18, 3) := by decide +kernel
theorem dX5_see_4 : decode cX5_see 4 = .ok (.iload_n 2, 1) := by decide +kernel
theorem dX5_see_5 : decode cX5_see 5 = .ok (.iconst 2, 1) := by decide +kernel
theorem dX5_see_6 : decode cX5_see 6 = .ok (.if_icmp .gt 13, 3) := by decide +kernel
theorem dX5_see_9 : decode cX5_see 9 = .ok (.iload_n 3, 1) := by decide +kernel
theorem dX5_see_10 : decode cX5_see 10 = .ok (.ifCond .lt 9, 3) := by decide +kernel
theorem dX5_see_13 : decode cX5_see 13 = .ok (.iload_n 3, 1) := by decide +kernel
theorem dX5_see_14 : decode cX5_see 14 = .ok (.bipush 9, 2) := by decide +kernel
theorem dX5_see_16 : decode cX5_see 16 = .ok (.if_icmp .le 6, 3) := by decide +kernel
theorem dX5_see_19 : decode cX5_see 19 = .ok (.bipush (-2), 2) := by decide +kernel
theorem dX5_see_21 : decode cX5_see 21 = .ok (.ireturn, 1) := by decide +kernel
theorem dX5_see_22 : decode cX5_see 22 = .ok (.aload_n 0, 1) := by decide +kernel
theorem dX5_see_23 : decode cX5_see 23 = .ok (.getfield 58, 3) := by decide +kernel
theorem dX5_see_26 : decode cX5_see 26 = .ok (.iconst 4, 1) := by decide +kernel
theorem dX5_see_27 : decode cX5_see 27 = .ok (.if_icmp .lt 6, 3) := by decide +kernel
theorem dX5_see_30 : decode cX5_see 30 = .ok (.bipush (-4), 2) := by decide +kernel
theorem dX5_see_32 : decode cX5_see 32 = .ok (.ireturn, 1) := by decide +kernel
theorem dX5_see_33 : decode cX5_see 33 = .ok (.aload_n 0, 1) := by decide +kernel
theorem dX5_see_34 : decode cX5_see 34 = .ok (.getfield 48, 3) := by decide +kernel
theorem dX5_see_37 : decode cX5_see 37 = .ok (.aload_n 0, 1) := by decide +kernel
theorem dX5_see_38 : decode cX5_see 38 = .ok (.getfield 58, 3) := by decide +kernel
theorem dX5_see_41 : decode cX5_see 41 = .ok (.iload_n 1, 1) := by decide +kernel
theorem dX5_see_42 : decode cX5_see 42 = .ok (.iastore, 1) := by decide +kernel
theorem dX5_see_43 : decode cX5_see 43 = .ok (.aload_n 0, 1) := by decide +kernel
theorem dX5_see_44 : decode cX5_see 44 = .ok (.getfield 52, 3) := by decide +kernel
theorem dX5_see_47 : decode cX5_see 47 = .ok (.aload_n 0, 1) := by decide +kernel
theorem dX5_see_48 : decode cX5_see 48 = .ok (.getfield 58, 3) := by decide +kernel
theorem dX5_see_51 : decode cX5_see 51 = .ok (.iload_n 2, 1) := by decide +kernel
theorem dX5_see_52 : decode cX5_see 52 = .ok (.iastore, 1) := by decide +kernel
theorem dX5_see_53 : decode cX5_see 53 = .ok (.aload_n 0, 1) := by decide +kernel
theorem dX5_see_54 : decode cX5_see 54 = .ok (.getfield 55, 3) := by decide +kernel
theorem dX5_see_57 : decode cX5_see 57 = .ok (.aload_n 0, 1) := by decide +kernel
theorem dX5_see_58 : decode cX5_see 58 = .ok (.getfield 58, 3) := by decide +kernel
theorem dX5_see_61 : decode cX5_see 61 = .ok (.iload_n 3, 1) := by decide +kernel
theorem dX5_see_62 : decode cX5_see 62 = .ok (.iastore, 1) := by decide +kernel
theorem dX5_see_63 : decode cX5_see 63 = .ok (.aload_n 0, 1) := by decide +kernel
theorem dX5_see_64 : decode cX5_see 64 = .ok (.dup, 1) := by decide +kernel
theorem dX5_see_65 : decode cX5_see 65 = .ok (.getfield 58, 3) := by decide +kernel
theorem dX5_see_68 : decode cX5_see 68 = .ok (.iconst 1, 1) := by decide +kernel
theorem dX5_see_69 : decode cX5_see 69 = .ok (.iadd, 1) := by decide +kernel
theorem dX5_see_70 : decode cX5_see 70 = .ok (.putfield 58, 3) := by decide +kernel
theorem dX5_see_73 : decode cX5_see 73 = .ok (.aload_n 0, 1) := by decide +kernel
theorem dX5_see_74 : decode cX5_see 74 = .ok (.getfield 58, 3) := by decide +kernel
theorem dX5_see_77 : decode cX5_see 77 = .ok (.ireturn, 1) := by decide +kernel
theorem dX5_unsee_0 : decode cX5_unsee 0 = .ok (.aload_n 0, 1) := by decide +kernel
theorem dX5_unsee_1 : decode cX5_unsee 1 = .ok (.getfield 58, 3) := by decide +kernel
theorem dX5_unsee_4 : decode cX5_unsee 4 = .ok (.istore_n 1, 1) := by decide +kernel
theorem dX5_unsee_5 : decode cX5_unsee 5 = .ok (.aload_n 0, 1) := by decide +kernel
theorem dX5_unsee_6 : decode cX5_unsee 6 = .ok (.iconst 0, 1) := by decide +kernel
theorem dX5_unsee_7 : decode cX5_unsee 7 = .ok (.putfield 58, 3) := by decide +kernel
theorem dX5_unsee_10 : decode cX5_unsee 10 = .ok (.iload_n 1, 1) := by decide +kernel
theorem dX5_unsee_11 : decode cX5_unsee 11 = .ok (.ireturn, 1) := by decide +kernel
theorem dX5_which_0 : decode cX5_which 0 = .ok (.ldc2_w 250, 3) := by decide +kernel
theorem dX5_which_3 : decode cX5_which 3 = .ok (.lstore_n 1, 1) := by decide +kernel
theorem dX5_which_4 : decode cX5_which 4 = .ok (.iconst 0, 1) := by decide +kernel
theorem dX5_which_5 : decode cX5_which 5 = .ok (.istore_n 3, 1) := by decide +kernel
theorem dX5_which_6 : decode cX5_which 6 = .ok (.iload_n 3, 1) := by decide +kernel
theorem dX5_which_7 : decode cX5_which 7 = .ok (.aload_n 0, 1) := by decide +kernel
theorem dX5_which_8 : decode cX5_which 8 = .ok (.getfield 58, 3) := by decide +kernel
theorem dX5_which_11 : decode cX5_which 11 = .ok (.if_icmp .ge 16, 3) := by decide +kernel
theorem dX5_which_14 : decode cX5_which 14 = .ok (.aload_n 0, 1) := by decide +kernel
theorem dX5_which_15 : decode cX5_which 15 = .ok (.iload_n 3, 1) := by decide +kernel
theorem dX5_which_16 : decode cX5_which 16 = .ok (.lload_n 1, 1) := by decide +kernel
theorem dX5_which_17 : decode cX5_which 17 = .ok (.invokevirtual 252, 3) := by decide +kernel
theorem dX5_which_20 : decode cX5_which 20 = .ok (.lstore_n 1, 1) := by decide +kernel
theorem dX5_which_21 : decode cX5_which 21 = .ok (.iinc 3 1, 3) := by decide +kernel
theorem dX5_which_24 : decode cX5_which 24 = .ok (.goto (-18), 3) := by decide +kernel
theorem dX5_which_27 : decode cX5_which 27 = .ok (.lload_n 1, 1) := by decide +kernel
theorem dX5_which_28 : decode cX5_which 28 = .ok (.lreturn, 1) := by decide +kernel
theorem dX5_share_0 : decode cX5_share 0 = .ok (.iload_n 2, 1) := by decide +kernel
theorem dX5_share_1 : decode cX5_share 1 = .ok (.invokestatic 109, 3) := by decide +kernel
theorem dX5_share_4 : decode cX5_share 4 = .ok (.ifCond .ne 5, 3) := by decide +kernel
theorem dX5_share_7 : decode cX5_share 7 = .ok (.iconst (-1), 1) := by decide +kernel
theorem dX5_share_8 : decode cX5_share 8 = .ok (.ireturn, 1) := by decide +kernel
theorem dX5_share_9 : decode cX5_share 9 = .ok (.iconst 0, 1) := by decide +kernel
theorem dX5_share_10 : decode cX5_share 10 = .ok (.istore 4, 2) := by decide +kernel
theorem dX5_share_12 : decode cX5_share 12 = .ok (.iconst 0, 1) := by decide +kernel
theorem dX5_share_13 : decode cX5_share 13 = .ok (.istore 5, 2) := by decide +kernel
theorem dX5_share_15 : decode cX5_share 15 = .ok (.iload 5, 2) := by decide +kernel
theorem dX5_share_17 : decode cX5_share 17 = .ok (.bipush 16, 2) := by decide +kernel
theorem dX5_share_19 : decode cX5_share 19 = .ok (.if_icmp .ge 58, 3) := by decide +kernel
theorem dX5_share_22 : decode cX5_share 22 = .ok (.iload 5, 2) := by decide +kernel
theorem dX5_share_24 : decode cX5_share 24 = .ok (.iload_n 2, 1) := by decide +kernel
theorem dX5_share_25 : decode cX5_share 25 = .ok (.ishr, 1) := by decide +kernel
theorem dX5_share_26 : decode cX5_share 26 = .ok (.iconst 1, 1) := by decide +kernel
theorem dX5_share_27 : decode cX5_share 27 = .ok (.iand, 1) := by decide +kernel
theorem dX5_share_28 : decode cX5_share 28 = .ok (.ifCond .ne 43, 3) := by decide +kernel
theorem dX5_share_31 : decode cX5_share 31 = .ok (.aload_n 0, 1) := by decide +kernel
theorem dX5_share_32 : decode cX5_share 32 = .ok (.iload_n 1, 1) := by decide +kernel
theorem dX5_share_33 : decode cX5_share 33 = .ok (.iload 5, 2) := by decide +kernel
theorem dX5_share_35 : decode cX5_share 35 = .ok (.iconst 1, 1) := by decide +kernel
theorem dX5_share_36 : decode cX5_share 36 = .ok (.iload_n 2, 1) := by decide +kernel
theorem dX5_share_37 : decode cX5_share 37 = .ok (.ishl, 1) := by decide +kernel
theorem dX5_share_38 : decode cX5_share 38 = .ok (.ior, 1) := by decide +kernel
theorem dX5_share_39 : decode cX5_share 39 = .ok (.invokevirtual 256, 3) := by decide +kernel
theorem dX5_share_42 : decode cX5_share 42 = .ok (.aload_n 0, 1) := by decide +kernel
theorem dX5_share_43 : decode cX5_share 43 = .ok (.iload_n 1, 1) := by decide +kernel
theorem dX5_share_44 : decode cX5_share 44 = .ok (.iload 5, 2) := by decide +kernel
theorem dX5_share_46 : decode cX5_share 46 = .ok (.invokevirtual 256, 3) := by decide +kernel
theorem dX5_share_49 : decode cX5_share 49 = .ok (.isub, 1) := by decide +kernel
theorem dX5_share_50 : decode cX5_share 50 = .ok (.istore 6, 2) := by decide +kernel
theorem dX5_share_52 : decode cX5_share 52 = .ok (.iload 4, 2) := by decide +kernel
theorem dX5_share_54 : decode cX5_share 54 = .ok (.getstatic 259, 3) := by decide +kernel
theorem dX5_share_57 : decode cX5_share 57 = .ok (.iload 5, 2) := by decide +kernel
theorem dX5_share_59 : decode cX5_share 59 = .ok (.invokestatic 180, 3) := by decide +kernel
theorem dX5_share_62 : decode cX5_share 62 = .ok (.iconst 3, 1) := by decide +kernel
theorem dX5_share_63 : decode cX5_share 63 = .ok (.iand, 1) := by decide +kernel
theorem dX5_share_64 : decode cX5_share 64 = .ok (.iaload, 1) := by decide +kernel
theorem dX5_share_65 : decode cX5_share 65 = .ok (.iload 6, 2) := by decide +kernel
theorem dX5_share_67 : decode cX5_share 67 = .ok (.imul, 1) := by decide +kernel
theorem dX5_share_68 : decode cX5_share 68 = .ok (.iadd, 1) := by decide +kernel
theorem dX5_share_69 : decode cX5_share 69 = .ok (.istore 4, 2) := by decide +kernel
theorem dX5_share_71 : decode cX5_share 71 = .ok (.iinc 5 1, 3) := by decide +kernel
theorem dX5_share_74 : decode cX5_share 74 = .ok (.goto (-59), 3) := by decide +kernel
theorem dX5_share_77 : decode cX5_share 77 = .ok (.iload 4, 2) := by decide +kernel
theorem dX5_share_79 : decode cX5_share 79 = .ok (.bipush 24, 2) := by decide +kernel
theorem dX5_share_81 : decode cX5_share 81 = .ok (.iload_n 3, 1) := by decide +kernel
theorem dX5_share_82 : decode cX5_share 82 = .ok (.invokestatic 262, 3) := by decide +kernel
theorem dX5_share_85 : decode cX5_share 85 = .ok (.ireturn, 1) := by decide +kernel
theorem dX5_chance_0 : decode cX5_chance 0 = .ok (.iload_n 2, 1) := by decide +kernel
theorem dX5_chance_1 : decode cX5_chance 1 = .ok (.iconst 1, 1) := by decide +kernel
theorem dX5_chance_2 : decode cX5_chance 2 = .ok (.if_icmp .lt 18, 3) := by decide +kernel
theorem dX5_chance_5 : decode cX5_chance 5 = .ok (.iload_n 2, 1) := by decide +kernel
theorem dX5_chance_6 : decode cX5_chance 6 = .ok (.iconst 2, 1) := by decide +kernel
theorem dX5_chance_7 : decode cX5_chance 7 = .ok (.if_icmp .gt 13, 3) := by decide +kernel
theorem dX5_chance_10 : decode cX5_chance 10 = .ok (.iload_n 3, 1) := by decide +kernel
theorem dX5_chance_11 : decode cX5_chance 11 = .ok (.ifCond .lt 9, 3) := by decide +kernel
theorem dX5_chance_14 : decode cX5_chance 14 = .ok (.iload_n 3, 1) := by decide +kernel
theorem dX5_chance_15 : decode cX5_chance 15 = .ok (.bipush 10, 2) := by decide +kernel
theorem dX5_chance_17 : decode cX5_chance 17 = .ok (.if_icmp .le 6, 3) := by decide +kernel
theorem dX5_chance_20 : decode cX5_chance 20 = .ok (.bipush (-2), 2) := by decide +kernel
theorem dX5_chance_22 : decode cX5_chance 22 = .ok (.ireturn, 1) := by decide +kernel
theorem dX5_chance_23 : decode cX5_chance 23 = .ok (.iload_n 2, 1) := by decide +kernel
theorem dX5_chance_24 : decode cX5_chance 24 = .ok (.iconst 4, 1) := by decide +kernel
theorem dX5_chance_25 : decode cX5_chance 25 = .ok (.imul, 1) := by decide +kernel
theorem dX5_chance_26 : decode cX5_chance 26 = .ok (.istore 5, 2) := by decide +kernel
theorem dX5_chance_28 : decode cX5_chance 28 = .ok (.iconst 1, 1) := by decide +kernel
theorem dX5_chance_29 : decode cX5_chance 29 = .ok (.istore 6, 2) := by decide +kernel
theorem dX5_chance_31 : decode cX5_chance 31 = .ok (.iconst 0, 1) := by decide +kernel
theorem dX5_chance_32 : decode cX5_chance 32 = .ok (.istore 7, 2) := by decide +kernel
theorem dX5_chance_34 : decode cX5_chance 34 = .ok (.iload 7, 2) := by decide +kernel
theorem dX5_chance_36 : decode cX5_chance 36 = .ok (.iload 5, 2) := by decide +kernel
theorem dX5_chance_38 : decode cX5_chance 38 = .ok (.if_icmp .ge 16, 3) := by decide +kernel
theorem dX5_chance_41 : decode cX5_chance 41 = .ok (.iload 6, 2) := by decide +kernel
theorem dX5_chance_43 : decode cX5_chance 43 = .ok (.bipush 10, 2) := by decide +kernel
theorem dX5_chance_45 : decode cX5_chance 45 = .ok (.imul, 1) := by decide +kernel
theorem dX5_chance_46 : decode cX5_chance 46 = .ok (.istore 6, 2) := by decide +kernel
theorem dX5_chance_48 : decode cX5_chance 48 = .ok (.iinc 7 1, 3) := by decide +kernel
theorem dX5_chance_51 : decode cX5_chance 51 = .ok (.goto (-17), 3) := by decide +kernel
theorem dX5_chance_54 : decode cX5_chance 54 = .ok (.aload_n 0, 1) := by decide +kernel
theorem dX5_chance_55 : decode cX5_chance 55 = .ok (.getfield 45, 3) := by decide +kernel
theorem dX5_chance_58 : decode cX5_chance 58 = .ok (.iconst 0, 1) := by decide +kernel
theorem dX5_chance_59 : decode cX5_chance 59 = .ok (.aaload, 1) := by decide +kernel
theorem dX5_chance_60 : decode cX5_chance 60 = .ok (.aload_n 0, 1) := by decide +kernel
theorem dX5_chance_61 : decode cX5_chance 61 = .ok (.getfield 26, 3) := by decide +kernel
theorem dX5_chance_64 : decode cX5_chance 64 = .ok (.invokevirtual 266, 3) := by decide +kernel
theorem dX5_chance_67 : decode cX5_chance 67 = .ok (.aload_n 0, 1) := by decide +kernel
theorem dX5_chance_68 : decode cX5_chance 68 = .ok (.getfield 19, 3) := by decide +kernel
theorem dX5_chance_71 : decode cX5_chance 71 = .ok (.aload_n 0, 1) := by decide +kernel
theorem dX5_chance_72 : decode cX5_chance 72 = .ok (.getfield 45, 3) := by decide +kernel
theorem dX5_chance_75 : decode cX5_chance 75 = .ok (.aload_n 0, 1) := by decide +kernel
theorem dX5_chance_76 : decode cX5_chance 76 = .ok (.getfield 19, 3) := by decide +kernel
theorem dX5_chance_79 : decode cX5_chance 79 = .ok (.iload_n 1, 1) := by decide +kernel
theorem dX5_chance_80 : decode cX5_chance 80 = .ok (.invokevirtual 232, 3) := by decide +kernel
theorem dX5_chance_83 : decode cX5_chance 83 = .ok (.iload_n 3, 1) := by decide +kernel
theorem dX5_chance_84 : decode cX5_chance 84 = .ok (.iload 5, 2) := by decide +kernel
theorem dX5_chance_86 : decode cX5_chance 86 = .ok (.iconst 0, 1) := by decide +kernel
theorem dX5_chance_87 : decode cX5_chance 87 = .ok (.invokestatic 269, 3) := by decide +kernel
theorem dX5_chance_90 : decode cX5_chance 90 = .ok (.iload 6, 2) := by decide +kernel
theorem dX5_chance_92 : decode cX5_chance 92 = .ok (.iload 4, 2) := by decide +kernel
theorem dX5_chance_94 : decode cX5_chance 94 = .ok (.invokestatic 262, 3) := by decide +kernel
theorem dX5_chance_97 : decode cX5_chance 97 = .ok (.ireturn, 1) := by decide +kernel
theorem dX5_seed_0 : decode cX5_seed 0 = .ok (.aload_n 0, 1) := by decide +kernel
theorem dX5_seed_1 : decode cX5_seed 1 = .ok (.getfield 62, 3) := by decide +kernel
theorem dX5_seed_4 : decode cX5_seed 4 = .ok (.lstore_n 3, 1) := by decide +kernel
theorem dX5_seed_5 : decode cX5_seed 5 = .ok (.aload_n 0, 1) := by decide +kernel
theorem dX5_seed_6 : decode cX5_seed 6 = .ok (.lload_n 1, 1) := by decide +kernel
theorem dX5_seed_7 : decode cX5_seed 7 = .ok (.putfield 62, 3) := by decide +kernel
theorem dX5_seed_10 : decode cX5_seed 10 = .ok (.lload_n 3, 1) := by decide +kernel
theorem dX5_seed_11 : decode cX5_seed 11 = .ok (.lreturn, 1) := by decide +kernel
theorem dX5_drawn_0 : decode cX5_drawn 0 = .ok (.iload_n 1, 1) := by decide +kernel
theorem dX5_drawn_1 : decode cX5_drawn 1 = .ok (.iconst 1, 1) := by decide +kernel
theorem dX5_drawn_2 : decode cX5_drawn 2 = .ok (.if_icmp .lt 9, 3) := by decide +kernel
theorem dX5_drawn_5 : decode cX5_drawn 5 = .ok (.iload_n 1, 1) := by decide +kernel
theorem dX5_drawn_6 : decode cX5_drawn 6 = .ok (.bipush 40, 2) := by decide +kernel
theorem dX5_drawn_8 : decode cX5_drawn 8 = .ok (.if_icmp .le 6, 3) := by decide +kernel
theorem dX5_drawn_11 : decode cX5_drawn 11 = .ok (.bipush (-2), 2) := by decide +kernel
theorem dX5_drawn_13 : decode cX5_drawn 13 = .ok (.ireturn, 1) := by decide +kernel
theorem dX5_drawn_14 : decode cX5_drawn 14 = .ok (.aload_n 0, 1) := by decide +kernel
theorem dX5_drawn_15 : decode cX5_drawn 15 = .ok (.invokevirtual 228, 3) := by decide +kernel
theorem dX5_drawn_18 : decode cX5_drawn 18 = .ok (.astore_n 2, 1) := by decide +kernel
theorem dX5_drawn_19 : decode cX5_drawn 19 = .ok (.iconst 0, 1) := by decide +kernel
theorem dX5_drawn_20 : decode cX5_drawn 20 = .ok (.istore_n 3, 1) := by decide +kernel
theorem dX5_drawn_21 : decode cX5_drawn 21 = .ok (.iconst 0, 1) := by decide +kernel
theorem dX5_drawn_22 : decode cX5_drawn 22 = .ok (.istore 4, 2) := by decide +kernel
theorem dX5_drawn_24 : decode cX5_drawn 24 = .ok (.iload 4, 2) := by decide +kernel
theorem dX5_drawn_26 : decode cX5_drawn 26 = .ok (.iload_n 1, 1) := by decide +kernel
theorem dX5_drawn_27 : decode cX5_drawn 27 = .ok (.if_icmp .ge 59, 3) := by decide +kernel
theorem dX5_drawn_30 : decode cX5_drawn 30 = .ok (.aload_n 0, 1) := by decide +kernel
theorem dX5_drawn_31 : decode cX5_drawn 31 = .ok (.aload_n 0, 1) := by decide +kernel
theorem dX5_drawn_32 : decode cX5_drawn 32 = .ok (.getfield 62, 3) := by decide +kernel
theorem dX5_drawn_35 : decode cX5_drawn 35 = .ok (.ldc2_w 273, 3) := by decide +kernel
theorem dX5_drawn_38 : decode cX5_drawn 38 = .ok (.lmul, 1) := by decide +kernel
theorem dX5_drawn_39 : decode cX5_drawn 39 = .ok (.ldc2_w 275, 3) := by decide +kernel
theorem dX5_drawn_42 : decode cX5_drawn 42 = .ok (.ladd, 1) := by decide +kernel
theorem dX5_drawn_43 : decode cX5_drawn 43 = .ok (.putfield 62, 3) := by decide +kernel
theorem dX5_drawn_46 : decode cX5_drawn 46 = .ok (.aload_n 2, 1) := by decide +kernel
theorem dX5_drawn_47 : decode cX5_drawn 47 = .ok (.aload_n 0, 1) := by decide +kernel
theorem dX5_drawn_48 : decode cX5_drawn 48 = .ok (.getfield 19, 3) := by decide +kernel
theorem dX5_drawn_51 : decode cX5_drawn 51 = .ok (.aload_n 0, 1) := by decide +kernel
theorem dX5_drawn_52 : decode cX5_drawn 52 = .ok (.aload_n 0, 1) := by decide +kernel
theorem dX5_drawn_53 : decode cX5_drawn 53 = .ok (.getfield 62, 3) := by decide +kernel
