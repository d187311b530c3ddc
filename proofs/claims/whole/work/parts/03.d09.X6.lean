theorem dX6_lookAt_128 : decode cX6_lookAt 128 = .ok (.goto 56, 3) := by decide +kernel
theorem dX6_lookAt_131 : decode cX6_lookAt 131 = .ok (.iload 5, 2) := by decide +kernel
theorem dX6_lookAt_133 : decode cX6_lookAt 133 = .ok (.ifCond .eq 51, 3) := by decide +kernel
theorem dX6_lookAt_136 : decode cX6_lookAt 136 = .ok (.iload_n 3, 1) := by decide +kernel
theorem dX6_lookAt_137 : decode cX6_lookAt 137 = .ok (.bipush 24, 2) := by decide +kernel
theorem dX6_lookAt_139 : decode cX6_lookAt 139 = .ok (.if_icmp .ge 45, 3) := by decide +kernel
theorem dX6_lookAt_142 : decode cX6_lookAt 142 = .ok (.iload 4, 2) := by decide +kernel
theorem dX6_lookAt_144 : decode cX6_lookAt 144 = .ok (.bipush 60, 2) := by decide +kernel
theorem dX6_lookAt_146 : decode cX6_lookAt 146 = .ok (.if_icmp .ge 38, 3) := by decide +kernel
theorem dX6_lookAt_149 : decode cX6_lookAt 149 = .ok (.aload_n 0, 1) := by decide +kernel
theorem dX6_lookAt_150 : decode cX6_lookAt 150 = .ok (.bipush 16, 2) := by decide +kernel
theorem dX6_lookAt_152 : decode cX6_lookAt 152 = .ok (.bipush 60, 2) := by decide +kernel
theorem dX6_lookAt_154 : decode cX6_lookAt 154 = .ok (.iload_n 3, 1) := by decide +kernel
theorem dX6_lookAt_155 : decode cX6_lookAt 155 = .ok (.imul, 1) := by decide +kernel
theorem dX6_lookAt_156 : decode cX6_lookAt 156 = .ok (.iload 4, 2) := by decide +kernel
theorem dX6_lookAt_158 : decode cX6_lookAt 158 = .ok (.iadd, 1) := by decide +kernel
theorem dX6_lookAt_159 : decode cX6_lookAt 159 = .ok (.iastore, 1) := by decide +kernel
theorem dX6_lookAt_160 : decode cX6_lookAt 160 = .ok (.goto 24, 3) := by decide +kernel
theorem dX6_lookAt_163 : decode cX6_lookAt 163 = .ok (.aload_n 0, 1) := by decide +kernel
theorem dX6_lookAt_164 : decode cX6_lookAt 164 = .ok (.iload_n 3, 1) := by decide +kernel
theorem dX6_lookAt_165 : decode cX6_lookAt 165 = .ok (.invokestatic 134, 3) := by decide +kernel
theorem dX6_lookAt_168 : decode cX6_lookAt 168 = .ok (.aload_n 0, 1) := by decide +kernel
theorem dX6_lookAt_169 : decode cX6_lookAt 169 = .ok (.iload 4, 2) := by decide +kernel
theorem dX6_lookAt_171 : decode cX6_lookAt 171 = .ok (.invokestatic 134, 3) := by decide +kernel
theorem dX6_lookAt_174 : decode cX6_lookAt 174 = .ok (.goto 10, 3) := by decide +kernel
theorem dX6_lookAt_177 : decode cX6_lookAt 177 = .ok (.aload_n 0, 1) := by decide +kernel
theorem dX6_lookAt_178 : decode cX6_lookAt 178 = .ok (.iload_n 2, 1) := by decide +kernel
theorem dX6_lookAt_179 : decode cX6_lookAt 179 = .ok (.iconst 2, 1) := by decide +kernel
theorem dX6_lookAt_180 : decode cX6_lookAt 180 = .ok (.irem, 1) := by decide +kernel
theorem dX6_lookAt_181 : decode cX6_lookAt 181 = .ok (.invokestatic 138, 3) := by decide +kernel
theorem dX6_lookAt_184 : decode cX6_lookAt 184 = .ok (.return_, 1) := by decide +kernel
theorem dX6_seek_0 : decode cX6_seek 0 = .ok (.aload_n 0, 1) := by decide +kernel
theorem dX6_seek_1 : decode cX6_seek 1 = .ok (.aload_n 1, 1) := by decide +kernel
theorem dX6_seek_2 : decode cX6_seek 2 = .ok (.iconst 1, 1) := by decide +kernel
theorem dX6_seek_3 : decode cX6_seek 3 = .ok (.iaload, 1) := by decide +kernel
theorem dX6_seek_4 : decode cX6_seek 4 = .ok (.invokevirtual 89, 3) := by decide +kernel
theorem dX6_seek_7 : decode cX6_seek 7 = .ok (.istore_n 2, 1) := by decide +kernel
theorem dX6_seek_8 : decode cX6_seek 8 = .ok (.iconst 0, 1) := by decide +kernel
theorem dX6_seek_9 : decode cX6_seek 9 = .ok (.istore_n 3, 1) := by decide +kernel
theorem dX6_seek_10 : decode cX6_seek 10 = .ok (.iload_n 3, 1) := by decide +kernel
theorem dX6_seek_11 : decode cX6_seek 11 = .ok (.iconst 4, 1) := by decide +kernel
theorem dX6_seek_12 : decode cX6_seek 12 = .ok (.if_icmp .ge 19, 3) := by decide +kernel
theorem dX6_seek_15 : decode cX6_seek 15 = .ok (.aload_n 0, 1) := by decide +kernel
theorem dX6_seek_16 : decode cX6_seek 16 = .ok (.getfield 13, 3) := by decide +kernel
theorem dX6_seek_19 : decode cX6_seek 19 = .ok (.iload_n 3, 1) := by decide +kernel
theorem dX6_seek_20 : decode cX6_seek 20 = .ok (.iaload, 1) := by decide +kernel
theorem dX6_seek_21 : decode cX6_seek 21 = .ok (.iload_n 2, 1) := by decide +kernel
theorem dX6_seek_22 : decode cX6_seek 22 = .ok (.if_icmp .eq 9, 3) := by decide +kernel
theorem dX6_seek_25 : decode cX6_seek 25 = .ok (.iinc 3 1, 3) := by decide +kernel
theorem dX6_seek_28 : decode cX6_seek 28 = .ok (.goto (-18), 3) := by decide +kernel
theorem dX6_seek_31 : decode cX6_seek 31 = .ok (.aload_n 1, 1) := by decide +kernel
theorem dX6_seek_32 : decode cX6_seek 32 = .ok (.iconst 2, 1) := by decide +kernel
theorem dX6_seek_33 : decode cX6_seek 33 = .ok (.iaload, 1) := by decide +kernel
theorem dX6_seek_34 : decode cX6_seek 34 = .ok (.bipush 14, 2) := by decide +kernel
theorem dX6_seek_36 : decode cX6_seek 36 = .ok (.if_icmp .lt 8, 3) := by decide +kernel
theorem dX6_seek_39 : decode cX6_seek 39 = .ok (.iload_n 3, 1) := by decide +kernel
theorem dX6_seek_40 : decode cX6_seek 40 = .ok (.iconst 4, 1) := by decide +kernel
theorem dX6_seek_41 : decode cX6_seek 41 = .ok (.if_icmp .ne 4, 3) := by decide +kernel
theorem dX6_seek_44 : decode cX6_seek 44 = .ok (.return_, 1) := by decide +kernel
theorem dX6_seek_45 : decode cX6_seek 45 = .ok (.aload_n 1, 1) := by decide +kernel
theorem dX6_seek_46 : decode cX6_seek 46 = .ok (.iconst 0, 1) := by decide +kernel
theorem dX6_seek_47 : decode cX6_seek 47 = .ok (.iaload, 1) := by decide +kernel
theorem dX6_seek_48 : decode cX6_seek 48 = .ok (.aload_n 1, 1) := by decide +kernel
theorem dX6_seek_49 : decode cX6_seek 49 = .ok (.bipush 8, 2) := by decide +kernel
theorem dX6_seek_51 : decode cX6_seek 51 = .ok (.iaload, 1) := by decide +kernel
theorem dX6_seek_52 : decode cX6_seek 52 = .ok (.isub, 1) := by decide +kernel
theorem dX6_seek_53 : decode cX6_seek 53 = .ok (.istore 4, 2) := by decide +kernel
theorem dX6_seek_55 : decode cX6_seek 55 = .ok (.aload_n 1, 1) := by decide +kernel
theorem dX6_seek_56 : decode cX6_seek 56 = .ok (.bipush 7, 2) := by decide +kernel
theorem dX6_seek_58 : decode cX6_seek 58 = .ok (.iaload, 1) := by decide +kernel
theorem dX6_seek_59 : decode cX6_seek 59 = .ok (.iconst 1, 1) := by decide +kernel
theorem dX6_seek_60 : decode cX6_seek 60 = .ok (.if_icmp .ne 47, 3) := by decide +kernel
theorem dX6_seek_63 : decode cX6_seek 63 = .ok (.iload 4, 2) := by decide +kernel
theorem dX6_seek_65 : decode cX6_seek 65 = .ok (.bipush 14, 2) := by decide +kernel
theorem dX6_seek_67 : decode cX6_seek 67 = .ok (.irem, 1) := by decide +kernel
theorem dX6_seek_68 : decode cX6_seek 68 = .ok (.ifCond .ne 39, 3) := by decide +kernel
theorem dX6_seek_71 : decode cX6_seek 71 = .ok (.iload 4, 2) := by decide +kernel
theorem dX6_seek_73 : decode cX6_seek 73 = .ok (.bipush 14, 2) := by decide +kernel
theorem dX6_seek_75 : decode cX6_seek 75 = .ok (.idiv, 1) := by decide +kernel
theorem dX6_seek_76 : decode cX6_seek 76 = .ok (.i2l, 1) := by decide +kernel
theorem dX6_seek_77 : decode cX6_seek 77 = .ok (.lconst 1, 1) := by decide +kernel
theorem dX6_seek_78 : decode cX6_seek 78 = .ok (.ldc2_w 141, 3) := by decide +kernel
theorem dX6_seek_81 : decode cX6_seek 81 = .ok (.invokestatic 68, 3) := by decide +kernel
theorem dX6_seek_84 : decode cX6_seek 84 = .ok (.ifCond .eq 23, 3) := by decide +kernel
theorem dX6_seek_87 : decode cX6_seek 87 = .ok (.iload_n 3, 1) := by decide +kernel
theorem dX6_seek_88 : decode cX6_seek 88 = .ok (.aload_n 1, 1) := by decide +kernel
theorem dX6_seek_89 : decode cX6_seek 89 = .ok (.bipush 9, 2) := by decide +kernel
theorem dX6_seek_91 : decode cX6_seek 91 = .ok (.iaload, 1) := by decide +kernel
theorem dX6_seek_92 : decode cX6_seek 92 = .ok (.iload 4, 2) := by decide +kernel
theorem dX6_seek_94 : decode cX6_seek 94 = .ok (.bipush 14, 2) := by decide +kernel
theorem dX6_seek_96 : decode cX6_seek 96 = .ok (.idiv, 1) := by decide +kernel
theorem dX6_seek_97 : decode cX6_seek 97 = .ok (.iadd, 1) := by decide +kernel
theorem dX6_seek_98 : decode cX6_seek 98 = .ok (.iconst 4, 1) := by decide +kernel
theorem dX6_seek_99 : decode cX6_seek 99 = .ok (.irem, 1) := by decide +kernel
theorem dX6_seek_100 : decode cX6_seek 100 = .ok (.if_icmp .ne 7, 3) := by decide +kernel
theorem dX6_seek_103 : decode cX6_seek 103 = .ok (.iconst 1, 1) := by decide +kernel
theorem dX6_seek_104 : decode cX6_seek 104 = .ok (.goto 4, 3) := by decide +kernel
theorem dX6_seek_107 : decode cX6_seek 107 = .ok (.iconst 0, 1) := by decide +kernel
theorem dX6_seek_108 : decode cX6_seek 108 = .ok (.istore 5, 2) := by decide +kernel
theorem dX6_seek_110 : decode cX6_seek 110 = .ok (.iload 5, 2) := by decide +kernel
theorem dX6_seek_112 : decode cX6_seek 112 = .ok (.ifCond .ne 21, 3) := by decide +kernel
theorem dX6_seek_115 : decode cX6_seek 115 = .ok (.aload_n 1, 1) := by decide +kernel
theorem dX6_seek_116 : decode cX6_seek 116 = .ok (.bipush 7, 2) := by decide +kernel
theorem dX6_seek_118 : decode cX6_seek 118 = .ok (.iconst 1, 1) := by decide +kernel
theorem dX6_seek_119 : decode cX6_seek 119 = .ok (.iastore, 1) := by decide +kernel
theorem dX6_seek_120 : decode cX6_seek 120 = .ok (.aload_n 1, 1) := by decide +kernel
theorem dX6_seek_121 : decode cX6_seek 121 = .ok (.bipush 8, 2) := by decide +kernel
theorem dX6_seek_123 : decode cX6_seek 123 = .ok (.aload_n 1, 1) := by decide +kernel
theorem dX6_seek_124 : decode cX6_seek 124 = .ok (.iconst 0, 1) := by decide +kernel
theorem dX6_seek_125 : decode cX6_seek 125 = .ok (.iaload, 1) := by decide +kernel
theorem dX6_seek_126 : decode cX6_seek 126 = .ok (.iastore, 1) := by decide +kernel
theorem dX6_seek_127 : decode cX6_seek 127 = .ok (.aload_n 1, 1) := by decide +kernel
theorem dX6_seek_128 : decode cX6_seek 128 = .ok (.bipush 9, 2) := by decide +kernel
theorem dX6_seek_130 : decode cX6_seek 130 = .ok (.iload_n 3, 1) := by decide +kernel
theorem dX6_seek_131 : decode cX6_seek 131 = .ok (.iastore, 1) := by decide +kernel
theorem dX6_seek_132 : decode cX6_seek 132 = .ok (.return_, 1) := by decide +kernel
theorem dX6_seek_133 : decode cX6_seek 133 = .ok (.aload_n 1, 1) := by decide +kernel
theorem dX6_seek_134 : decode cX6_seek 134 = .ok (.iconst 3, 1) := by decide +kernel
theorem dX6_seek_135 : decode cX6_seek 135 = .ok (.iconst 1, 1) := by decide +kernel
theorem dX6_seek_136 : decode cX6_seek 136 = .ok (.iastore, 1) := by decide +kernel
theorem dX6_seek_137 : decode cX6_seek 137 = .ok (.aload_n 1, 1) := by decide +kernel
theorem dX6_seek_138 : decode cX6_seek 138 = .ok (.iconst 4, 1) := by decide +kernel
theorem dX6_seek_139 : decode cX6_seek 139 = .ok (.iload_n 3, 1) := by decide +kernel
theorem dX6_seek_140 : decode cX6_seek 140 = .ok (.iconst 1, 1) := by decide +kernel
theorem dX6_seek_141 : decode cX6_seek 141 = .ok (.iadd, 1) := by decide +kernel
theorem dX6_seek_142 : decode cX6_seek 142 = .ok (.iconst 4, 1) := by decide +kernel
theorem dX6_seek_143 : decode cX6_seek 143 = .ok (.irem, 1) := by decide +kernel
theorem dX6_seek_144 : decode cX6_seek 144 = .ok (.iastore, 1) := by decide +kernel
theorem dX6_seek_145 : decode cX6_seek 145 = .ok (.aload_n 1, 1) := by decide +kernel
theorem dX6_seek_146 : decode cX6_seek 146 = .ok (.iconst 5, 1) := by decide +kernel
theorem dX6_seek_147 : decode cX6_seek 147 = .ok (.iconst 0, 1) := by decide +kernel
theorem dX6_seek_148 : decode cX6_seek 148 = .ok (.iastore, 1) := by decide +kernel
theorem dX6_seek_149 : decode cX6_seek 149 = .ok (.aload_n 1, 1) := by decide +kernel
theorem dX6_seek_150 : decode cX6_seek 150 = .ok (.bipush 6, 2) := by decide +kernel
theorem dX6_seek_152 : decode cX6_seek 152 = .ok (.iconst 0, 1) := by decide +kernel
theorem dX6_seek_153 : decode cX6_seek 153 = .ok (.iastore, 1) := by decide +kernel
theorem dX6_seek_154 : decode cX6_seek 154 = .ok (.aload_n 1, 1) := by decide +kernel
theorem dX6_seek_155 : decode cX6_seek 155 = .ok (.invokestatic 125, 3) := by decide +kernel
theorem dX6_seek_158 : decode cX6_seek 158 = .ok (.aload_n 1, 1) := by decide +kernel
theorem dX6_seek_159 : decode cX6_seek 159 = .ok (.bipush 10, 2) := by decide +kernel
theorem dX6_seek_161 : decode cX6_seek 161 = .ok (.dup2, 1) := by decide +kernel
theorem dX6_seek_162 : decode cX6_seek 162 = .ok (.iaload, 1) := by decide +kernel
theorem dX6_seek_163 : decode cX6_seek 163 = .ok (.iconst 1, 1) := by decide +kernel
theorem dX6_seek_164 : decode cX6_seek 164 = .ok (.iadd, 1) := by decide +kernel
theorem dX6_seek_165 : decode cX6_seek 165 = .ok (.iastore, 1) := by decide +kernel
theorem dX6_seek_166 : decode cX6_seek 166 = .ok (.aload_n 1, 1) := by decide +kernel
theorem dX6_seek_167 : decode cX6_seek 167 = .ok (.bipush 18, 2) := by decide +kernel
theorem dX6_seek_169 : decode cX6_seek 169 = .ok (.iload_n 3, 1) := by decide +kernel
theorem dX6_seek_170 : decode cX6_seek 170 = .ok (.iadd, 1) := by decide +kernel
theorem dX6_seek_171 : decode cX6_seek 171 = .ok (.aload_n 1, 1) := by decide +kernel
theorem dX6_seek_172 : decode cX6_seek 172 = .ok (.iconst 1, 1) := by decide +kernel
theorem dX6_seek_173 : decode cX6_seek 173 = .ok (.iaload, 1) := by decide +kernel
theorem dX6_seek_174 : decode cX6_seek 174 = .ok (.bipush 64, 2) := by decide +kernel
theorem dX6_seek_176 : decode cX6_seek 176 = .ok (.idiv, 1) := by decide +kernel
theorem dX6_seek_177 : decode cX6_seek 177 = .ok (.iastore, 1) := by decide +kernel
theorem dX6_seek_178 : decode cX6_seek 178 = .ok (.iload_n 3, 1) := by decide +kernel
theorem dX6_seek_179 : decode cX6_seek 179 = .ok (.iconst 3, 1) := by decide +kernel
theorem dX6_seek_180 : decode cX6_seek 180 = .ok (.if_icmp .ne 7, 3) := by decide +kernel
theorem dX6_seek_183 : decode cX6_seek 183 = .ok (.aload_n 1, 1) := by decide +kernel
theorem dX6_seek_184 : decode cX6_seek 184 = .ok (.invokestatic 143, 3) := by decide +kernel
theorem dX6_seek_187 : decode cX6_seek 187 = .ok (.return_, 1) := by decide +kernel
theorem dX6_block_0 : decode cX6_block 0 = .ok (.aload_n 1, 1) := by decide +kernel
theorem dX6_block_1 : decode cX6_block 1 = .ok (.iconst 4, 1) := by decide +kernel
theorem dX6_block_2 : decode cX6_block 2 = .ok (.iaload, 1) := by decide +kernel
theorem dX6_block_3 : decode cX6_block 3 = .ok (.istore_n 2, 1) := by decide +kernel
theorem dX6_block_4 : decode cX6_block 4 = .ok (.aload_n 0, 1) := by decide +kernel
theorem dX6_block_5 : decode cX6_block 5 = .ok (.iload_n 2, 1) := by decide +kernel
theorem dX6_block_6 : decode cX6_block 6 = .ok (.aload_n 1, 1) := by decide +kernel
theorem dX6_block_7 : decode cX6_block 7 = .ok (.iconst 1, 1) := by decide +kernel
theorem dX6_block_8 : decode cX6_block 8 = .ok (.iaload, 1) := by decide +kernel
theorem dX6_block_9 : decode cX6_block 9 = .ok (.invokevirtual 146, 3) := by decide +kernel
theorem dX6_block_12 : decode cX6_block 12 = .ok (.istore_n 3, 1) := by decide +kernel
theorem dX6_block_13 : decode cX6_block 13 = .ok (.iload_n 2, 1) := by decide +kernel
theorem dX6_block_14 : decode cX6_block 14 = .ok (.ifCond .ne 7, 3) := by decide +kernel
theorem dX6_block_17 : decode cX6_block 17 = .ok (.aload_n 1, 1) := by decide +kernel
theorem dX6_block_18 : decode cX6_block 18 = .ok (.invokestatic 125, 3) := by decide +kernel
theorem dX6_block_21 : decode cX6_block 21 = .ok (.aload_n 0, 1) := by decide +kernel
theorem dX6_block_22 : decode cX6_block 22 = .ok (.iload_n 3, 1) := by decide +kernel
theorem dX6_block_23 : decode cX6_block 23 = .ok (.invokevirtual 150, 3) := by decide +kernel
theorem dX6_block_26 : decode cX6_block 26 = .ok (.istore 4, 2) := by decide +kernel
theorem dX6_block_28 : decode cX6_block 28 = .ok (.iload_n 3, 1) := by decide +kernel
theorem dX6_block_29 : decode cX6_block 29 = .ok (.ifCond .ne 31, 3) := by decide +kernel
theorem dX6_block_32 : decode cX6_block 32 = .ok (.aload_n 1, 1) := by decide +kernel
theorem dX6_block_33 : decode cX6_block 33 = .ok (.bipush 10, 2) := by decide +kernel
theorem dX6_block_35 : decode cX6_block 35 = .ok (.dup2, 1) := by decide +kernel
theorem dX6_block_36 : decode cX6_block 36 = .ok (.iaload, 1) := by decide +kernel
theorem dX6_block_37 : decode cX6_block 37 = .ok (.iconst 1, 1) := by decide +kernel
theorem dX6_block_38 : decode cX6_block 38 = .ok (.iadd, 1) := by decide +kernel
theorem dX6_block_39 : decode cX6_block 39 = .ok (.iastore, 1) := by decide +kernel
theorem dX6_block_40 : decode cX6_block 40 = .ok (.aload_n 1, 1) := by decide +kernel
theorem dX6_block_41 : decode cX6_block 41 = .ok (.bipush 6, 2) := by decide +kernel
theorem dX6_block_43 : decode cX6_block 43 = .ok (.iconst 0, 1) := by decide +kernel
theorem dX6_block_44 : decode cX6_block 44 = .ok (.iastore, 1) := by decide +kernel
theorem dX6_block_45 : decode cX6_block 45 = .ok (.aload_n 1, 1) := by decide +kernel
theorem dX6_block_46 : decode cX6_block 46 = .ok (.bipush 18, 2) := by decide +kernel
theorem dX6_block_48 : decode cX6_block 48 = .ok (.iload_n 2, 1) := by decide +kernel
theorem dX6_block_49 : decode cX6_block 49 = .ok (.iadd, 1) := by decide +kernel
theorem dX6_block_50 : decode cX6_block 50 = .ok (.aload_n 1, 1) := by decide +kernel
theorem dX6_block_51 : decode cX6_block 51 = .ok (.iconst 1, 1) := by decide +kernel
theorem dX6_block_52 : decode cX6_block 52 = .ok (.iaload, 1) := by decide +kernel
theorem dX6_block_53 : decode cX6_block 53 = .ok (.bipush 64, 2) := by decide +kernel
theorem dX6_block_55 : decode cX6_block 55 = .ok (.idiv, 1) := by decide +kernel
theorem dX6_block_56 : decode cX6_block 56 = .ok (.iastore, 1) := by decide +kernel
theorem dX6_block_57 : decode cX6_block 57 = .ok (.goto 74, 3) := by decide +kernel
theorem dX6_block_60 : decode cX6_block 60 = .ok (.iload 4, 2) := by decide +kernel
theorem dX6_block_62 : decode cX6_block 62 = .ok (.ifCond .eq 29, 3) := by decide +kernel
theorem dX6_block_65 : decode cX6_block 65 = .ok (.aload_n 1, 1) := by decide +kernel
theorem dX6_block_66 : decode cX6_block 66 = .ok (.bipush 11, 2) := by decide +kernel
theorem dX6_block_68 : decode cX6_block 68 = .ok (.dup2, 1) := by decide +kernel
theorem dX6_block_69 : decode cX6_block 69 = .ok (.iaload, 1) := by decide +kernel
theorem dX6_block_70 : decode cX6_block 70 = .ok (.iconst 1, 1) := by decide +kernel
theorem dX6_block_71 : decode cX6_block 71 = .ok (.iadd, 1) := by decide +kernel
theorem dX6_block_72 : decode cX6_block 72 = .ok (.iastore, 1) := by decide +kernel
theorem dX6_block_73 : decode cX6_block 73 = .ok (.aload_n 1, 1) := by decide +kernel
theorem dX6_block_74 : decode cX6_block 74 = .ok (.bipush 18, 2) := by decide +kernel
theorem dX6_block_76 : decode cX6_block 76 = .ok (.iload_n 2, 1) := by decide +kernel
theorem dX6_block_77 : decode cX6_block 77 = .ok (.iadd, 1) := by decide +kernel
theorem dX6_block_78 : decode cX6_block 78 = .ok (.aload_n 1, 1) := by decide +kernel
theorem dX6_block_79 : decode cX6_block 79 = .ok (.iconst 1, 1) := by decide +kernel
theorem dX6_block_80 : decode cX6_block 80 = .ok (.iaload, 1) := by decide +kernel
theorem dX6_block_81 : decode cX6_block 81 = .ok (.iload 4, 2) := by decide +kernel
theorem dX6_block_83 : decode cX6_block 83 = .ok (.ixor, 1) := by decide +kernel
theorem dX6_block_84 : decode cX6_block 84 = .ok (.bipush 64, 2) := by decide +kernel
theorem dX6_block_86 : decode cX6_block 86 = .ok (.idiv, 1) := by decide +kernel
theorem dX6_block_87 : decode cX6_block 87 = .ok (.iastore, 1) := by decide +kernel
theorem dX6_block_88 : decode cX6_block 88 = .ok (.goto 43, 3) := by decide +kernel
theorem dX6_block_91 : decode cX6_block 91 = .ok (.aload_n 1, 1) := by decide +kernel
theorem dX6_block_92 : decode cX6_block 92 = .ok (.bipush 12, 2) := by decide +kernel
theorem dX6_block_94 : decode cX6_block 94 = .ok (.dup2, 1) := by decide +kernel
theorem dX6_block_95 : decode cX6_block 95 = .ok (.iaload, 1) := by decide +kernel
theorem dX6_block_96 : decode cX6_block 96 = .ok (.iconst 1, 1) := by decide +kernel
theorem dX6_block_97 : decode cX6_block 97 = .ok (.iadd, 1) := by decide +kernel
theorem dX6_block_98 : decode cX6_block 98 = .ok (.iastore, 1) := by decide +kernel
theorem dX6_block_99 : decode cX6_block 99 = .ok (.aload_n 1, 1) := by decide +kernel
theorem dX6_block_100 : decode cX6_block 100 = .ok (.bipush 6, 2) := by decide +kernel
theorem dX6_block_102 : decode cX6_block 102 = .ok (.dup2, 1) := by decide +kernel
theorem dX6_block_103 : decode cX6_block 103 = .ok (.iaload, 1) := by decide +kernel
theorem dX6_block_104 : decode cX6_block 104 = .ok (.iconst 1, 1) := by decide +kernel
theorem dX6_block_105 : decode cX6_block 105 = .ok (.iadd, 1) := by decide +kernel
theorem dX6_block_106 : decode cX6_block 106 = .ok (.iastore, 1) := by decide +kernel
theorem dX6_block_107 : decode cX6_block 107 = .ok (.aload_n 1, 1) := by decide +kernel
theorem dX6_block_108 : decode cX6_block 108 = .ok (.bipush 18, 2) := by decide +kernel
theorem dX6_block_110 : decode cX6_block 110 = .ok (.iload_n 2, 1) := by decide +kernel
theorem dX6_block_111 : decode cX6_block 111 = .ok (.iadd, 1) := by decide +kernel
theorem dX6_block_112 : decode cX6_block 112 = .ok (.bipush (-9), 2) := by decide +kernel
theorem dX6_block_114 : decode cX6_block 114 = .ok (.iastore, 1) := by decide +kernel
theorem dX6_block_115 : decode cX6_block 115 = .ok (.aload_n 1, 1) := by decide +kernel
theorem dX6_block_116 : decode cX6_block 116 = .ok (.bipush 6, 2) := by decide +kernel
theorem dX6_block_118 : decode cX6_block 118 = .ok (.iaload, 1) := by decide +kernel
theorem dX6_block_119 : decode cX6_block 119 = .ok (.aload_n 0, 1) := by decide +kernel
theorem dX6_block_120 : decode cX6_block 120 = .ok (.getfield 57, 3) := by decide +kernel
theorem dX6_block_123 : decode cX6_block 123 = .ok (.if_icmp .ne 8, 3) := by decide +kernel
theorem dX6_block_126 : decode cX6_block 126 = .ok (.aload_n 1, 1) := by decide +kernel
theorem dX6_block_127 : decode cX6_block 127 = .ok (.invokestatic 153, 3) := by decide +kernel
theorem dX6_block_130 : decode cX6_block 130 = .ok (.return_, 1) := by decide +kernel
theorem dX6_block_131 : decode cX6_block 131 = .ok (.iload_n 2, 1) := by decide +kernel
theorem dX6_block_132 : decode cX6_block 132 = .ok (.iconst 3, 1) := by decide +kernel
theorem dX6_block_133 : decode cX6_block 133 = .ok (.if_icmp .ne 7, 3) := by decide +kernel
theorem dX6_block_136 : decode cX6_block 136 = .ok (.aload_n 1, 1) := by decide +kernel
theorem dX6_block_137 : decode cX6_block 137 = .ok (.invokestatic 143, 3) := by decide +kernel
theorem dX6_block_140 : decode cX6_block 140 = .ok (.aload_n 1, 1) := by decide +kernel
theorem dX6_block_141 : decode cX6_block 141 = .ok (.iconst 4, 1) := by decide +kernel
theorem dX6_block_142 : decode cX6_block 142 = .ok (.iload_n 2, 1) := by decide +kernel
theorem dX6_block_143 : decode cX6_block 143 = .ok (.iconst 1, 1) := by decide +kernel
theorem dX6_block_144 : decode cX6_block 144 = .ok (.iadd, 1) := by decide +kernel
theorem dX6_block_145 : decode cX6_block 145 = .ok (.iconst 4, 1) := by decide +kernel
theorem dX6_block_146 : decode cX6_block 146 = .ok (.irem, 1) := by decide +kernel
theorem dX6_block_147 : decode cX6_block 147 = .ok (.iastore, 1) := by decide +kernel
theorem dX6_block_148 : decode cX6_block 148 = .ok (.return_, 1) := by decide +kernel
theorem dX6_hearBit_0 : decode cX6_hearBit 0 = .ok (.aload_n 1, 1) := by decide +kernel
theorem dX6_hearBit_1 : decode cX6_hearBit 1 = .ok (.iconst 1, 1) := by decide +kernel
theorem dX6_hearBit_2 : decode cX6_hearBit 2 = .ok (.iconst 2, 1) := by decide +kernel
theorem dX6_hearBit_3 : decode cX6_hearBit 3 = .ok (.aload_n 1, 1) := by decide +kernel
theorem dX6_hearBit_4 : decode cX6_hearBit 4 = .ok (.iconst 1, 1) := by decide +kernel
theorem dX6_hearBit_5 : decode cX6_hearBit 5 = .ok (.iaload, 1) := by decide +kernel
theorem dX6_hearBit_6 : decode cX6_hearBit 6 = .ok (.imul, 1) := by decide +kernel
theorem dX6_hearBit_7 : decode cX6_hearBit 7 = .ok (.iload_n 2, 1) := by decide +kernel
theorem dX6_hearBit_8 : decode cX6_hearBit 8 = .ok (.iadd, 1) := by decide +kernel
theorem dX6_hearBit_9 : decode cX6_hearBit 9 = .ok (.sipush 16383, 3) := by decide +kernel
theorem dX6_hearBit_12 : decode cX6_hearBit 12 = .ok (.iand, 1) := by decide +kernel
theorem dX6_hearBit_13 : decode cX6_hearBit 13 = .ok (.iastore, 1) := by decide +kernel
theorem dX6_hearBit_14 : decode cX6_hearBit 14 = .ok (.aload_n 1, 1) := by decide +kernel
theorem dX6_hearBit_15 : decode cX6_hearBit 15 = .ok (.iconst 0, 1) := by decide +kernel
theorem dX6_hearBit_16 : decode cX6_hearBit 16 = .ok (.dup2, 1) := by decide +kernel
theorem dX6_hearBit_17 : decode cX6_hearBit 17 = .ok (.iaload, 1) := by decide +kernel
theorem dX6_hearBit_18 : decode cX6_hearBit 18 = .ok (.iconst 1, 1) := by decide +kernel
theorem dX6_hearBit_19 : decode cX6_hearBit 19 = .ok (.iadd, 1) := by decide +kernel
theorem dX6_hearBit_20 : decode cX6_hearBit 20 = .ok (.iastore, 1) := by decide +kernel
theorem dX6_hearBit_21 : decode cX6_hearBit 21 = .ok (.aload_n 1, 1) := by decide +kernel
theorem dX6_hearBit_22 : decode cX6_hearBit 22 = .ok (.iconst 2, 1) := by decide +kernel
theorem dX6_hearBit_23 : decode cX6_hearBit 23 = .ok (.dup2, 1) := by decide +kernel
theorem dX6_hearBit_24 : decode cX6_hearBit 24 = .ok (.iaload, 1) := by decide +kernel
theorem dX6_hearBit_25 : decode cX6_hearBit 25 = .ok (.iconst 1, 1) := by decide +kernel
theorem dX6_hearBit_26 : decode cX6_hearBit 26 = .ok (.iadd, 1) := by decide +kernel
theorem dX6_hearBit_27 : decode cX6_hearBit 27 = .ok (.iastore, 1) := by decide +kernel
theorem dX6_hearBit_28 : decode cX6_hearBit 28 = .ok (.aload_n 1, 1) := by decide +kernel
theorem dX6_hearBit_29 : decode cX6_hearBit 29 = .ok (.iconst 3, 1) := by decide +kernel
theorem dX6_hearBit_30 : decode cX6_hearBit 30 = .ok (.iaload, 1) := by decide +kernel
theorem dX6_hearBit_31 : decode cX6_hearBit 31 = .ok (.ifCond .ne 9, 3) := by decide +kernel
theorem dX6_hearBit_34 : decode cX6_hearBit 34 = .ok (.aload_n 0, 1) := by decide +kernel
theorem dX6_hearBit_35 : decode cX6_hearBit 35 = .ok (.aload_n 1, 1) := by decide +kernel
theorem dX6_hearBit_36 : decode cX6_hearBit 36 = .ok (.invokevirtual 156, 3) := by decide +kernel
theorem dX6_hearBit_39 : decode cX6_hearBit 39 = .ok (.return_, 1) := by decide +kernel
theorem dX6_hearBit_40 : decode cX6_hearBit 40 = .ok (.aload_n 1, 1) := by decide +kernel
theorem dX6_hearBit_41 : decode cX6_hearBit 41 = .ok (.iconst 5, 1) := by decide +kernel
theorem dX6_hearBit_42 : decode cX6_hearBit 42 = .ok (.dup2, 1) := by decide +kernel
theorem dX6_hearBit_43 : decode cX6_hearBit 43 = .ok (.iaload, 1) := by decide +kernel
theorem dX6_hearBit_44 : decode cX6_hearBit 44 = .ok (.iconst 1, 1) := by decide +kernel
theorem dX6_hearBit_45 : decode cX6_hearBit 45 = .ok (.iadd, 1) := by decide +kernel
theorem dX6_hearBit_46 : decode cX6_hearBit 46 = .ok (.iastore, 1) := by decide +kernel
theorem dX6_hearBit_47 : decode cX6_hearBit 47 = .ok (.aload_n 1, 1) := by decide +kernel
theorem dX6_hearBit_48 : decode cX6_hearBit 48 = .ok (.iconst 5, 1) := by decide +kernel
theorem dX6_hearBit_49 : decode cX6_hearBit 49 = .ok (.iaload, 1) := by decide +kernel
theorem dX6_hearBit_50 : decode cX6_hearBit 50 = .ok (.bipush 14, 2) := by decide +kernel
theorem dX6_hearBit_52 : decode cX6_hearBit 52 = .ok (.if_icmp .ne 12, 3) := by decide +kernel
theorem dX6_hearBit_55 : decode cX6_hearBit 55 = .ok (.aload_n 1, 1) := by decide +kernel
theorem dX6_hearBit_56 : decode cX6_hearBit 56 = .ok (.iconst 5, 1) := by decide +kernel
theorem dX6_hearBit_57 : decode cX6_hearBit 57 = .ok (.iconst 0, 1) := by decide +kernel
theorem dX6_hearBit_58 : decode cX6_hearBit 58 = .ok (.iastore, 1) := by decide +kernel
theorem dX6_hearBit_59 : decode cX6_hearBit 59 = .ok (.aload_n 0, 1) := by decide +kernel
theorem dX6_hearBit_60 : decode cX6_hearBit 60 = .ok (.aload_n 1, 1) := by decide +kernel
theorem dX6_hearBit_61 : decode cX6_hearBit 61 = .ok (.invokevirtual 159, 3) := by decide +kernel
theorem dX6_hearBit_64 : decode cX6_hearBit 64 = .ok (.return_, 1) := by decide +kernel
theorem dX6_hearBits_0 : decode cX6_hearBits 0 = .ok (.iload_n 2, 1) := by decide +kernel
theorem dX6_hearBits_1 : decode cX6_hearBits 1 = .ok (.iconst 1, 1) := by decide +kernel
theorem dX6_hearBits_2 : decode cX6_hearBits 2 = .ok (.isub, 1) := by decide +kernel
theorem dX6_hearBits_3 : decode cX6_hearBits 3 = .ok (.istore 4, 2) := by decide +kernel
theorem dX6_hearBits_5 : decode cX6_hearBits 5 = .ok (.iload 4, 2) := by decide +kernel
theorem dX6_hearBits_7 : decode cX6_hearBits 7 = .ok (.ifCond .lt 20, 3) := by decide +kernel
theorem dX6_hearBits_10 : decode cX6_hearBits 10 = .ok (.aload_n 0, 1) := by decide +kernel
theorem dX6_hearBits_11 : decode cX6_hearBits 11 = .ok (.aload_n 1, 1) := by decide +kernel
theorem dX6_hearBits_12 : decode cX6_hearBits 12 = .ok (.iload_n 3, 1) := by decide +kernel
theorem dX6_hearBits_13 : decode cX6_hearBits 13 = .ok (.iload 4, 2) := by decide +kernel
theorem dX6_hearBits_15 : decode cX6_hearBits 15 = .ok (.ishr, 1) := by decide +kernel
theorem dX6_hearBits_16 : decode cX6_hearBits 16 = .ok (.iconst 1, 1) := by decide +kernel
theorem dX6_hearBits_17 : decode cX6_hearBits 17 = .ok (.iand, 1) := by decide +kernel
theorem dX6_hearBits_18 : decode cX6_hearBits 18 = .ok (.invokevirtual 162, 3) := by decide +kernel
theorem dX6_hearBits_21 : decode cX6_hearBits 21 = .ok (.iinc 4 (-1), 3) := by decide +kernel
theorem dX6_hearBits_24 : decode cX6_hearBits 24 = .ok (.goto (-19), 3) := by decide +kernel
theorem dX6_hearBits_27 : decode cX6_hearBits 27 = .ok (.return_, 1) := by decide +kernel
theorem dX6_byteOf_0 : decode cX6_byteOf 0 = .ok (.iload_n 0, 1) := by decide +kernel
theorem dX6_byteOf_1 : decode cX6_byteOf 1 = .ok (.bipush 24, 2) := by decide +kernel
theorem dX6_byteOf_3 : decode cX6_byteOf 3 = .ok (.bipush 8, 2) := by decide +kernel
theorem dX6_byteOf_5 : decode cX6_byteOf 5 = .ok (.iload_n 1, 1) := by decide +kernel
theorem dX6_byteOf_6 : decode cX6_byteOf 6 = .ok (.imul, 1) := by decide +kernel
theorem dX6_byteOf_7 : decode cX6_byteOf 7 = .ok (.isub, 1) := by decide +kernel
theorem dX6_byteOf_8 : decode cX6_byteOf 8 = .ok (.ishr, 1) := by decide +kernel
theorem dX6_byteOf_9 : decode cX6_byteOf 9 = .ok (.sipush 255, 3) := by decide +kernel
theorem dX6_byteOf_12 : decode cX6_byteOf 12 = .ok (.iand, 1) := by decide +kernel
theorem dX6_byteOf_13 : decode cX6_byteOf 13 = .ok (.ireturn, 1) := by decide +kernel
theorem dX6_hearGroup_0 : decode cX6_hearGroup 0 = .ok (.iconst 0, 1) := by decide +kernel
theorem dX6_hearGroup_1 : decode cX6_hearGroup 1 = .ok (.istore 4, 2) := by decide +kernel
theorem dX6_hearGroup_3 : decode cX6_hearGroup 3 = .ok (.iload 4, 2) := by decide +kernel
theorem dX6_hearGroup_5 : decode cX6_hearGroup 5 = .ok (.iconst 4, 1) := by decide +kernel
theorem dX6_hearGroup_6 : decode cX6_hearGroup 6 = .ok (.if_icmp .ge 45, 3) := by decide +kernel
theorem dX6_hearGroup_9 : decode cX6_hearGroup 9 = .ok (.aload_n 0, 1) := by decide +kernel
theorem dX6_hearGroup_10 : decode cX6_hearGroup 10 = .ok (.aload_n 1, 1) := by decide +kernel
theorem dX6_hearGroup_11 : decode cX6_hearGroup 11 = .ok (.bipush 14, 2) := by decide +kernel
theorem dX6_hearGroup_13 : decode cX6_hearGroup 13 = .ok (.aload_n 0, 1) := by decide +kernel
theorem dX6_hearGroup_14 : decode cX6_hearGroup 14 = .ok (.iload 4, 2) := by decide +kernel
theorem dX6_hearGroup_16 : decode cX6_hearGroup 16 = .ok (.iload_n 2, 1) := by decide +kernel
theorem dX6_hearGroup_17 : decode cX6_hearGroup 17 = .ok (.iload 4, 2) := by decide +kernel
theorem dX6_hearGroup_19 : decode cX6_hearGroup 19 = .ok (.invokestatic 165, 3) := by decide +kernel
theorem dX6_hearGroup_22 : decode cX6_hearGroup 22 = .ok (.invokevirtual 168, 3) := by decide +kernel
theorem dX6_hearGroup_25 : decode cX6_hearGroup 25 = .ok (.iload_n 3, 1) := by decide +kernel
theorem dX6_hearGroup_26 : decode cX6_hearGroup 26 = .ok (.iload 4, 2) := by decide +kernel
theorem dX6_hearGroup_28 : decode cX6_hearGroup 28 = .ok (.invokestatic 72, 3) := by decide +kernel
theorem dX6_hearGroup_31 : decode cX6_hearGroup 31 = .ok (.ifCond .eq 9, 3) := by decide +kernel
theorem dX6_hearGroup_34 : decode cX6_hearGroup 34 = .ok (.sipush 16383, 3) := by decide +kernel
theorem dX6_hearGroup_37 : decode cX6_hearGroup 37 = .ok (.goto 4, 3) := by decide +kernel
theorem dX6_hearGroup_40 : decode cX6_hearGroup 40 = .ok (.iconst 0, 1) := by decide +kernel
theorem dX6_hearGroup_41 : decode cX6_hearGroup 41 = .ok (.ixor, 1) := by decide +kernel
theorem dX6_hearGroup_42 : decode cX6_hearGroup 42 = .ok (.invokevirtual 171, 3) := by decide +kernel
theorem dX6_hearGroup_45 : decode cX6_hearGroup 45 = .ok (.iinc 4 1, 3) := by decide +kernel
theorem dX6_hearGroup_48 : decode cX6_hearGroup 48 = .ok (.goto (-45), 3) := by decide +kernel
theorem dX6_hearGroup_51 : decode cX6_hearGroup 51 = .ok (.return_, 1) := by decide +kernel
theorem dX6_tell_0 : decode cX6_tell 0 = .ok (.aload_n 1, 1) := by decide +kernel
theorem dX6_tell_1 : decode cX6_tell 1 = .ok (.iconst 3, 1) := by decide +kernel
theorem dX6_tell_2 : decode cX6_tell 2 = .ok (.iaload, 1) := by decide +kernel
theorem dX6_tell_3 : decode cX6_tell 3 = .ok (.iconst 1, 1) := by decide +kernel
theorem dX6_tell_4 : decode cX6_tell 4 = .ok (.if_icmp .ne 7, 3) := by decide +kernel
theorem dX6_tell_7 : decode cX6_tell 7 = .ok (.iconst 1, 1) := by decide +kernel
theorem dX6_tell_8 : decode cX6_tell 8 = .ok (.goto 4, 3) := by decide +kernel
theorem dX6_tell_11 : decode cX6_tell 11 = .ok (.iconst 0, 1) := by decide +kernel
theorem dX6_tell_12 : decode cX6_tell 12 = .ok (.istore_n 3, 1) := by decide +kernel
theorem dX6_tell_13 : decode cX6_tell 13 = .ok (.iload_n 2, 1) := by decide +kernel
theorem dX6_tell_14 : decode cX6_tell 14 = .ok (.tableswitch 90 3 8 #[38, 42, 46, 50, 63, 76], 38) := by decide +kernel
theorem dX6_tell_52 : decode cX6_tell 52 = .ok (.aload_n 1, 1) := by decide +kernel
theorem dX6_tell_53 : decode cX6_tell 53 = .ok (.iconst 0, 1) := by decide +kernel
theorem dX6_tell_54 : decode cX6_tell 54 = .ok (.iaload, 1) := by decide +kernel
theorem dX6_tell_55 : decode cX6_tell 55 = .ok (.ireturn, 1) := by decide +kernel
theorem dX6_tell_56 : decode cX6_tell 56 = .ok (.aload_n 1, 1) := by decide +kernel
theorem dX6_tell_57 : decode cX6_tell 57 = .ok (.iconst 1, 1) := by decide +kernel
theorem dX6_tell_58 : decode cX6_tell 58 = .ok (.iaload, 1) := by decide +kernel
theorem dX6_tell_59 : decode cX6_tell 59 = .ok (.ireturn, 1) := by decide +kernel
theorem dX6_tell_60 : decode cX6_tell 60 = .ok (.aload_n 1, 1) := by decide +kernel
theorem dX6_tell_61 : decode cX6_tell 61 = .ok (.iconst 3, 1) := by decide +kernel
theorem dX6_tell_62 : decode cX6_tell 62 = .ok (.iaload, 1) := by decide +kernel
theorem dX6_tell_63 : decode cX6_tell 63 = .ok (.ireturn, 1) := by decide +kernel
theorem dX6_tell_64 : decode cX6_tell 64 = .ok (.iload_n 3, 1) := by decide +kernel
theorem dX6_tell_65 : decode cX6_tell 65 = .ok (.ifCond .eq 9, 3) := by decide +kernel
theorem dX6_tell_68 : decode cX6_tell 68 = .ok (.aload_n 1, 1) := by decide +kernel
theorem dX6_tell_69 : decode cX6_tell 69 = .ok (.iconst 4, 1) := by decide +kernel
theorem dX6_tell_70 : decode cX6_tell 70 = .ok (.iaload, 1) := by decide +kernel
theorem dX6_tell_71 : decode cX6_tell 71 = .ok (.goto 5, 3) := by decide +kernel
theorem dX6_tell_74 : decode cX6_tell 74 = .ok (.bipush (-9), 2) := by decide +kernel
theorem dX6_tell_76 : decode cX6_tell 76 = .ok (.ireturn, 1) := by decide +kernel
theorem dX6_tell_77 : decode cX6_tell 77 = .ok (.iload_n 3, 1) := by decide +kernel
theorem dX6_tell_78 : decode cX6_tell 78 = .ok (.ifCond .eq 9, 3) := by decide +kernel
theorem dX6_tell_81 : decode cX6_tell 81 = .ok (.aload_n 1, 1) := by decide +kernel
theorem dX6_tell_82 : decode cX6_tell 82 = .ok (.iconst 5, 1) := by decide +kernel
theorem dX6_tell_83 : decode cX6_tell 83 = .ok (.iaload, 1) := by decide +kernel
theorem dX6_tell_84 : decode cX6_tell 84 = .ok (.goto 5, 3) := by decide +kernel
theorem dX6_tell_87 : decode cX6_tell 87 = .ok (.bipush (-9), 2) := by decide +kernel
theorem dX6_tell_89 : decode cX6_tell 89 = .ok (.ireturn, 1) := by decide +kernel
theorem dX6_tell_90 : decode cX6_tell 90 = .ok (.iload_n 3, 1) := by decide +kernel
theorem dX6_tell_91 : decode cX6_tell 91 = .ok (.ifCond .eq 10, 3) := by decide +kernel
theorem dX6_tell_94 : decode cX6_tell 94 = .ok (.aload_n 1, 1) := by decide +kernel
theorem dX6_tell_95 : decode cX6_tell 95 = .ok (.bipush 6, 2) := by decide +kernel
theorem dX6_tell_97 : decode cX6_tell 97 = .ok (.iaload, 1) := by decide +kernel
theorem dX6_tell_98 : decode cX6_tell 98 = .ok (.goto 5, 3) := by decide +kernel
theorem dX6_tell_101 : decode cX6_tell 101 = .ok (.bipush (-9), 2) := by decide +kernel
theorem dX6_tell_103 : decode cX6_tell 103 = .ok (.ireturn, 1) := by decide +kernel
theorem dX6_tell_104 : decode cX6_tell 104 = .ok (.aload_n 1, 1) := by decide +kernel
theorem dX6_tell_105 : decode cX6_tell 105 = .ok (.bipush 10, 2) := by decide +kernel
theorem dX6_tell_107 : decode cX6_tell 107 = .ok (.iload_n 2, 1) := by decide +kernel
theorem dX6_tell_108 : decode cX6_tell 108 = .ok (.iadd, 1) := by decide +kernel
theorem dX6_tell_109 : decode cX6_tell 109 = .ok (.bipush 9, 2) := by decide +kernel
theorem dX6_tell_111 : decode cX6_tell 111 = .ok (.isub, 1) := by decide +kernel
theorem dX6_tell_112 : decode cX6_tell 112 = .ok (.iaload, 1) := by decide +kernel
theorem dX6_tell_113 : decode cX6_tell 113 = .ok (.ireturn, 1) := by decide +kernel
theorem dX6_about_0 : decode cX6_about 0 = .ok (.iload_n 1, 1) := by decide +kernel
theorem dX6_about_1 : decode cX6_about 1 = .ok (.tableswitch 127 0 17 #[87, 92, 97, 127, 127, 127, 127, 127, 127, 127, 127, 127, 127, 102, 107, 112, 117, 122], 87) := by decide +kernel
theorem dX6_about_88 : decode cX6_about 88 = .ok (.aload_n 0, 1) := by decide +kernel
theorem dX6_about_89 : decode cX6_about 89 = .ok (.getfield 53, 3) := by decide +kernel
theorem dX6_about_92 : decode cX6_about 92 = .ok (.ireturn, 1) := by decide +kernel
theorem dX6_about_93 : decode cX6_about 93 = .ok (.aload_n 0, 1) := by decide +kernel
theorem dX6_about_94 : decode cX6_about 94 = .ok (.getfield 82, 3) := by decide +kernel
theorem dX6_about_97 : decode cX6_about 97 = .ok (.ireturn, 1) := by decide +kernel
theorem dX6_about_98 : decode cX6_about 98 = .ok (.aload_n 0, 1) := by decide +kernel
theorem dX6_about_99 : decode cX6_about 99 = .ok (.getfield 57, 3) := by decide +kernel
theorem dX6_about_102 : decode cX6_about 102 = .ok (.ireturn, 1) := by decide +kernel
theorem dX6_about_103 : decode cX6_about 103 = .ok (.aload_n 0, 1) := by decide +kernel
theorem dX6_about_104 : decode cX6_about 104 = .ok (.getfield 118, 3) := by decide +kernel
theorem dX6_about_107 : decode cX6_about 107 = .ok (.ireturn, 1) := by decide +kernel
theorem dX6_about_108 : decode cX6_about 108 = .ok (.aload_n 0, 1) := by decide +kernel
theorem dX6_about_109 : decode cX6_about 109 = .ok (.getfield 174, 3) := by decide +kernel
theorem dX6_about_112 : decode cX6_about 112 = .ok (.ireturn, 1) := by decide +kernel
theorem dX6_about_113 : decode cX6_about 113 = .ok (.aload_n 0, 1) := by decide +kernel
theorem dX6_about_114 : decode cX6_about 114 = .ok (.getfield 94, 3) := by decide +kernel
theorem dX6_about_117 : decode cX6_about 117 = .ok (.ireturn, 1) := by decide +kernel
theorem dX6_about_118 : decode cX6_about 118 = .ok (.aload_n 0, 1) := by decide +kernel
theorem dX6_about_119 : decode cX6_about 119 = .ok (.getfield 76, 3) := by decide +kernel
theorem dX6_about_122 : decode cX6_about 122 = .ok (.ireturn, 1) := by decide +kernel
theorem dX6_about_123 : decode cX6_about 123 = .ok (.aload_n 0, 1) := by decide +kernel
theorem dX6_about_124 : decode cX6_about 124 = .ok (.getfield 79, 3) := by decide +kernel
theorem dX6_about_127 : decode cX6_about 127 = .ok (.ireturn, 1) := by decide +kernel
theorem dX6_about_128 : decode cX6_about 128 = .ok (.iload_n 1, 1) := by decide +kernel
theorem dX6_about_129 : decode cX6_about 129 = .ok (.i2l, 1) := by decide +kernel
theorem dX6_about_130 : decode cX6_about 130 = .ok (.ldc2_w 66, 3) := by decide +kernel
theorem dX6_about_133 : decode cX6_about 133 = .ok (.ldc2_w 177, 3) := by decide +kernel
theorem dX6_about_136 : decode cX6_about 136 = .ok (.invokestatic 68, 3) := by decide +kernel
theorem dX6_about_139 : decode cX6_about 139 = .ok (.ifCond .eq 15, 3) := by decide +kernel
theorem dX6_about_142 : decode cX6_about 142 = .ok (.aload_n 0, 1) := by decide +kernel
theorem dX6_about_143 : decode cX6_about 143 = .ok (.aload_n 0, 1) := by decide +kernel
theorem dX6_about_144 : decode cX6_about 144 = .ok (.getfield 22, 3) := by decide +kernel
theorem dX6_about_147 : decode cX6_about 147 = .ok (.iload_n 1, 1) := by decide +kernel
theorem dX6_about_148 : decode cX6_about 148 = .ok (.invokevirtual 179, 3) := by decide +kernel
theorem dX6_about_151 : decode cX6_about 151 = .ok (.goto 5, 3) := by decide +kernel
theorem dX6_about_154 : decode cX6_about 154 = .ok (.bipush (-2), 2) := by decide +kernel
theorem dX6_about_156 : decode cX6_about 156 = .ok (.ireturn, 1) := by decide +kernel
theorem dX6_offset_0 : decode cX6_offset 0 = .ok (.iload_n 1, 1) := by decide +kernel
theorem dX6_offset_1 : decode cX6_offset 1 = .ok (.invokestatic 183, 3) := by decide +kernel
theorem dX6_offset_4 : decode cX6_offset 4 = .ok (.ifCond .eq 12, 3) := by decide +kernel
theorem dX6_offset_7 : decode cX6_offset 7 = .ok (.aload_n 0, 1) := by decide +kernel
theorem dX6_offset_8 : decode cX6_offset 8 = .ok (.getfield 13, 3) := by decide +kernel
theorem dX6_offset_11 : decode cX6_offset 11 = .ok (.iload_n 1, 1) := by decide +kernel
theorem dX6_offset_12 : decode cX6_offset 12 = .ok (.iaload, 1) := by decide +kernel
theorem dX6_offset_13 : decode cX6_offset 13 = .ok (.goto 4, 3) := by decide +kernel
theorem dX6_offset_16 : decode cX6_offset 16 = .ok (.iconst (-1), 1) := by decide +kernel
theorem dX6_offset_17 : decode cX6_offset 17 = .ok (.ireturn, 1) := by decide +kernel
theorem dX6_thereAre_0 : decode cX6_thereAre 0 = .ok (.iconst 0, 1) := by decide +kernel
theorem dX6_thereAre_1 : decode cX6_thereAre 1 = .ok (.istore_n 2, 1) := by decide +kernel
theorem dX6_thereAre_2 : decode cX6_thereAre 2 = .ok (.iconst 0, 1) := by decide +kernel
theorem dX6_thereAre_3 : decode cX6_thereAre 3 = .ok (.istore_n 3, 1) := by decide +kernel
theorem dX6_thereAre_4 : decode cX6_thereAre 4 = .ok (.iload_n 3, 1) := by decide +kernel
theorem dX6_thereAre_5 : decode cX6_thereAre 5 = .ok (.iconst 4, 1) := by decide +kernel
theorem dX6_thereAre_6 : decode cX6_thereAre 6 = .ok (.if_icmp .ge 32, 3) := by decide +kernel
theorem dX6_thereAre_9 : decode cX6_thereAre 9 = .ok (.iload_n 2, 1) := by decide +kernel
theorem dX6_thereAre_10 : decode cX6_thereAre 10 = .ok (.aload_n 0, 1) := by decide +kernel
theorem dX6_thereAre_11 : decode cX6_thereAre 11 = .ok (.getfield 22, 3) := by decide +kernel
theorem dX6_thereAre_14 : decode cX6_thereAre 14 = .ok (.iload_n 1, 1) := by decide +kernel
theorem dX6_thereAre_15 : decode cX6_thereAre 15 = .ok (.iload_n 3, 1) := by decide +kernel
theorem dX6_thereAre_16 : decode cX6_thereAre 16 = .ok (.iadd, 1) := by decide +kernel
theorem dX6_thereAre_17 : decode cX6_thereAre 17 = .ok (.iaload, 1) := by decide +kernel
theorem dX6_thereAre_18 : decode cX6_thereAre 18 = .ok (.bipush (-9), 2) := by decide +kernel
theorem dX6_thereAre_20 : decode cX6_thereAre 20 = .ok (.if_icmp .eq 9, 3) := by decide +kernel
theorem dX6_thereAre_23 : decode cX6_thereAre 23 = .ok (.iconst 1, 1) := by decide +kernel
theorem dX6_thereAre_24 : decode cX6_thereAre 24 = .ok (.iload_n 3, 1) := by decide +kernel
theorem dX6_thereAre_25 : decode cX6_thereAre 25 = .ok (.ishl, 1) := by decide +kernel
theorem dX6_thereAre_26 : decode cX6_thereAre 26 = .ok (.goto 4, 3) := by decide +kernel
theorem dX6_thereAre_29 : decode cX6_thereAre 29 = .ok (.iconst 0, 1) := by decide +kernel
theorem dX6_thereAre_30 : decode cX6_thereAre 30 = .ok (.ior, 1) := by decide +kernel
theorem dX6_thereAre_31 : decode cX6_thereAre 31 = .ok (.istore_n 2, 1) := by decide +kernel
theorem dX6_thereAre_32 : decode cX6_thereAre 32 = .ok (.iinc 3 1, 3) := by decide +kernel
theorem dX6_thereAre_35 : decode cX6_thereAre 35 = .ok (.goto (-31), 3) := by decide +kernel
theorem dX6_thereAre_38 : decode cX6_thereAre 38 = .ok (.iload_n 2, 1) := by decide +kernel
theorem dX6_thereAre_39 : decode cX6_thereAre 39 = .ok (.ireturn, 1) := by decide +kernel
theorem dX6_told_0 : decode cX6_told 0 = .ok (.iload_n 1, 1) := by decide +kernel
theorem dX6_told_1 : decode cX6_told 1 = .ok (.tableswitch 97 0 6 #[43, 51, 59, 67, 75, 83, 90], 43) := by decide +kernel
theorem dX6_told_44 : decode cX6_told 44 = .ok (.aload_n 0, 1) := by decide +kernel
theorem dX6_told_45 : decode cX6_told 45 = .ok (.getfield 22, 3) := by decide +kernel
theorem dX6_told_48 : decode cX6_told 48 = .ok (.bipush 14, 2) := by decide +kernel
theorem dX6_told_50 : decode cX6_told 50 = .ok (.iaload, 1) := by decide +kernel
theorem dX6_told_51 : decode cX6_told 51 = .ok (.ireturn, 1) := by decide +kernel
theorem dX6_told_52 : decode cX6_told 52 = .ok (.aload_n 0, 1) := by decide +kernel
theorem dX6_told_53 : decode cX6_told 53 = .ok (.getfield 22, 3) := by decide +kernel
theorem dX6_told_56 : decode cX6_told 56 = .ok (.bipush 15, 2) := by decide +kernel
theorem dX6_told_58 : decode cX6_told 58 = .ok (.iaload, 1) := by decide +kernel
theorem dX6_told_59 : decode cX6_told 59 = .ok (.ireturn, 1) := by decide +kernel
theorem dX6_told_60 : decode cX6_told 60 = .ok (.aload_n 0, 1) := by decide +kernel
theorem dX6_told_61 : decode cX6_told 61 = .ok (.getfield 22, 3) := by decide +kernel
theorem dX6_told_64 : decode cX6_told 64 = .ok (.bipush 16, 2) := by decide +kernel
theorem dX6_told_66 : decode cX6_told 66 = .ok (.iaload, 1) := by decide +kernel
theorem dX6_told_67 : decode cX6_told 67 = .ok (.ireturn, 1) := by decide +kernel
theorem dX6_told_68 : decode cX6_told 68 = .ok (.aload_n 0, 1) := by decide +kernel
theorem dX6_told_69 : decode cX6_told 69 = .ok (.getfield 22, 3) := by decide +kernel
theorem dX6_told_72 : decode cX6_told 72 = .ok (.bipush 17, 2) := by decide +kernel
theorem dX6_told_74 : decode cX6_told 74 = .ok (.iaload, 1) := by decide +kernel
theorem dX6_told_75 : decode cX6_told 75 = .ok (.ireturn, 1) := by decide +kernel
theorem dX6_told_76 : decode cX6_told 76 = .ok (.aload_n 0, 1) := by decide +kernel
theorem dX6_told_77 : decode cX6_told 77 = .ok (.getfield 22, 3) := by decide +kernel
theorem dX6_told_80 : decode cX6_told 80 = .ok (.bipush 30, 2) := by decide +kernel
theorem dX6_told_82 : decode cX6_told 82 = .ok (.iaload, 1) := by decide +kernel
theorem dX6_told_83 : decode cX6_told 83 = .ok (.ireturn, 1) := by decide +kernel
theorem dX6_told_84 : decode cX6_told 84 = .ok (.aload_n 0, 1) := by decide +kernel
theorem dX6_told_85 : decode cX6_told 85 = .ok (.bipush 22, 2) := by decide +kernel
theorem dX6_told_87 : decode cX6_told 87 = .ok (.invokevirtual 187, 3) := by decide +kernel
theorem dX6_told_90 : decode cX6_told 90 = .ok (.ireturn, 1) := by decide +kernel
theorem dX6_told_91 : decode cX6_told 91 = .ok (.aload_n 0, 1) := by decide +kernel
theorem dX6_told_92 : decode cX6_told 92 = .ok (.bipush 18, 2) := by decide +kernel
theorem dX6_told_94 : decode cX6_told 94 = .ok (.invokevirtual 187, 3) := by decide +kernel
theorem dX6_told_97 : decode cX6_told 97 = .ok (.ireturn, 1) := by decide +kernel
theorem dX6_told_98 : decode cX6_told 98 = .ok (.bipush (-2), 2) := by decide +kernel
theorem dX6_told_100 : decode cX6_told 100 = .ok (.ireturn, 1) := by decide +kernel
theorem dX6_part_0 : decode cX6_part 0 = .ok (.iload_n 1, 1) := by decide +kernel
theorem dX6_part_1 : decode cX6_part 1 = .ok (.invokestatic 183, 3) := by decide +kernel
theorem dX6_part_4 : decode cX6_part 4 = .ok (.ifCond .eq 15, 3) := by decide +kernel
theorem dX6_part_7 : decode cX6_part 7 = .ok (.aload_n 0, 1) := by decide +kernel
theorem dX6_part_8 : decode cX6_part 8 = .ok (.getfield 22, 3) := by decide +kernel
theorem dX6_part_11 : decode cX6_part 11 = .ok (.bipush 18, 2) := by decide +kernel
theorem dX6_part_13 : decode cX6_part 13 = .ok (.iload_n 1, 1) := by decide +kernel
theorem dX6_part_14 : decode cX6_part 14 = .ok (.iadd, 1) := by decide +kernel
theorem dX6_part_15 : decode cX6_part 15 = .ok (.iaload, 1) := by decide +kernel
theorem dX6_part_16 : decode cX6_part 16 = .ok (.goto 4, 3) := by decide +kernel
theorem dX6_part_19 : decode cX6_part 19 = .ok (.iconst (-1), 1) := by decide +kernel
theorem dX6_part_20 : decode cX6_part 20 = .ok (.ireturn, 1) := by decide +kernel
theorem dX6_name_0 : decode cX6_name 0 = .ok (.iload_n 1, 1) := by decide +kernel
theorem dX6_name_1 : decode cX6_name 1 = .ok (.invokestatic 183, 3) := by decide +kernel
theorem dX6_name_4 : decode cX6_name 4 = .ok (.ifCond .eq 24, 3) := by decide +kernel
theorem dX6_name_7 : decode cX6_name 7 = .ok (.aload_n 0, 1) := by decide +kernel
theorem dX6_name_8 : decode cX6_name 8 = .ok (.getfield 22, 3) := by decide +kernel
theorem dX6_name_11 : decode cX6_name 11 = .ok (.iload_n 2, 1) := by decide +kernel
theorem dX6_name_12 : decode cX6_name 12 = .ok (.ifCond .eq 8, 3) := by decide +kernel
theorem dX6_name_15 : decode cX6_name 15 = .ok (.bipush 26, 2) := by decide +kernel
theorem dX6_name_17 : decode cX6_name 17 = .ok (.goto 5, 3) := by decide +kernel
theorem dX6_name_20 : decode cX6_name 20 = .ok (.bipush 22, 2) := by decide +kernel
theorem dX6_name_22 : decode cX6_name 22 = .ok (.iload_n 1, 1) := by decide +kernel
theorem dX6_name_23 : decode cX6_name 23 = .ok (.iadd, 1) := by decide +kernel
theorem dX6_name_24 : decode cX6_name 24 = .ok (.iaload, 1) := by decide +kernel
theorem dX6_name_25 : decode cX6_name 25 = .ok (.goto 4, 3) := by decide +kernel
theorem dX6_name_28 : decode cX6_name 28 = .ok (.iconst (-1), 1) := by decide +kernel
theorem dX6_name_29 : decode cX6_name 29 = .ok (.ireturn, 1) := by decide +kernel
theorem dX6_aheadOf_0 : decode cX6_aheadOf 0 = .ok (.iconst 0, 1) := by decide +kernel
theorem dX6_aheadOf_1 : decode cX6_aheadOf 1 = .ok (.istore_n 2, 1) := by decide +kernel
theorem dX6_aheadOf_2 : decode cX6_aheadOf 2 = .ok (.iconst 0, 1) := by decide +kernel
theorem dX6_aheadOf_3 : decode cX6_aheadOf 3 = .ok (.istore_n 3, 1) := by decide +kernel
theorem dX6_aheadOf_4 : decode cX6_aheadOf 4 = .ok (.iload_n 3, 1) := by decide +kernel
theorem dX6_aheadOf_5 : decode cX6_aheadOf 5 = .ok (.aload_n 0, 1) := by decide +kernel
theorem dX6_aheadOf_6 : decode cX6_aheadOf 6 = .ok (.getfield 22, 3) := by decide +kernel
theorem dX6_aheadOf_9 : decode cX6_aheadOf 9 = .ok (.bipush 30, 2) := by decide +kernel
theorem dX6_aheadOf_11 : decode cX6_aheadOf 11 = .ok (.iaload, 1) := by decide +kernel
theorem dX6_aheadOf_12 : decode cX6_aheadOf 12 = .ok (.if_icmp .ge 92, 3) := by decide +kernel
theorem dX6_aheadOf_15 : decode cX6_aheadOf 15 = .ok (.aload_n 0, 1) := by decide +kernel
theorem dX6_aheadOf_16 : decode cX6_aheadOf 16 = .ok (.getfield 22, 3) := by decide +kernel
theorem dX6_aheadOf_19 : decode cX6_aheadOf 19 = .ok (.bipush 39, 2) := by decide +kernel
theorem dX6_aheadOf_21 : decode cX6_aheadOf 21 = .ok (.iload_n 3, 1) := by decide +kernel
theorem dX6_aheadOf_22 : decode cX6_aheadOf 22 = .ok (.iadd, 1) := by decide +kernel
theorem dX6_aheadOf_23 : decode cX6_aheadOf 23 = .ok (.iaload, 1) := by decide +kernel
theorem dX6_aheadOf_24 : decode cX6_aheadOf 24 = .ok (.aload_n 0, 1) := by decide +kernel
theorem dX6_aheadOf_25 : decode cX6_aheadOf 25 = .ok (.getfield 22, 3) := by decide +kernel
theorem dX6_aheadOf_28 : decode cX6_aheadOf 28 = .ok (.bipush 39, 2) := by decide +kernel
theorem dX6_aheadOf_30 : decode cX6_aheadOf 30 = .ok (.iload_n 1, 1) := by decide +kernel
theorem dX6_aheadOf_31 : decode cX6_aheadOf 31 = .ok (.iadd, 1) := by decide +kernel
theorem dX6_aheadOf_32 : decode cX6_aheadOf 32 = .ok (.iaload, 1) := by decide +kernel
theorem dX6_aheadOf_33 : decode cX6_aheadOf 33 = .ok (.if_icmp .gt 45, 3) := by decide +kernel
theorem dX6_aheadOf_36 : decode cX6_aheadOf 36 = .ok (.aload_n 0, 1) := by decide +kernel
theorem dX6_aheadOf_37 : decode cX6_aheadOf 37 = .ok (.getfield 22, 3) := by decide +kernel
theorem dX6_aheadOf_40 : decode cX6_aheadOf 40 = .ok (.bipush 39, 2) := by decide +kernel
theorem dX6_aheadOf_42 : decode cX6_aheadOf 42 = .ok (.iload_n 3, 1) := by decide +kernel
theorem dX6_aheadOf_43 : decode cX6_aheadOf 43 = .ok (.iadd, 1) := by decide +kernel
theorem dX6_aheadOf_44 : decode cX6_aheadOf 44 = .ok (.iaload, 1) := by decide +kernel
theorem dX6_aheadOf_45 : decode cX6_aheadOf 45 = .ok (.aload_n 0, 1) := by decide +kernel
theorem dX6_aheadOf_46 : decode cX6_aheadOf 46 = .ok (.getfield 22, 3) := by decide +kernel
theorem dX6_aheadOf_49 : decode cX6_aheadOf 49 = .ok (.bipush 39, 2) := by decide +kernel
theorem dX6_aheadOf_51 : decode cX6_aheadOf 51 = .ok (.iload_n 1, 1) := by decide +kernel
theorem dX6_aheadOf_52 : decode cX6_aheadOf 52 = .ok (.iadd, 1) := by decide +kernel
theorem dX6_aheadOf_53 : decode cX6_aheadOf 53 = .ok (.iaload, 1) := by decide +kernel
theorem dX6_aheadOf_54 : decode cX6_aheadOf 54 = .ok (.if_icmp .ne 28, 3) := by decide +kernel
theorem dX6_aheadOf_57 : decode cX6_aheadOf 57 = .ok (.aload_n 0, 1) := by decide +kernel
theorem dX6_aheadOf_58 : decode cX6_aheadOf 58 = .ok (.getfield 22, 3) := by decide +kernel
theorem dX6_aheadOf_61 : decode cX6_aheadOf 61 = .ok (.bipush 31, 2) := by decide +kernel
theorem dX6_aheadOf_63 : decode cX6_aheadOf 63 = .ok (.iload_n 3, 1) := by decide +kernel
theorem dX6_aheadOf_64 : decode cX6_aheadOf 64 = .ok (.iadd, 1) := by decide +kernel
theorem dX6_aheadOf_65 : decode cX6_aheadOf 65 = .ok (.iaload, 1) := by decide +kernel
theorem dX6_aheadOf_66 : decode cX6_aheadOf 66 = .ok (.aload_n 0, 1) := by decide +kernel
theorem dX6_aheadOf_67 : decode cX6_aheadOf 67 = .ok (.getfield 22, 3) := by decide +kernel
theorem dX6_aheadOf_70 : decode cX6_aheadOf 70 = .ok (.bipush 31, 2) := by decide +kernel
theorem dX6_aheadOf_72 : decode cX6_aheadOf 72 = .ok (.iload_n 1, 1) := by decide +kernel
theorem dX6_aheadOf_73 : decode cX6_aheadOf 73 = .ok (.iadd, 1) := by decide +kernel
theorem dX6_aheadOf_74 : decode cX6_aheadOf 74 = .ok (.iaload, 1) := by decide +kernel
theorem dX6_aheadOf_75 : decode cX6_aheadOf 75 = .ok (.if_icmp .ge 7, 3) := by decide +kernel
theorem dX6_aheadOf_78 : decode cX6_aheadOf 78 = .ok (.iconst 1, 1) := by decide +kernel
theorem dX6_aheadOf_79 : decode cX6_aheadOf 79 = .ok (.goto 4, 3) := by decide +kernel
theorem dX6_aheadOf_82 : decode cX6_aheadOf 82 = .ok (.iconst 0, 1) := by decide +kernel
theorem dX6_aheadOf_83 : decode cX6_aheadOf 83 = .ok (.istore 4, 2) := by decide +kernel
theorem dX6_aheadOf_85 : decode cX6_aheadOf 85 = .ok (.iload_n 2, 1) := by decide +kernel
theorem dX6_aheadOf_86 : decode cX6_aheadOf 86 = .ok (.iload 4, 2) := by decide +kernel
theorem dX6_aheadOf_88 : decode cX6_aheadOf 88 = .ok (.ifCond .eq 7, 3) := by decide +kernel
theorem dX6_aheadOf_91 : decode cX6_aheadOf 91 = .ok (.iconst 1, 1) := by decide +kernel
theorem dX6_aheadOf_92 : decode cX6_aheadOf 92 = .ok (.goto 4, 3) := by decide +kernel
theorem dX6_aheadOf_95 : decode cX6_aheadOf 95 = .ok (.iconst 0, 1) := by decide +kernel
theorem dX6_aheadOf_96 : decode cX6_aheadOf 96 = .ok (.iadd, 1) := by decide +kernel
theorem dX6_aheadOf_97 : decode cX6_aheadOf 97 = .ok (.istore_n 2, 1) := by decide +kernel
theorem dX6_aheadOf_98 : decode cX6_aheadOf 98 = .ok (.iinc 3 1, 3) := by decide +kernel
theorem dX6_aheadOf_101 : decode cX6_aheadOf 101 = .ok (.goto (-97), 3) := by decide +kernel
theorem dX6_aheadOf_104 : decode cX6_aheadOf 104 = .ok (.iload_n 2, 1) := by decide +kernel
theorem dX6_aheadOf_105 : decode cX6_aheadOf 105 = .ok (.ireturn, 1) := by decide +kernel
theorem dX6_list_0 : decode cX6_list 0 = .ok (.bipush (-9), 2) := by decide +kernel
theorem dX6_list_2 : decode cX6_list 2 = .ok (.istore_n 3, 1) := by decide +kernel
theorem dX6_list_3 : decode cX6_list 3 = .ok (.iconst 0, 1) := by decide +kernel
theorem dX6_list_4 : decode cX6_list 4 = .ok (.istore 4, 2) := by decide +kernel
theorem dX6_list_6 : decode cX6_list 6 = .ok (.iload 4, 2) := by decide +kernel
theorem dX6_list_8 : decode cX6_list 8 = .ok (.aload_n 0, 1) := by decide +kernel
theorem dX6_list_9 : decode cX6_list 9 = .ok (.getfield 22, 3) := by decide +kernel
theorem dX6_list_12 : decode cX6_list 12 = .ok (.bipush 30, 2) := by decide +kernel
theorem dX6_list_14 : decode cX6_list 14 = .ok (.iaload, 1) := by decide +kernel
theorem dX6_list_15 : decode cX6_list 15 = .ok (.if_icmp .ge 43, 3) := by decide +kernel
theorem dX6_list_18 : decode cX6_list 18 = .ok (.aload_n 0, 1) := by decide +kernel
theorem dX6_list_19 : decode cX6_list 19 = .ok (.iload 4, 2) := by decide +kernel
theorem dX6_list_21 : decode cX6_list 21 = .ok (.invokevirtual 190, 3) := by decide +kernel
theorem dX6_list_24 : decode cX6_list 24 = .ok (.iload_n 1, 1) := by decide +kernel
theorem dX6_list_25 : decode cX6_list 25 = .ok (.if_icmp .ne 25, 3) := by decide +kernel
theorem dX6_list_28 : decode cX6_list 28 = .ok (.aload_n 0, 1) := by decide +kernel
theorem dX6_list_29 : decode cX6_list 29 = .ok (.getfield 22, 3) := by decide +kernel
theorem dX6_list_32 : decode cX6_list 32 = .ok (.iload_n 2, 1) := by decide +kernel
theorem dX6_list_33 : decode cX6_list 33 = .ok (.ifCond .eq 8, 3) := by decide +kernel
theorem dX6_list_36 : decode cX6_list 36 = .ok (.bipush 39, 2) := by decide +kernel
theorem dX6_list_38 : decode cX6_list 38 = .ok (.goto 5, 3) := by decide +kernel
theorem dX6_list_41 : decode cX6_list 41 = .ok (.bipush 31, 2) := by decide +kernel
theorem dX6_list_43 : decode cX6_list 43 = .ok (.iload 4, 2) := by decide +kernel
theorem dX6_list_45 : decode cX6_list 45 = .ok (.iadd, 1) := by decide +kernel
theorem dX6_list_46 : decode cX6_list 46 = .ok (.iaload, 1) := by decide +kernel
theorem dX6_list_47 : decode cX6_list 47 = .ok (.goto 4, 3) := by decide +kernel
theorem dX6_list_50 : decode cX6_list 50 = .ok (.iload_n 3, 1) := by decide +kernel
theorem dX6_list_51 : decode cX6_list 51 = .ok (.istore_n 3, 1) := by decide +kernel
theorem dX6_list_52 : decode cX6_list 52 = .ok (.iinc 4 1, 3) := by decide +kernel
theorem dX6_list_55 : decode cX6_list 55 = .ok (.goto (-49), 3) := by decide +kernel
theorem dX6_list_58 : decode cX6_list 58 = .ok (.iload_n 3, 1) := by decide +kernel
theorem dX6_list_59 : decode cX6_list 59 = .ok (.ireturn, 1) := by decide +kernel
theorem dX6_word_0 : decode cX6_word 0 = .ok (.iload_n 1, 1) := by decide +kernel
theorem dX6_word_1 : decode cX6_word 1 = .ok (.invokestatic 183, 3) := by decide +kernel
theorem dX6_word_4 : decode cX6_word 4 = .ok (.ifCond .ne 7, 3) := by decide +kernel
theorem dX6_word_7 : decode cX6_word 7 = .ok (.iconst (-1), 1) := by decide +kernel
theorem dX6_word_8 : decode cX6_word 8 = .ok (.goto 26, 3) := by decide +kernel
theorem dX6_word_11 : decode cX6_word 11 = .ok (.iload_n 2, 1) := by decide +kernel
theorem dX6_word_12 : decode cX6_word 12 = .ok (.i2l, 1) := by decide +kernel
theorem dX6_word_13 : decode cX6_word 13 = .ok (.lconst 0, 1) := by decide +kernel
theorem dX6_word_14 : decode cX6_word 14 = .ok (.ldc2_w 92, 3) := by decide +kernel
theorem dX6_word_17 : decode cX6_word 17 = .ok (.invokestatic 68, 3) := by decide +kernel
theorem dX6_word_20 : decode cX6_word 20 = .ok (.ifCond .eq 12, 3) := by decide +kernel
theorem dX6_word_23 : decode cX6_word 23 = .ok (.aload_n 0, 1) := by decide +kernel
theorem dX6_word_24 : decode cX6_word 24 = .ok (.iload_n 1, 1) := by decide +kernel
theorem dX6_word_25 : decode cX6_word 25 = .ok (.iload_n 2, 1) := by decide +kernel
theorem dX6_word_26 : decode cX6_word 26 = .ok (.invokevirtual 168, 3) := by decide +kernel
theorem dX6_word_29 : decode cX6_word 29 = .ok (.goto 5, 3) := by decide +kernel
theorem dX6_word_32 : decode cX6_word 32 = .ok (.bipush (-2), 2) := by decide +kernel
theorem dX6_word_34 : decode cX6_word 34 = .ok (.ireturn, 1) := by decide +kernel
theorem dX6_rest_0 : decode cX6_rest 0 = .ok (.iload_n 1, 1) := by decide +kernel
theorem dX6_rest_1 : decode cX6_rest 1 = .ok (.invokestatic 183, 3) := by decide +kernel
theorem dX6_rest_4 : decode cX6_rest 4 = .ok (.ifCond .ne 7, 3) := by decide +kernel
theorem dX6_rest_7 : decode cX6_rest 7 = .ok (.iconst (-1), 1) := by decide +kernel
theorem dX6_rest_8 : decode cX6_rest 8 = .ok (.goto 26, 3) := by decide +kernel
theorem dX6_rest_11 : decode cX6_rest 11 = .ok (.iload_n 2, 1) := by decide +kernel
theorem dX6_rest_12 : decode cX6_rest 12 = .ok (.i2l, 1) := by decide +kernel
theorem dX6_rest_13 : decode cX6_rest 13 = .ok (.lconst 0, 1) := by decide +kernel
theorem dX6_rest_14 : decode cX6_rest 14 = .ok (.ldc2_w 193, 3) := by decide +kernel
theorem dX6_rest_17 : decode cX6_rest 17 = .ok (.invokestatic 68, 3) := by decide +kernel
theorem dX6_rest_20 : decode cX6_rest 20 = .ok (.ifCond .eq 12, 3) := by decide +kernel
theorem dX6_rest_23 : decode cX6_rest 23 = .ok (.aload_n 0, 1) := by decide +kernel
theorem dX6_rest_24 : decode cX6_rest 24 = .ok (.iload_n 1, 1) := by decide +kernel
theorem dX6_rest_25 : decode cX6_rest 25 = .ok (.iload_n 2, 1) := by decide +kernel
theorem dX6_rest_26 : decode cX6_rest 26 = .ok (.invokevirtual 146, 3) := by decide +kernel
theorem dX6_rest_29 : decode cX6_rest 29 = .ok (.goto 5, 3) := by decide +kernel
theorem dX6_rest_32 : decode cX6_rest 32 = .ok (.bipush (-2), 2) := by decide +kernel
theorem dX6_rest_34 : decode cX6_rest 34 = .ok (.ireturn, 1) := by decide +kernel
theorem dX6_mended_0 : decode cX6_mended 0 = .ok (.iload_n 1, 1) := by decide +kernel
theorem dX6_mended_1 : decode cX6_mended 1 = .ok (.invokestatic 183, 3) := by decide +kernel
theorem dX6_mended_4 : decode cX6_mended 4 = .ok (.ifCond .ne 5, 3) := by decide +kernel
theorem dX6_mended_7 : decode cX6_mended 7 = .ok (.iconst (-1), 1) := by decide +kernel
theorem dX6_mended_8 : decode cX6_mended 8 = .ok (.ireturn, 1) := by decide +kernel
theorem dX6_mended_9 : decode cX6_mended 9 = .ok (.iload_n 2, 1) := by decide +kernel
theorem dX6_mended_10 : decode cX6_mended 10 = .ok (.i2l, 1) := by decide +kernel
theorem dX6_mended_11 : decode cX6_mended 11 = .ok (.lconst 0, 1) := by decide +kernel
theorem dX6_mended_12 : decode cX6_mended 12 = .ok (.ldc2_w 193, 3) := by decide +kernel
theorem dX6_mended_15 : decode cX6_mended 15 = .ok (.invokestatic 68, 3) := by decide +kernel
theorem dX6_mended_18 : decode cX6_mended 18 = .ok (.ifCond .ne 6, 3) := by decide +kernel
theorem dX6_mended_21 : decode cX6_mended 21 = .ok (.bipush (-2), 2) := by decide +kernel
theorem dX6_mended_23 : decode cX6_mended 23 = .ok (.ireturn, 1) := by decide +kernel
theorem dX6_mended_24 : decode cX6_mended 24 = .ok (.aload_n 0, 1) := by decide +kernel
theorem dX6_mended_25 : decode cX6_mended 25 = .ok (.iload_n 1, 1) := by decide +kernel
theorem dX6_mended_26 : decode cX6_mended 26 = .ok (.iload_n 2, 1) := by decide +kernel
theorem dX6_mended_27 : decode cX6_mended 27 = .ok (.invokevirtual 146, 3) := by decide +kernel
theorem dX6_mended_30 : decode cX6_mended 30 = .ok (.istore_n 3, 1) := by decide +kernel
theorem dX6_mended_31 : decode cX6_mended 31 = .ok (.aload_n 0, 1) := by decide +kernel
theorem dX6_mended_32 : decode cX6_mended 32 = .ok (.iload_n 3, 1) := by decide +kernel
theorem dX6_mended_33 : decode cX6_mended 33 = .ok (.invokevirtual 150, 3) := by decide +kernel
theorem dX6_mended_36 : decode cX6_mended 36 = .ok (.istore 4, 2) := by decide +kernel
theorem dX6_mended_38 : decode cX6_mended 38 = .ok (.iload_n 3, 1) := by decide +kernel
theorem dX6_mended_39 : decode cX6_mended 39 = .ok (.ifCond .eq 13, 3) := by decide +kernel
theorem dX6_mended_42 : decode cX6_mended 42 = .ok (.iload 4, 2) := by decide +kernel
theorem dX6_mended_44 : decode cX6_mended 44 = .ok (.ifCond .ne 8, 3) := by decide +kernel
theorem dX6_mended_47 : decode cX6_mended 47 = .ok (.bipush (-9), 2) := by decide +kernel
theorem dX6_mended_49 : decode cX6_mended 49 = .ok (.goto 10, 3) := by decide +kernel
theorem dX6_mended_52 : decode cX6_mended 52 = .ok (.iload_n 2, 1) := by decide +kernel
theorem dX6_mended_53 : decode cX6_mended 53 = .ok (.iload 4, 2) := by decide +kernel
theorem dX6_mended_55 : decode cX6_mended 55 = .ok (.ixor, 1) := by decide +kernel
theorem dX6_mended_56 : decode cX6_mended 56 = .ok (.bipush 64, 2) := by decide +kernel
theorem dX6_mended_58 : decode cX6_mended 58 = .ok (.idiv, 1) := by decide +kernel
theorem dX6_mended_59 : decode cX6_mended 59 = .ok (.ireturn, 1) := by decide +kernel
theorem dX6_distance_0 : decode cX6_distance 0 = .ok (.bipush 14, 2) := by decide +kernel
theorem dX6_distance_2 : decode cX6_distance 2 = .ok (.istore_n 1, 1) := by decide +kernel
theorem dX6_distance_3 : decode cX6_distance 3 = .ok (.iconst 1, 1) := by decide +kernel
theorem dX6_distance_4 : decode cX6_distance 4 = .ok (.istore_n 2, 1) := by decide +kernel
theorem dX6_distance_5 : decode cX6_distance 5 = .ok (.iload_n 2, 1) := by decide +kernel
theorem dX6_distance_6 : decode cX6_distance 6 = .ok (.sipush 256, 3) := by decide +kernel
theorem dX6_distance_9 : decode cX6_distance 9 = .ok (.if_icmp .ge 37, 3) := by decide +kernel
theorem dX6_distance_12 : decode cX6_distance 12 = .ok (.bipush 64, 2) := by decide +kernel
theorem dX6_distance_14 : decode cX6_distance 14 = .ok (.iload_n 2, 1) := by decide +kernel
theorem dX6_distance_15 : decode cX6_distance 15 = .ok (.imul, 1) := by decide +kernel
theorem dX6_distance_16 : decode cX6_distance 16 = .ok (.aload_n 0, 1) := by decide +kernel
theorem dX6_distance_17 : decode cX6_distance 17 = .ok (.bipush 64, 2) := by decide +kernel
theorem dX6_distance_19 : decode cX6_distance 19 = .ok (.iload_n 2, 1) := by decide +kernel
theorem dX6_distance_20 : decode cX6_distance 20 = .ok (.imul, 1) := by decide +kernel
theorem dX6_distance_21 : decode cX6_distance 21 = .ok (.invokevirtual 89, 3) := by decide +kernel
theorem dX6_distance_24 : decode cX6_distance 24 = .ok (.iadd, 1) := by decide +kernel
theorem dX6_distance_25 : decode cX6_distance 25 = .ok (.invokestatic 195, 3) := by decide +kernel
theorem dX6_distance_28 : decode cX6_distance 28 = .ok (.istore_n 3, 1) := by decide +kernel
theorem dX6_distance_29 : decode cX6_distance 29 = .ok (.iload_n 3, 1) := by decide +kernel
theorem dX6_distance_30 : decode cX6_distance 30 = .ok (.iload_n 1, 1) := by decide +kernel
theorem dX6_distance_31 : decode cX6_distance 31 = .ok (.if_icmp .ge 7, 3) := by decide +kernel
theorem dX6_distance_34 : decode cX6_distance 34 = .ok (.iload_n 3, 1) := by decide +kernel
theorem dX6_distance_35 : decode cX6_distance 35 = .ok (.goto 4, 3) := by decide +kernel
theorem dX6_distance_38 : decode cX6_distance 38 = .ok (.iload_n 1, 1) := by decide +kernel
theorem dX6_distance_39 : decode cX6_distance 39 = .ok (.istore_n 1, 1) := by decide +kernel
theorem dX6_distance_40 : decode cX6_distance 40 = .ok (.iinc 2 1, 3) := by decide +kernel
theorem dX6_distance_43 : decode cX6_distance 43 = .ok (.goto (-38), 3) := by decide +kernel
theorem dX6_distance_46 : decode cX6_distance 46 = .ok (.iload_n 1, 1) := by decide +kernel
theorem dX6_distance_47 : decode cX6_distance 47 = .ok (.ireturn, 1) := by decide +kernel
theorem dX6_flips_0 : decode cX6_flips 0 = .ok (.iload_n 1, 1) := by decide +kernel
theorem dX6_flips_1 : decode cX6_flips 1 = .ok (.i2l, 1) := by decide +kernel
theorem dX6_flips_2 : decode cX6_flips 2 = .ok (.lconst 0, 1) := by decide +kernel
theorem dX6_flips_3 : decode cX6_flips 3 = .ok (.ldc2_w 141, 3) := by decide +kernel
theorem dX6_flips_6 : decode cX6_flips 6 = .ok (.invokestatic 68, 3) := by decide +kernel
theorem dX6_flips_9 : decode cX6_flips 9 = .ok (.ifCond .eq 15, 3) := by decide +kernel
theorem dX6_flips_12 : decode cX6_flips 12 = .ok (.iload_n 2, 1) := by decide +kernel
theorem dX6_flips_13 : decode cX6_flips 13 = .ok (.i2l, 1) := by decide +kernel
theorem dX6_flips_14 : decode cX6_flips 14 = .ok (.lconst 0, 1) := by decide +kernel
theorem dX6_flips_15 : decode cX6_flips 15 = .ok (.ldc2_w 66, 3) := by decide +kernel
theorem dX6_flips_18 : decode cX6_flips 18 = .ok (.invokestatic 68, 3) := by decide +kernel
theorem dX6_flips_21 : decode cX6_flips 21 = .ok (.ifCond .ne 6, 3) := by decide +kernel
theorem dX6_flips_24 : decode cX6_flips 24 = .ok (.bipush (-2), 2) := by decide +kernel
theorem dX6_flips_26 : decode cX6_flips 26 = .ok (.ireturn, 1) := by decide +kernel
theorem dX6_flips_27 : decode cX6_flips 27 = .ok (.iconst 0, 1) := by decide +kernel
theorem dX6_flips_28 : decode cX6_flips 28 = .ok (.istore_n 3, 1) := by decide +kernel
theorem dX6_flips_29 : decode cX6_flips 29 = .ok (.iconst 0, 1) := by decide +kernel
theorem dX6_flips_30 : decode cX6_flips 30 = .ok (.istore 4, 2) := by decide +kernel
theorem dX6_flips_32 : decode cX6_flips 32 = .ok (.iload 4, 2) := by decide +kernel
theorem dX6_flips_34 : decode cX6_flips 34 = .ok (.sipush 16383, 3) := by decide +kernel
theorem dX6_flips_37 : decode cX6_flips 37 = .ok (.if_icmp .gt 80, 3) := by decide +kernel
theorem dX6_flips_40 : decode cX6_flips 40 = .ok (.iload 4, 2) := by decide +kernel
theorem dX6_flips_42 : decode cX6_flips 42 = .ok (.invokestatic 195, 3) := by decide +kernel
theorem dX6_flips_45 : decode cX6_flips 45 = .ok (.iload_n 1, 1) := by decide +kernel
theorem dX6_flips_46 : decode cX6_flips 46 = .ok (.if_icmp .ne 65, 3) := by decide +kernel
theorem dX6_flips_49 : decode cX6_flips 49 = .ok (.aload_n 0, 1) := by decide +kernel
theorem dX6_flips_50 : decode cX6_flips 50 = .ok (.iload 4, 2) := by decide +kernel
theorem dX6_flips_52 : decode cX6_flips 52 = .ok (.invokevirtual 89, 3) := by decide +kernel
theorem dX6_flips_55 : decode cX6_flips 55 = .ok (.istore 5, 2) := by decide +kernel
theorem dX6_flips_57 : decode cX6_flips 57 = .ok (.aload_n 0, 1) := by decide +kernel
theorem dX6_flips_58 : decode cX6_flips 58 = .ok (.iload 5, 2) := by decide +kernel
theorem dX6_flips_60 : decode cX6_flips 60 = .ok (.invokevirtual 150, 3) := by decide +kernel
theorem dX6_flips_63 : decode cX6_flips 63 = .ok (.istore 6, 2) := by decide +kernel
theorem dX6_flips_65 : decode cX6_flips 65 = .ok (.iload 5, 2) := by decide +kernel
theorem dX6_flips_67 : decode cX6_flips 67 = .ok (.ifCond .ne 7, 3) := by decide +kernel
theorem dX6_flips_70 : decode cX6_flips 70 = .ok (.iconst 0, 1) := by decide +kernel
theorem dX6_flips_71 : decode cX6_flips 71 = .ok (.goto 24, 3) := by decide +kernel
theorem dX6_flips_74 : decode cX6_flips 74 = .ok (.iload 6, 2) := by decide +kernel
theorem dX6_flips_76 : decode cX6_flips 76 = .ok (.ifCond .ne 7, 3) := by decide +kernel
theorem dX6_flips_79 : decode cX6_flips 79 = .ok (.iconst 3, 1) := by decide +kernel
theorem dX6_flips_80 : decode cX6_flips 80 = .ok (.goto 15, 3) := by decide +kernel
theorem dX6_flips_83 : decode cX6_flips 83 = .ok (.iload 6, 2) := by decide +kernel
theorem dX6_flips_85 : decode cX6_flips 85 = .ok (.iload 4, 2) := by decide +kernel
theorem dX6_flips_87 : decode cX6_flips 87 = .ok (.if_icmp .ne 7, 3) := by decide +kernel
theorem dX6_flips_90 : decode cX6_flips 90 = .ok (.iconst 1, 1) := by decide +kernel
theorem dX6_flips_91 : decode cX6_flips 91 = .ok (.goto 4, 3) := by decide +kernel
theorem dX6_flips_94 : decode cX6_flips 94 = .ok (.iconst 2, 1) := by decide +kernel
theorem dX6_flips_95 : decode cX6_flips 95 = .ok (.istore 7, 2) := by decide +kernel
theorem dX6_flips_97 : decode cX6_flips 97 = .ok (.iload_n 3, 1) := by decide +kernel
theorem dX6_flips_98 : decode cX6_flips 98 = .ok (.iload 7, 2) := by decide +kernel
theorem dX6_flips_100 : decode cX6_flips 100 = .ok (.iload_n 2, 1) := by decide +kernel
theorem dX6_flips_101 : decode cX6_flips 101 = .ok (.if_icmp .ne 7, 3) := by decide +kernel
theorem dX6_flips_104 : decode cX6_flips 104 = .ok (.iconst 1, 1) := by decide +kernel
theorem dX6_flips_105 : decode cX6_flips 105 = .ok (.goto 4, 3) := by decide +kernel
theorem dX6_flips_108 : decode cX6_flips 108 = .ok (.iconst 0, 1) := by decide +kernel
theorem dX6_flips_109 : decode cX6_flips 109 = .ok (.iadd, 1) := by decide +kernel
theorem dX6_flips_110 : decode cX6_flips 110 = .ok (.istore_n 3, 1) := by decide +kernel
theorem dX6_flips_111 : decode cX6_flips 111 = .ok (.iinc 4 1, 3) := by decide +kernel
theorem dX6_flips_114 : decode cX6_flips 114 = .ok (.goto (-82), 3) := by decide +kernel
theorem dX6_flips_117 : decode cX6_flips 117 = .ok (.iload_n 3, 1) := by decide +kernel
theorem dX6_flips_118 : decode cX6_flips 118 = .ok (.ireturn, 1) := by decide +kernel
theorem dX6_slips_0 : decode cX6_slips 0 = .ok (.iload_n 1, 1) := by decide +kernel
theorem dX6_slips_1 : decode cX6_slips 1 = .ok (.invokestatic 183, 3) := by decide +kernel
theorem dX6_slips_4 : decode cX6_slips 4 = .ok (.ifCond .ne 5, 3) := by decide +kernel
theorem dX6_slips_7 : decode cX6_slips 7 = .ok (.iconst (-1), 1) := by decide +kernel
theorem dX6_slips_8 : decode cX6_slips 8 = .ok (.ireturn, 1) := by decide +kernel
theorem dX6_slips_9 : decode cX6_slips 9 = .ok (.iload_n 2, 1) := by decide +kernel
theorem dX6_slips_10 : decode cX6_slips 10 = .ok (.i2l, 1) := by decide +kernel
theorem dX6_slips_11 : decode cX6_slips 11 = .ok (.lconst 0, 1) := by decide +kernel
theorem dX6_slips_12 : decode cX6_slips 12 = .ok (.ldc2_w 92, 3) := by decide +kernel
theorem dX6_slips_15 : decode cX6_slips 15 = .ok (.invokestatic 68, 3) := by decide +kernel
theorem dX6_slips_18 : decode cX6_slips 18 = .ok (.ifCond .eq 15, 3) := by decide +kernel
theorem dX6_slips_21 : decode cX6_slips 21 = .ok (.iload_n 3, 1) := by decide +kernel
theorem dX6_slips_22 : decode cX6_slips 22 = .ok (.i2l, 1) := by decide +kernel
theorem dX6_slips_23 : decode cX6_slips 23 = .ok (.lconst 0, 1) := by decide +kernel
theorem dX6_slips_24 : decode cX6_slips 24 = .ok (.ldc2_w 92, 3) := by decide +kernel
theorem dX6_slips_27 : decode cX6_slips 27 = .ok (.invokestatic 68, 3) := by decide +kernel
theorem dX6_slips_30 : decode cX6_slips 30 = .ok (.ifCond .ne 6, 3) := by decide +kernel
theorem dX6_slips_33 : decode cX6_slips 33 = .ok (.bipush (-2), 2) := by decide +kernel
theorem dX6_slips_35 : decode cX6_slips 35 = .ok (.ireturn, 1) := by decide +kernel
theorem dX6_slips_36 : decode cX6_slips 36 = .ok (.aload_n 0, 1) := by decide +kernel
theorem dX6_slips_37 : decode cX6_slips 37 = .ok (.iload_n 1, 1) := by decide +kernel
theorem dX6_slips_38 : decode cX6_slips 38 = .ok (.iload_n 2, 1) := by decide +kernel
theorem dX6_slips_39 : decode cX6_slips 39 = .ok (.invokevirtual 168, 3) := by decide +kernel
theorem dX6_slips_42 : decode cX6_slips 42 = .ok (.bipush 14, 2) := by decide +kernel
theorem dX6_slips_44 : decode cX6_slips 44 = .ok (.ishl, 1) := by decide +kernel
theorem dX6_slips_45 : decode cX6_slips 45 = .ok (.aload_n 0, 1) := by decide +kernel
theorem dX6_slips_46 : decode cX6_slips 46 = .ok (.iload_n 1, 1) := by decide +kernel
theorem dX6_slips_47 : decode cX6_slips 47 = .ok (.iconst 1, 1) := by decide +kernel
theorem dX6_slips_48 : decode cX6_slips 48 = .ok (.iadd, 1) := by decide +kernel
theorem dX6_slips_49 : decode cX6_slips 49 = .ok (.iconst 4, 1) := by decide +kernel
theorem dX6_slips_50 : decode cX6_slips 50 = .ok (.irem, 1) := by decide +kernel
theorem dX6_slips_51 : decode cX6_slips 51 = .ok (.iload_n 3, 1) := by decide +kernel
theorem dX6_slips_52 : decode cX6_slips 52 = .ok (.invokevirtual 168, 3) := by decide +kernel
theorem dX6_slips_55 : decode cX6_slips 55 = .ok (.ior, 1) := by decide +kernel
theorem dX6_slips_56 : decode cX6_slips 56 = .ok (.istore 4, 2) := by decide +kernel
theorem dX6_slips_58 : decode cX6_slips 58 = .ok (.iconst 0, 1) := by decide +kernel
theorem dX6_slips_59 : decode cX6_slips 59 = .ok (.istore 5, 2) := by decide +kernel
theorem dX6_slips_61 : decode cX6_slips 61 = .ok (.iconst 1, 1) := by decide +kernel
theorem dX6_slips_62 : decode cX6_slips 62 = .ok (.istore 6, 2) := by decide +kernel
theorem dX6_slips_64 : decode cX6_slips 64 = .ok (.iload 6, 2) := by decide +kernel
theorem dX6_slips_66 : decode cX6_slips 66 = .ok (.bipush 14, 2) := by decide +kernel
theorem dX6_slips_68 : decode cX6_slips 68 = .ok (.if_icmp .ge 58, 3) := by decide +kernel
theorem dX6_slips_71 : decode cX6_slips 71 = .ok (.iconst 0, 1) := by decide +kernel
theorem dX6_slips_72 : decode cX6_slips 72 = .ok (.istore 7, 2) := by decide +kernel
theorem dX6_slips_74 : decode cX6_slips 74 = .ok (.iload 7, 2) := by decide +kernel
theorem dX6_slips_76 : decode cX6_slips 76 = .ok (.iconst 4, 1) := by decide +kernel
theorem dX6_slips_77 : decode cX6_slips 77 = .ok (.if_icmp .ge 43, 3) := by decide +kernel
theorem dX6_slips_80 : decode cX6_slips 80 = .ok (.iload 5, 2) := by decide +kernel
theorem dX6_slips_82 : decode cX6_slips 82 = .ok (.aload_n 0, 1) := by decide +kernel
theorem dX6_slips_83 : decode cX6_slips 83 = .ok (.iload 7, 2) := by decide +kernel
theorem dX6_slips_85 : decode cX6_slips 85 = .ok (.iload 4, 2) := by decide +kernel
theorem dX6_slips_87 : decode cX6_slips 87 = .ok (.bipush 14, 2) := by decide +kernel
theorem dX6_slips_89 : decode cX6_slips 89 = .ok (.iload 6, 2) := by decide +kernel
theorem dX6_slips_91 : decode cX6_slips 91 = .ok (.isub, 1) := by decide +kernel
theorem dX6_slips_92 : decode cX6_slips 92 = .ok (.ishr, 1) := by decide +kernel
theorem dX6_slips_93 : decode cX6_slips 93 = .ok (.sipush 16383, 3) := by decide +kernel
theorem dX6_slips_96 : decode cX6_slips 96 = .ok (.iand, 1) := by decide +kernel
theorem dX6_slips_97 : decode cX6_slips 97 = .ok (.invokevirtual 146, 3) := by decide +kernel
theorem dX6_slips_100 : decode cX6_slips 100 = .ok (.ifCond .ne 10, 3) := by decide +kernel
theorem dX6_slips_103 : decode cX6_slips 103 = .ok (.iconst 1, 1) := by decide +kernel
theorem dX6_slips_104 : decode cX6_slips 104 = .ok (.iload 6, 2) := by decide +kernel
theorem dX6_slips_106 : decode cX6_slips 106 = .ok (.ishl, 1) := by decide +kernel
theorem dX6_slips_107 : decode cX6_slips 107 = .ok (.goto 4, 3) := by decide +kernel
theorem dX6_slips_110 : decode cX6_slips 110 = .ok (.iconst 0, 1) := by decide +kernel
theorem dX6_slips_111 : decode cX6_slips 111 = .ok (.ior, 1) := by decide +kernel
theorem dX6_slips_112 : decode cX6_slips 112 = .ok (.istore 5, 2) := by decide +kernel
theorem dX6_slips_114 : decode cX6_slips 114 = .ok (.iinc 7 1, 3) := by decide +kernel
theorem dX6_slips_117 : decode cX6_slips 117 = .ok (.goto (-43), 3) := by decide +kernel
theorem dX6_slips_120 : decode cX6_slips 120 = .ok (.iinc 6 1, 3) := by decide +kernel
theorem dX6_slips_123 : decode cX6_slips 123 = .ok (.goto (-59), 3) := by decide +kernel
