theorem dX6_keep_4 : decode cX6_keep 4 = .ok (.invokestatic 68, 3) := by decide +kernel
theorem dX6_keep_7 : decode cX6_keep 7 = .ok (.ifCond .ne 5, 3) := by decide +kernel
theorem dX6_keep_10 : decode cX6_keep 10 = .ok (.iconst (-1), 1) := by decide +kernel
theorem dX6_keep_11 : decode cX6_keep 11 = .ok (.ireturn, 1) := by decide +kernel
theorem dX6_keep_12 : decode cX6_keep 12 = .ok (.aload_n 0, 1) := by decide +kernel
theorem dX6_keep_13 : decode cX6_keep 13 = .ok (.getfield 34, 3) := by decide +kernel
theorem dX6_keep_16 : decode cX6_keep 16 = .ok (.iload_n 1, 1) := by decide +kernel
theorem dX6_keep_17 : decode cX6_keep 17 = .ok (.iconst 1, 1) := by decide +kernel
theorem dX6_keep_18 : decode cX6_keep 18 = .ok (.bastore, 1) := by decide +kernel
theorem dX6_keep_19 : decode cX6_keep 19 = .ok (.iconst 0, 1) := by decide +kernel
theorem dX6_keep_20 : decode cX6_keep 20 = .ok (.istore_n 2, 1) := by decide +kernel
theorem dX6_keep_21 : decode cX6_keep 21 = .ok (.iload_n 2, 1) := by decide +kernel
theorem dX6_keep_22 : decode cX6_keep 22 = .ok (.bipush 47, 2) := by decide +kernel
theorem dX6_keep_24 : decode cX6_keep 24 = .ok (.if_icmp .ge 26, 3) := by decide +kernel
theorem dX6_keep_27 : decode cX6_keep 27 = .ok (.aload_n 0, 1) := by decide +kernel
theorem dX6_keep_28 : decode cX6_keep 28 = .ok (.getfield 31, 3) := by decide +kernel
theorem dX6_keep_31 : decode cX6_keep 31 = .ok (.bipush 47, 2) := by decide +kernel
theorem dX6_keep_33 : decode cX6_keep 33 = .ok (.iload_n 1, 1) := by decide +kernel
theorem dX6_keep_34 : decode cX6_keep 34 = .ok (.imul, 1) := by decide +kernel
theorem dX6_keep_35 : decode cX6_keep 35 = .ok (.iload_n 2, 1) := by decide +kernel
theorem dX6_keep_36 : decode cX6_keep 36 = .ok (.iadd, 1) := by decide +kernel
theorem dX6_keep_37 : decode cX6_keep 37 = .ok (.aload_n 0, 1) := by decide +kernel
theorem dX6_keep_38 : decode cX6_keep 38 = .ok (.getfield 22, 3) := by decide +kernel
theorem dX6_keep_41 : decode cX6_keep 41 = .ok (.iload_n 2, 1) := by decide +kernel
theorem dX6_keep_42 : decode cX6_keep 42 = .ok (.iaload, 1) := by decide +kernel
theorem dX6_keep_43 : decode cX6_keep 43 = .ok (.iastore, 1) := by decide +kernel
theorem dX6_keep_44 : decode cX6_keep 44 = .ok (.iinc 2 1, 3) := by decide +kernel
theorem dX6_keep_47 : decode cX6_keep 47 = .ok (.goto (-26), 3) := by decide +kernel
theorem dX6_keep_50 : decode cX6_keep 50 = .ok (.aload_n 0, 1) := by decide +kernel
theorem dX6_keep_51 : decode cX6_keep 51 = .ok (.getfield 22, 3) := by decide +kernel
theorem dX6_keep_54 : decode cX6_keep 54 = .ok (.iconst 0, 1) := by decide +kernel
theorem dX6_keep_55 : decode cX6_keep 55 = .ok (.iaload, 1) := by decide +kernel
theorem dX6_keep_56 : decode cX6_keep 56 = .ok (.ireturn, 1) := by decide +kernel
theorem dX6_again_0 : decode cX6_again 0 = .ok (.iload_n 1, 1) := by decide +kernel
theorem dX6_again_1 : decode cX6_again 1 = .ok (.i2l, 1) := by decide +kernel
theorem dX6_again_2 : decode cX6_again 2 = .ok (.lconst 0, 1) := by decide +kernel
theorem dX6_again_3 : decode cX6_again 3 = .ok (.lconst 1, 1) := by decide +kernel
theorem dX6_again_4 : decode cX6_again 4 = .ok (.invokestatic 68, 3) := by decide +kernel
theorem dX6_again_7 : decode cX6_again 7 = .ok (.ifCond .ne 5, 3) := by decide +kernel
theorem dX6_again_10 : decode cX6_again 10 = .ok (.iconst (-1), 1) := by decide +kernel
theorem dX6_again_11 : decode cX6_again 11 = .ok (.ireturn, 1) := by decide +kernel
theorem dX6_again_12 : decode cX6_again 12 = .ok (.aload_n 0, 1) := by decide +kernel
theorem dX6_again_13 : decode cX6_again 13 = .ok (.getfield 34, 3) := by decide +kernel
theorem dX6_again_16 : decode cX6_again 16 = .ok (.iload_n 1, 1) := by decide +kernel
theorem dX6_again_17 : decode cX6_again 17 = .ok (.baload, 1) := by decide +kernel
theorem dX6_again_18 : decode cX6_again 18 = .ok (.ifCond .ne 6, 3) := by decide +kernel
theorem dX6_again_21 : decode cX6_again 21 = .ok (.bipush (-3), 2) := by decide +kernel
theorem dX6_again_23 : decode cX6_again 23 = .ok (.ireturn, 1) := by decide +kernel
theorem dX6_again_24 : decode cX6_again 24 = .ok (.iconst 0, 1) := by decide +kernel
theorem dX6_again_25 : decode cX6_again 25 = .ok (.istore_n 2, 1) := by decide +kernel
theorem dX6_again_26 : decode cX6_again 26 = .ok (.iload_n 2, 1) := by decide +kernel
theorem dX6_again_27 : decode cX6_again 27 = .ok (.bipush 47, 2) := by decide +kernel
theorem dX6_again_29 : decode cX6_again 29 = .ok (.if_icmp .ge 26, 3) := by decide +kernel
theorem dX6_again_32 : decode cX6_again 32 = .ok (.aload_n 0, 1) := by decide +kernel
theorem dX6_again_33 : decode cX6_again 33 = .ok (.getfield 22, 3) := by decide +kernel
theorem dX6_again_36 : decode cX6_again 36 = .ok (.iload_n 2, 1) := by decide +kernel
theorem dX6_again_37 : decode cX6_again 37 = .ok (.aload_n 0, 1) := by decide +kernel
theorem dX6_again_38 : decode cX6_again 38 = .ok (.getfield 31, 3) := by decide +kernel
theorem dX6_again_41 : decode cX6_again 41 = .ok (.bipush 47, 2) := by decide +kernel
theorem dX6_again_43 : decode cX6_again 43 = .ok (.iload_n 1, 1) := by decide +kernel
theorem dX6_again_44 : decode cX6_again 44 = .ok (.imul, 1) := by decide +kernel
theorem dX6_again_45 : decode cX6_again 45 = .ok (.iload_n 2, 1) := by decide +kernel
theorem dX6_again_46 : decode cX6_again 46 = .ok (.iadd, 1) := by decide +kernel
theorem dX6_again_47 : decode cX6_again 47 = .ok (.iaload, 1) := by decide +kernel
theorem dX6_again_48 : decode cX6_again 48 = .ok (.iastore, 1) := by decide +kernel
theorem dX6_again_49 : decode cX6_again 49 = .ok (.iinc 2 1, 3) := by decide +kernel
theorem dX6_again_52 : decode cX6_again 52 = .ok (.goto (-26), 3) := by decide +kernel
theorem dX6_again_55 : decode cX6_again 55 = .ok (.aload_n 0, 1) := by decide +kernel
theorem dX6_again_56 : decode cX6_again 56 = .ok (.iconst 0, 1) := by decide +kernel
theorem dX6_again_57 : decode cX6_again 57 = .ok (.putfield 118, 3) := by decide +kernel
theorem dX6_again_60 : decode cX6_again 60 = .ok (.aload_n 0, 1) := by decide +kernel
theorem dX6_again_61 : decode cX6_again 61 = .ok (.getfield 22, 3) := by decide +kernel
theorem dX6_again_64 : decode cX6_again 64 = .ok (.iconst 0, 1) := by decide +kernel
theorem dX6_again_65 : decode cX6_again 65 = .ok (.iaload, 1) := by decide +kernel
theorem dX6_again_66 : decode cX6_again 66 = .ok (.ireturn, 1) := by decide +kernel
