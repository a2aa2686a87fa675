theorem dX0_init_0_0 : decode cX0_init_0 0 = .ok (.aload_n 0, 1) := by decide +kernel
theorem dX0_init_0_1 : decode cX0_init_0 1 = .ok (.iload_n 1, 1) := by decide +kernel
theorem dX0_init_0_2 : decode cX0_init_0 2 = .ok (.iload_n 2, 1) := by decide +kernel
theorem dX0_init_0_3 : decode cX0_init_0 3 = .ok (.iload_n 3, 1) := by decide +kernel
theorem dX0_init_0_4 : decode cX0_init_0 4 = .ok (.aload 4, 2) := by decide +kernel
theorem dX0_init_0_6 : decode cX0_init_0 6 = .ok (.iconst 0, 1) := by decide +kernel
theorem dX0_init_0_7 : decode cX0_init_0 7 = .ok (.iconst 0, 1) := by decide +kernel
theorem dX0_init_0_8 : decode cX0_init_0 8 = .ok (.invokespecial 1, 3) := by decide +kernel
theorem dX0_init_0_11 : decode cX0_init_0 11 = .ok (.return_, 1) := by decide +kernel
theorem dX0_init_1_0 : decode cX0_init_1 0 = .ok (.aload_n 0, 1) := by decide +kernel
theorem dX0_init_1_1 : decode cX0_init_1 1 = .ok (.invokespecial 7, 3) := by decide +kernel
theorem dX0_init_1_4 : decode cX0_init_1 4 = .ok (.aload_n 0, 1) := by decide +kernel
theorem dX0_init_1_5 : decode cX0_init_1 5 = .ok (.iload_n 1, 1) := by decide +kernel
theorem dX0_init_1_6 : decode cX0_init_1 6 = .ok (.putfield 12, 3) := by decide +kernel
theorem dX0_init_1_9 : decode cX0_init_1 9 = .ok (.aload_n 0, 1) := by decide +kernel
theorem dX0_init_1_10 : decode cX0_init_1 10 = .ok (.iload_n 2, 1) := by decide +kernel
theorem dX0_init_1_11 : decode cX0_init_1 11 = .ok (.putfield 16, 3) := by decide +kernel
theorem dX0_init_1_14 : decode cX0_init_1 14 = .ok (.aload_n 0, 1) := by decide +kernel
theorem dX0_init_1_15 : decode cX0_init_1 15 = .ok (.iload_n 3, 1) := by decide +kernel
theorem dX0_init_1_16 : decode cX0_init_1 16 = .ok (.putfield 19, 3) := by decide +kernel
theorem dX0_init_1_19 : decode cX0_init_1 19 = .ok (.aload_n 0, 1) := by decide +kernel
theorem dX0_init_1_20 : decode cX0_init_1 20 = .ok (.aload 4, 2) := by decide +kernel
theorem dX0_init_1_22 : decode cX0_init_1 22 = .ok (.putfield 22, 3) := by decide +kernel
theorem dX0_init_1_25 : decode cX0_init_1 25 = .ok (.aload_n 0, 1) := by decide +kernel
theorem dX0_init_1_26 : decode cX0_init_1 26 = .ok (.iload 5, 2) := by decide +kernel
theorem dX0_init_1_28 : decode cX0_init_1 28 = .ok (.putfield 26, 3) := by decide +kernel
theorem dX0_init_1_31 : decode cX0_init_1 31 = .ok (.aload_n 0, 1) := by decide +kernel
theorem dX0_init_1_32 : decode cX0_init_1 32 = .ok (.iload 6, 2) := by decide +kernel
theorem dX0_init_1_34 : decode cX0_init_1 34 = .ok (.putfield 29, 3) := by decide +kernel
theorem dX0_init_1_37 : decode cX0_init_1 37 = .ok (.return_, 1) := by decide +kernel
theorem dX1_init_0 : decode cX1_init 0 = .ok (.aload_n 0, 1) := by decide +kernel
theorem dX1_init_1 : decode cX1_init 1 = .ok (.invokespecial 3, 3) := by decide +kernel
theorem dX1_init_4 : decode cX1_init 4 = .ok (.aload_n 0, 1) := by decide +kernel
theorem dX1_init_5 : decode cX1_init 5 = .ok (.iconst 4, 1) := by decide +kernel
theorem dX1_init_6 : decode cX1_init 6 = .ok (.newarray .int, 2) := by decide +kernel
theorem dX1_init_8 : decode cX1_init 8 = .ok (.putfield 9, 3) := by decide +kernel
theorem dX1_init_11 : decode cX1_init 11 = .ok (.aload_n 0, 1) := by decide +kernel
theorem dX1_init_12 : decode cX1_init 12 = .ok (.iconst (-1), 1) := by decide +kernel
theorem dX1_init_13 : decode cX1_init 13 = .ok (.putfield 15, 3) := by decide +kernel
theorem dX1_init_16 : decode cX1_init 16 = .ok (.aload_n 0, 1) := by decide +kernel
theorem dX1_init_17 : decode cX1_init 17 = .ok (.iconst (-1), 1) := by decide +kernel
theorem dX1_init_18 : decode cX1_init 18 = .ok (.putfield 19, 3) := by decide +kernel
theorem dX1_init_21 : decode cX1_init 21 = .ok (.aload_n 0, 1) := by decide +kernel
theorem dX1_init_22 : decode cX1_init 22 = .ok (.iconst (-1), 1) := by decide +kernel
theorem dX1_init_23 : decode cX1_init 23 = .ok (.putfield 22, 3) := by decide +kernel
theorem dX1_init_26 : decode cX1_init 26 = .ok (.aload_n 0, 1) := by decide +kernel
theorem dX1_init_27 : decode cX1_init 27 = .ok (.iconst (-1), 1) := by decide +kernel
theorem dX1_init_28 : decode cX1_init 28 = .ok (.putfield 25, 3) := by decide +kernel
theorem dX1_init_31 : decode cX1_init 31 = .ok (.return_, 1) := by decide +kernel
theorem dX2_init_0 : decode cX2_init 0 = .ok (.aload_n 0, 1) := by decide +kernel
theorem dX2_init_1 : decode cX2_init 1 = .ok (.invokespecial 3, 3) := by decide +kernel
theorem dX2_init_4 : decode cX2_init 4 = .ok (.aload_n 0, 1) := by decide +kernel
theorem dX2_init_5 : decode cX2_init 5 = .ok (.iload_n 1, 1) := by decide +kernel
theorem dX2_init_6 : decode cX2_init 6 = .ok (.iconst 3, 1) := by decide +kernel
theorem dX2_init_7 : decode cX2_init 7 = .ok (.imul, 1) := by decide +kernel
theorem dX2_init_8 : decode cX2_init 8 = .ok (.newarray .int, 2) := by decide +kernel
theorem dX2_init_10 : decode cX2_init 10 = .ok (.putfield 9, 3) := by decide +kernel
theorem dX2_init_13 : decode cX2_init 13 = .ok (.return_, 1) := by decide +kernel
theorem dX2_put_0 : decode cX2_put 0 = .ok (.aload_n 0, 1) := by decide +kernel
theorem dX2_put_1 : decode cX2_put 1 = .ok (.getfield 15, 3) := by decide +kernel
theorem dX2_put_4 : decode cX2_put 4 = .ok (.iconst 3, 1) := by decide +kernel
theorem dX2_put_5 : decode cX2_put 5 = .ok (.iadd, 1) := by decide +kernel
theorem dX2_put_6 : decode cX2_put 6 = .ok (.aload_n 0, 1) := by decide +kernel
theorem dX2_put_7 : decode cX2_put 7 = .ok (.getfield 9, 3) := by decide +kernel
theorem dX2_put_10 : decode cX2_put 10 = .ok (.arraylength, 1) := by decide +kernel
theorem dX2_put_11 : decode cX2_put 11 = .ok (.if_icmp .le (4), 3) := by decide +kernel
theorem dX2_put_14 : decode cX2_put 14 = .ok (.return_, 1) := by decide +kernel
theorem dX2_put_15 : decode cX2_put 15 = .ok (.aload_n 0, 1) := by decide +kernel
theorem dX2_put_16 : decode cX2_put 16 = .ok (.aload_n 0, 1) := by decide +kernel
theorem dX2_put_17 : decode cX2_put 17 = .ok (.getfield 15, 3) := by decide +kernel
theorem dX2_put_20 : decode cX2_put 20 = .ok (.ifCond .ne (10), 3) := by decide +kernel
theorem dX2_put_23 : decode cX2_put 23 = .ok (.aload_n 2, 1) := by decide +kernel
theorem dX2_put_24 : decode cX2_put 24 = .ok (.getfield 19, 3) := by decide +kernel
theorem dX2_put_27 : decode cX2_put 27 = .ok (.goto (14), 3) := by decide +kernel
theorem dX2_put_30 : decode cX2_put 30 = .ok (.aload_n 0, 1) := by decide +kernel
theorem dX2_put_31 : decode cX2_put 31 = .ok (.getfield 24, 3) := by decide +kernel
theorem dX2_put_34 : decode cX2_put 34 = .ok (.aload_n 2, 1) := by decide +kernel
theorem dX2_put_35 : decode cX2_put 35 = .ok (.getfield 19, 3) := by decide +kernel
theorem dX2_put_38 : decode cX2_put 38 = .ok (.invokestatic 25, 3) := by decide +kernel
theorem dX2_put_41 : decode cX2_put 41 = .ok (.putfield 24, 3) := by decide +kernel
theorem dX2_put_44 : decode cX2_put 44 = .ok (.aload_n 0, 1) := by decide +kernel
theorem dX2_put_45 : decode cX2_put 45 = .ok (.getfield 9, 3) := by decide +kernel
theorem dX2_put_48 : decode cX2_put 48 = .ok (.aload_n 0, 1) := by decide +kernel
theorem dX2_put_49 : decode cX2_put 49 = .ok (.getfield 15, 3) := by decide +kernel
theorem dX2_put_52 : decode cX2_put 52 = .ok (.iload_n 1, 1) := by decide +kernel
theorem dX2_put_53 : decode cX2_put 53 = .ok (.iastore, 1) := by decide +kernel
theorem dX2_put_54 : decode cX2_put 54 = .ok (.aload_n 0, 1) := by decide +kernel
theorem dX2_put_55 : decode cX2_put 55 = .ok (.getfield 9, 3) := by decide +kernel
theorem dX2_put_58 : decode cX2_put 58 = .ok (.aload_n 0, 1) := by decide +kernel
theorem dX2_put_59 : decode cX2_put 59 = .ok (.getfield 15, 3) := by decide +kernel
theorem dX2_put_62 : decode cX2_put 62 = .ok (.iconst 2, 1) := by decide +kernel
theorem dX2_put_63 : decode cX2_put 63 = .ok (.iadd, 1) := by decide +kernel
theorem dX2_put_64 : decode cX2_put 64 = .ok (.aload_n 0, 1) := by decide +kernel
theorem dX2_put_65 : decode cX2_put 65 = .ok (.getfield 31, 3) := by decide +kernel
theorem dX2_put_68 : decode cX2_put 68 = .ok (.aload_n 2, 1) := by decide +kernel
theorem dX2_put_69 : decode cX2_put 69 = .ok (.getfield 34, 3) := by decide +kernel
theorem dX2_put_72 : decode cX2_put 72 = .ok (.iadd, 1) := by decide +kernel
theorem dX2_put_73 : decode cX2_put 73 = .ok (.iastore, 1) := by decide +kernel
theorem dX2_put_74 : decode cX2_put 74 = .ok (.aload_n 0, 1) := by decide +kernel
theorem dX2_put_75 : decode cX2_put 75 = .ok (.dup, 1) := by decide +kernel
theorem dX2_put_76 : decode cX2_put 76 = .ok (.getfield 15, 3) := by decide +kernel
theorem dX2_put_79 : decode cX2_put 79 = .ok (.iconst 3, 1) := by decide +kernel
theorem dX2_put_80 : decode cX2_put 80 = .ok (.iadd, 1) := by decide +kernel
theorem dX2_put_81 : decode cX2_put 81 = .ok (.putfield 15, 3) := by decide +kernel
theorem dX2_put_84 : decode cX2_put 84 = .ok (.aload_n 0, 1) := by decide +kernel
theorem dX2_put_85 : decode cX2_put 85 = .ok (.dup, 1) := by decide +kernel
theorem dX2_put_86 : decode cX2_put 86 = .ok (.getfield 31, 3) := by decide +kernel
theorem dX2_put_89 : decode cX2_put 89 = .ok (.aload_n 2, 1) := by decide +kernel
theorem dX2_put_90 : decode cX2_put 90 = .ok (.getfield 37, 3) := by decide +kernel
theorem dX2_put_93 : decode cX2_put 93 = .ok (.aload_n 2, 1) := by decide +kernel
theorem dX2_put_94 : decode cX2_put 94 = .ok (.getfield 34, 3) := by decide +kernel
theorem dX2_put_97 : decode cX2_put 97 = .ok (.iadd, 1) := by decide +kernel
theorem dX2_put_98 : decode cX2_put 98 = .ok (.iadd, 1) := by decide +kernel
theorem dX2_put_99 : decode cX2_put 99 = .ok (.putfield 31, 3) := by decide +kernel
theorem dX2_put_102 : decode cX2_put 102 = .ok (.return_, 1) := by decide +kernel
theorem dX2_asBox_0 : decode cX2_asBox 0 = .ok (.new 20, 3) := by decide +kernel
theorem dX2_asBox_3 : decode cX2_asBox 3 = .ok (.dup, 1) := by decide +kernel
theorem dX2_asBox_4 : decode cX2_asBox 4 = .ok (.aload_n 0, 1) := by decide +kernel
theorem dX2_asBox_5 : decode cX2_asBox 5 = .ok (.getfield 24, 3) := by decide +kernel
theorem dX2_asBox_8 : decode cX2_asBox 8 = .ok (.aload_n 0, 1) := by decide +kernel
theorem dX2_asBox_9 : decode cX2_asBox 9 = .ok (.getfield 31, 3) := by decide +kernel
theorem dX2_asBox_12 : decode cX2_asBox 12 = .ok (.iconst 0, 1) := by decide +kernel
theorem dX2_asBox_13 : decode cX2_asBox 13 = .ok (.aload_n 0, 1) := by decide +kernel
theorem dX2_asBox_14 : decode cX2_asBox 14 = .ok (.getfield 9, 3) := by decide +kernel
theorem dX2_asBox_17 : decode cX2_asBox 17 = .ok (.invokespecial 40, 3) := by decide +kernel
theorem dX2_asBox_20 : decode cX2_asBox 20 = .ok (.areturn, 1) := by decide +kernel
