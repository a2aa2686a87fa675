theorem dX4_init_0 : decode cX4_init 0 = .ok (.aload_n 0, 1) := by decide +kernel
theorem dX4_init_1 : decode cX4_init 1 = .ok (.invokespecial 1, 3) := by decide +kernel
theorem dX4_init_4 : decode cX4_init 4 = .ok (.aload_n 0, 1) := by decide +kernel
theorem dX4_init_5 : decode cX4_init 5 = .ok (.bipush (63), 2) := by decide +kernel
theorem dX4_init_7 : decode cX4_init 7 = .ok (.newarray .int, 2) := by decide +kernel
theorem dX4_init_9 : decode cX4_init 9 = .ok (.putfield 7, 3) := by decide +kernel
theorem dX4_init_12 : decode cX4_init 12 = .ok (.aload_n 0, 1) := by decide +kernel
theorem dX4_init_13 : decode cX4_init 13 = .ok (.bipush (120), 2) := by decide +kernel
theorem dX4_init_15 : decode cX4_init 15 = .ok (.newarray .int, 2) := by decide +kernel
theorem dX4_init_17 : decode cX4_init 17 = .ok (.putfield 13, 3) := by decide +kernel
theorem dX4_init_20 : decode cX4_init 20 = .ok (.aload_n 0, 1) := by decide +kernel
theorem dX4_init_21 : decode cX4_init 21 = .ok (.bipush (120), 2) := by decide +kernel
theorem dX4_init_23 : decode cX4_init 23 = .ok (.newarray .int, 2) := by decide +kernel
theorem dX4_init_25 : decode cX4_init 25 = .ok (.putfield 16, 3) := by decide +kernel
theorem dX4_init_28 : decode cX4_init 28 = .ok (.aload_n 0, 1) := by decide +kernel
theorem dX4_init_29 : decode cX4_init 29 = .ok (.bipush (120), 2) := by decide +kernel
theorem dX4_init_31 : decode cX4_init 31 = .ok (.newarray .int, 2) := by decide +kernel
theorem dX4_init_33 : decode cX4_init 33 = .ok (.putfield 19, 3) := by decide +kernel
theorem dX4_init_36 : decode cX4_init 36 = .ok (.aload_n 0, 1) := by decide +kernel
theorem dX4_init_37 : decode cX4_init 37 = .ok (.bipush (120), 2) := by decide +kernel
theorem dX4_init_39 : decode cX4_init 39 = .ok (.newarray .int, 2) := by decide +kernel
theorem dX4_init_41 : decode cX4_init 41 = .ok (.putfield 22, 3) := by decide +kernel
theorem dX4_init_44 : decode cX4_init 44 = .ok (.aload_n 0, 1) := by decide +kernel
theorem dX4_init_45 : decode cX4_init 45 = .ok (.bipush (120), 2) := by decide +kernel
theorem dX4_init_47 : decode cX4_init 47 = .ok (.newarray .int, 2) := by decide +kernel
theorem dX4_init_49 : decode cX4_init 49 = .ok (.putfield 25, 3) := by decide +kernel
theorem dX4_init_52 : decode cX4_init 52 = .ok (.aload_n 0, 1) := by decide +kernel
theorem dX4_init_53 : decode cX4_init 53 = .ok (.bipush (120), 2) := by decide +kernel
theorem dX4_init_55 : decode cX4_init 55 = .ok (.newarray .int, 2) := by decide +kernel
theorem dX4_init_57 : decode cX4_init 57 = .ok (.putfield 28, 3) := by decide +kernel
theorem dX4_init_60 : decode cX4_init 60 = .ok (.aload_n 0, 1) := by decide +kernel
theorem dX4_init_61 : decode cX4_init 61 = .ok (.bipush (120), 2) := by decide +kernel
theorem dX4_init_63 : decode cX4_init 63 = .ok (.newarray .int, 2) := by decide +kernel
theorem dX4_init_65 : decode cX4_init 65 = .ok (.putfield 31, 3) := by decide +kernel
theorem dX4_init_68 : decode cX4_init 68 = .ok (.aload_n 0, 1) := by decide +kernel
theorem dX4_init_69 : decode cX4_init 69 = .ok (.sipush (14800), 3) := by decide +kernel
theorem dX4_init_72 : decode cX4_init 72 = .ok (.newarray .int, 2) := by decide +kernel
theorem dX4_init_74 : decode cX4_init 74 = .ok (.putfield 34, 3) := by decide +kernel
theorem dX4_init_77 : decode cX4_init 77 = .ok (.aload_n 0, 1) := by decide +kernel
theorem dX4_init_78 : decode cX4_init 78 = .ok (.sipush (14800), 3) := by decide +kernel
theorem dX4_init_81 : decode cX4_init 81 = .ok (.newarray .int, 2) := by decide +kernel
theorem dX4_init_83 : decode cX4_init 83 = .ok (.putfield 37, 3) := by decide +kernel
theorem dX4_init_86 : decode cX4_init 86 = .ok (.aload_n 0, 1) := by decide +kernel
theorem dX4_init_87 : decode cX4_init 87 = .ok (.sipush (14800), 3) := by decide +kernel
theorem dX4_init_90 : decode cX4_init 90 = .ok (.newarray .int, 2) := by decide +kernel
theorem dX4_init_92 : decode cX4_init 92 = .ok (.putfield 40, 3) := by decide +kernel
theorem dX4_init_95 : decode cX4_init 95 = .ok (.aload_n 0, 1) := by decide +kernel
theorem dX4_init_96 : decode cX4_init 96 = .ok (.bipush (8), 2) := by decide +kernel
theorem dX4_init_98 : decode cX4_init 98 = .ok (.newarray .int, 2) := by decide +kernel
theorem dX4_init_100 : decode cX4_init 100 = .ok (.putfield 43, 3) := by decide +kernel
theorem dX4_init_103 : decode cX4_init 103 = .ok (.aload_n 0, 1) := by decide +kernel
theorem dX4_init_104 : decode cX4_init 104 = .ok (.bipush (32), 2) := by decide +kernel
theorem dX4_init_106 : decode cX4_init 106 = .ok (.newarray .int, 2) := by decide +kernel
theorem dX4_init_108 : decode cX4_init 108 = .ok (.putfield 46, 3) := by decide +kernel
theorem dX4_init_111 : decode cX4_init 111 = .ok (.aload_n 0, 1) := by decide +kernel
theorem dX4_init_112 : decode cX4_init 112 = .ok (.bipush (8), 2) := by decide +kernel
theorem dX4_init_114 : decode cX4_init 114 = .ok (.newarray .boolean, 2) := by decide +kernel
theorem dX4_init_116 : decode cX4_init 116 = .ok (.putfield 49, 3) := by decide +kernel
theorem dX4_init_119 : decode cX4_init 119 = .ok (.aload_n 0, 1) := by decide +kernel
theorem dX4_init_120 : decode cX4_init 120 = .ok (.bipush (32), 2) := by decide +kernel
theorem dX4_init_122 : decode cX4_init 122 = .ok (.newarray .int, 2) := by decide +kernel
theorem dX4_init_124 : decode cX4_init 124 = .ok (.putfield 53, 3) := by decide +kernel
theorem dX4_init_127 : decode cX4_init 127 = .ok (.aload_n 0, 1) := by decide +kernel
theorem dX4_init_128 : decode cX4_init 128 = .ok (.iconst 0, 1) := by decide +kernel
theorem dX4_init_129 : decode cX4_init 129 = .ok (.putfield 56, 3) := by decide +kernel
theorem dX4_init_132 : decode cX4_init 132 = .ok (.return_, 1) := by decide +kernel
theorem dX4_thrown_0 : decode cX4_thrown 0 = .ok (.aload_n 0, 1) := by decide +kernel
theorem dX4_thrown_1 : decode cX4_thrown 1 = .ok (.getfield 60, 3) := by decide +kernel
theorem dX4_thrown_4 : decode cX4_thrown 4 = .ok (.ireturn, 1) := by decide +kernel
theorem dX4_in_0 : decode cX4_in 0 = .ok (.iload_n 0, 1) := by decide +kernel
theorem dX4_in_1 : decode cX4_in 1 = .ok (.iload_n 1, 1) := by decide +kernel
theorem dX4_in_2 : decode cX4_in 2 = .ok (.if_icmp .lt (12), 3) := by decide +kernel
theorem dX4_in_5 : decode cX4_in 5 = .ok (.iload_n 0, 1) := by decide +kernel
theorem dX4_in_6 : decode cX4_in 6 = .ok (.iload_n 2, 1) := by decide +kernel
theorem dX4_in_7 : decode cX4_in 7 = .ok (.if_icmp .gt (7), 3) := by decide +kernel
theorem dX4_in_10 : decode cX4_in 10 = .ok (.iconst 1, 1) := by decide +kernel
theorem dX4_in_11 : decode cX4_in 11 = .ok (.goto (4), 3) := by decide +kernel
theorem dX4_in_14 : decode cX4_in 14 = .ok (.iconst 0, 1) := by decide +kernel
theorem dX4_in_15 : decode cX4_in 15 = .ok (.ireturn, 1) := by decide +kernel
theorem dX4_half_0 : decode cX4_half 0 = .ok (.iload_n 0, 1) := by decide +kernel
theorem dX4_half_1 : decode cX4_half 1 = .ok (.iconst 2, 1) := by decide +kernel
theorem dX4_half_2 : decode cX4_half 2 = .ok (.irem, 1) := by decide +kernel
theorem dX4_half_3 : decode cX4_half 3 = .ok (.ifCond .ne (9), 3) := by decide +kernel
theorem dX4_half_6 : decode cX4_half 6 = .ok (.iload_n 0, 1) := by decide +kernel
theorem dX4_half_7 : decode cX4_half 7 = .ok (.iconst 2, 1) := by decide +kernel
theorem dX4_half_8 : decode cX4_half 8 = .ok (.idiv, 1) := by decide +kernel
theorem dX4_half_9 : decode cX4_half 9 = .ok (.goto (8), 3) := by decide +kernel
theorem dX4_half_12 : decode cX4_half 12 = .ok (.iload_n 0, 1) := by decide +kernel
theorem dX4_half_13 : decode cX4_half 13 = .ok (.iconst 1, 1) := by decide +kernel
theorem dX4_half_14 : decode cX4_half 14 = .ok (.iadd, 1) := by decide +kernel
theorem dX4_half_15 : decode cX4_half 15 = .ok (.iconst 2, 1) := by decide +kernel
theorem dX4_half_16 : decode cX4_half 16 = .ok (.idiv, 1) := by decide +kernel
theorem dX4_half_17 : decode cX4_half 17 = .ok (.ireturn, 1) := by decide +kernel
theorem dX4_abs_0 : decode cX4_abs 0 = .ok (.iload_n 0, 1) := by decide +kernel
theorem dX4_abs_1 : decode cX4_abs 1 = .ok (.ifCond .ge (8), 3) := by decide +kernel
theorem dX4_abs_4 : decode cX4_abs 4 = .ok (.iload_n 0, 1) := by decide +kernel
theorem dX4_abs_5 : decode cX4_abs 5 = .ok (.ineg, 1) := by decide +kernel
theorem dX4_abs_6 : decode cX4_abs 6 = .ok (.goto (4), 3) := by decide +kernel
theorem dX4_abs_9 : decode cX4_abs 9 = .ok (.iload_n 0, 1) := by decide +kernel
theorem dX4_abs_10 : decode cX4_abs 10 = .ok (.ireturn, 1) := by decide +kernel
theorem dX4_greater_0 : decode cX4_greater 0 = .ok (.iload_n 0, 1) := by decide +kernel
theorem dX4_greater_1 : decode cX4_greater 1 = .ok (.iload_n 1, 1) := by decide +kernel
theorem dX4_greater_2 : decode cX4_greater 2 = .ok (.if_icmp .le (7), 3) := by decide +kernel
theorem dX4_greater_5 : decode cX4_greater 5 = .ok (.iload_n 0, 1) := by decide +kernel
theorem dX4_greater_6 : decode cX4_greater 6 = .ok (.goto (4), 3) := by decide +kernel
theorem dX4_greater_9 : decode cX4_greater 9 = .ok (.iload_n 1, 1) := by decide +kernel
theorem dX4_greater_10 : decode cX4_greater 10 = .ok (.ireturn, 1) := by decide +kernel
theorem dX4_isBox_0 : decode cX4_isBox 0 = .ok (.iload_n 1, 1) := by decide +kernel
theorem dX4_isBox_1 : decode cX4_isBox 1 = .ok (.iconst 0, 1) := by decide +kernel
theorem dX4_isBox_2 : decode cX4_isBox 2 = .ok (.aload_n 0, 1) := by decide +kernel
theorem dX4_isBox_3 : decode cX4_isBox 3 = .ok (.getfield 56, 3) := by decide +kernel
theorem dX4_isBox_6 : decode cX4_isBox 6 = .ok (.iconst 1, 1) := by decide +kernel
theorem dX4_isBox_7 : decode cX4_isBox 7 = .ok (.isub, 1) := by decide +kernel
theorem dX4_isBox_8 : decode cX4_isBox 8 = .ok (.invokestatic 63, 3) := by decide +kernel
theorem dX4_isBox_11 : decode cX4_isBox 11 = .ok (.ireturn, 1) := by decide +kernel
theorem dX4_isBoxOrNone_0 : decode cX4_isBoxOrNone 0 = .ok (.iload_n 1, 1) := by decide +kernel
theorem dX4_isBoxOrNone_1 : decode cX4_isBoxOrNone 1 = .ok (.iconst (-1), 1) := by decide +kernel
theorem dX4_isBoxOrNone_2 : decode cX4_isBoxOrNone 2 = .ok (.if_icmp .eq (11), 3) := by decide +kernel
theorem dX4_isBoxOrNone_5 : decode cX4_isBoxOrNone 5 = .ok (.aload_n 0, 1) := by decide +kernel
theorem dX4_isBoxOrNone_6 : decode cX4_isBoxOrNone 6 = .ok (.iload_n 1, 1) := by decide +kernel
theorem dX4_isBoxOrNone_7 : decode cX4_isBoxOrNone 7 = .ok (.invokevirtual 67, 3) := by decide +kernel
theorem dX4_isBoxOrNone_10 : decode cX4_isBoxOrNone 10 = .ok (.ifCond .eq (7), 3) := by decide +kernel
theorem dX4_isBoxOrNone_13 : decode cX4_isBoxOrNone 13 = .ok (.iconst 1, 1) := by decide +kernel
theorem dX4_isBoxOrNone_14 : decode cX4_isBoxOrNone 14 = .ok (.goto (4), 3) := by decide +kernel
theorem dX4_isBoxOrNone_17 : decode cX4_isBoxOrNone 17 = .ok (.iconst 0, 1) := by decide +kernel
theorem dX4_isBoxOrNone_18 : decode cX4_isBoxOrNone 18 = .ok (.ireturn, 1) := by decide +kernel
theorem dX4_isFamily_0 : decode cX4_isFamily 0 = .ok (.iload_n 0, 1) := by decide +kernel
theorem dX4_isFamily_1 : decode cX4_isFamily 1 = .ok (.iconst 0, 1) := by decide +kernel
theorem dX4_isFamily_2 : decode cX4_isFamily 2 = .ok (.bipush (7), 2) := by decide +kernel
theorem dX4_isFamily_4 : decode cX4_isFamily 4 = .ok (.invokestatic 63, 3) := by decide +kernel
theorem dX4_isFamily_7 : decode cX4_isFamily 7 = .ok (.ireturn, 1) := by decide +kernel
theorem dX4_isStyle_0 : decode cX4_isStyle 0 = .ok (.iload_n 0, 1) := by decide +kernel
theorem dX4_isStyle_1 : decode cX4_isStyle 1 = .ok (.iconst 0, 1) := by decide +kernel
theorem dX4_isStyle_2 : decode cX4_isStyle 2 = .ok (.iconst 3, 1) := by decide +kernel
theorem dX4_isStyle_3 : decode cX4_isStyle 3 = .ok (.invokestatic 63, 3) := by decide +kernel
theorem dX4_isStyle_6 : decode cX4_isStyle 6 = .ok (.ireturn, 1) := by decide +kernel
theorem dX4_p_0 : decode cX4_p 0 = .ok (.aload_n 0, 1) := by decide +kernel
theorem dX4_p_1 : decode cX4_p 1 = .ok (.getfield 7, 3) := by decide +kernel
theorem dX4_p_4 : decode cX4_p 4 = .ok (.bipush (21), 2) := by decide +kernel
theorem dX4_p_6 : decode cX4_p 6 = .ok (.aload_n 0, 1) := by decide +kernel
theorem dX4_p_7 : decode cX4_p 7 = .ok (.getfield 71, 3) := by decide +kernel
theorem dX4_p_10 : decode cX4_p 10 = .ok (.imul, 1) := by decide +kernel
theorem dX4_p_11 : decode cX4_p 11 = .ok (.iload_n 1, 1) := by decide +kernel
theorem dX4_p_12 : decode cX4_p 12 = .ok (.iadd, 1) := by decide +kernel
theorem dX4_p_13 : decode cX4_p 13 = .ok (.iaload, 1) := by decide +kernel
theorem dX4_p_14 : decode cX4_p 14 = .ok (.ireturn, 1) := by decide +kernel
theorem dX4_use_0 : decode cX4_use 0 = .ok (.aload_n 0, 1) := by decide +kernel
theorem dX4_use_1 : decode cX4_use 1 = .ok (.iload_n 1, 1) := by decide +kernel
theorem dX4_use_2 : decode cX4_use 2 = .ok (.iconst 2, 1) := by decide +kernel
theorem dX4_use_3 : decode cX4_use 3 = .ok (.if_icmp .ge (7), 3) := by decide +kernel
theorem dX4_use_6 : decode cX4_use 6 = .ok (.iconst 0, 1) := by decide +kernel
theorem dX4_use_7 : decode cX4_use 7 = .ok (.goto (6), 3) := by decide +kernel
theorem dX4_use_10 : decode cX4_use 10 = .ok (.iload_n 1, 1) := by decide +kernel
theorem dX4_use_11 : decode cX4_use 11 = .ok (.iconst 1, 1) := by decide +kernel
theorem dX4_use_12 : decode cX4_use 12 = .ok (.isub, 1) := by decide +kernel
theorem dX4_use_13 : decode cX4_use 13 = .ok (.putfield 71, 3) := by decide +kernel
theorem dX4_use_16 : decode cX4_use 16 = .ok (.return_, 1) := by decide +kernel
theorem dX4_parameter_0 : decode cX4_parameter 0 = .ok (.aload_n 0, 1) := by decide +kernel
theorem dX4_parameter_1 : decode cX4_parameter 1 = .ok (.iload_n 1, 1) := by decide +kernel
theorem dX4_parameter_2 : decode cX4_parameter 2 = .ok (.iconst 0, 1) := by decide +kernel
theorem dX4_parameter_3 : decode cX4_parameter 3 = .ok (.iconst 2, 1) := by decide +kernel
theorem dX4_parameter_4 : decode cX4_parameter 4 = .ok (.invokestatic 63, 3) := by decide +kernel
theorem dX4_parameter_7 : decode cX4_parameter 7 = .ok (.ifCond .eq (13), 3) := by decide +kernel
theorem dX4_parameter_10 : decode cX4_parameter 10 = .ok (.iload_n 2, 1) := by decide +kernel
theorem dX4_parameter_11 : decode cX4_parameter 11 = .ok (.iconst 0, 1) := by decide +kernel
theorem dX4_parameter_12 : decode cX4_parameter 12 = .ok (.bipush (20), 2) := by decide +kernel
theorem dX4_parameter_14 : decode cX4_parameter 14 = .ok (.invokestatic 63, 3) := by decide +kernel
theorem dX4_parameter_17 : decode cX4_parameter 17 = .ok (.ifCond .ne (7), 3) := by decide +kernel
theorem dX4_parameter_20 : decode cX4_parameter 20 = .ok (.iconst 1, 1) := by decide +kernel
theorem dX4_parameter_21 : decode cX4_parameter 21 = .ok (.goto (19), 3) := by decide +kernel
theorem dX4_parameter_24 : decode cX4_parameter 24 = .ok (.iload_n 3, 1) := by decide +kernel
theorem dX4_parameter_25 : decode cX4_parameter 25 = .ok (.ldc 74, 2) := by decide +kernel
theorem dX4_parameter_27 : decode cX4_parameter 27 = .ok (.ldc 75, 2) := by decide +kernel
theorem dX4_parameter_29 : decode cX4_parameter 29 = .ok (.invokestatic 63, 3) := by decide +kernel
theorem dX4_parameter_32 : decode cX4_parameter 32 = .ok (.ifCond .ne (7), 3) := by decide +kernel
theorem dX4_parameter_35 : decode cX4_parameter 35 = .ok (.iconst 2, 1) := by decide +kernel
theorem dX4_parameter_36 : decode cX4_parameter 36 = .ok (.goto (4), 3) := by decide +kernel
theorem dX4_parameter_39 : decode cX4_parameter 39 = .ok (.iconst 0, 1) := by decide +kernel
theorem dX4_parameter_40 : decode cX4_parameter 40 = .ok (.putfield 60, 3) := by decide +kernel
theorem dX4_parameter_43 : decode cX4_parameter 43 = .ok (.aload_n 0, 1) := by decide +kernel
theorem dX4_parameter_44 : decode cX4_parameter 44 = .ok (.getfield 60, 3) := by decide +kernel
theorem dX4_parameter_47 : decode cX4_parameter 47 = .ok (.ifCond .le (5), 3) := by decide +kernel
theorem dX4_parameter_50 : decode cX4_parameter 50 = .ok (.iconst 0, 1) := by decide +kernel
theorem dX4_parameter_51 : decode cX4_parameter 51 = .ok (.ireturn, 1) := by decide +kernel
theorem dX4_parameter_52 : decode cX4_parameter 52 = .ok (.aload_n 0, 1) := by decide +kernel
theorem dX4_parameter_53 : decode cX4_parameter 53 = .ok (.getfield 7, 3) := by decide +kernel
theorem dX4_parameter_56 : decode cX4_parameter 56 = .ok (.bipush (21), 2) := by decide +kernel
theorem dX4_parameter_58 : decode cX4_parameter 58 = .ok (.iload_n 1, 1) := by decide +kernel
theorem dX4_parameter_59 : decode cX4_parameter 59 = .ok (.imul, 1) := by decide +kernel
theorem dX4_parameter_60 : decode cX4_parameter 60 = .ok (.iload_n 2, 1) := by decide +kernel
theorem dX4_parameter_61 : decode cX4_parameter 61 = .ok (.iadd, 1) := by decide +kernel
theorem dX4_parameter_62 : decode cX4_parameter 62 = .ok (.iaload, 1) := by decide +kernel
theorem dX4_parameter_63 : decode cX4_parameter 63 = .ok (.istore 4, 2) := by decide +kernel
theorem dX4_parameter_65 : decode cX4_parameter 65 = .ok (.aload_n 0, 1) := by decide +kernel
theorem dX4_parameter_66 : decode cX4_parameter 66 = .ok (.getfield 7, 3) := by decide +kernel
theorem dX4_parameter_69 : decode cX4_parameter 69 = .ok (.bipush (21), 2) := by decide +kernel
theorem dX4_parameter_71 : decode cX4_parameter 71 = .ok (.iload_n 1, 1) := by decide +kernel
theorem dX4_parameter_72 : decode cX4_parameter 72 = .ok (.imul, 1) := by decide +kernel
theorem dX4_parameter_73 : decode cX4_parameter 73 = .ok (.iload_n 2, 1) := by decide +kernel
theorem dX4_parameter_74 : decode cX4_parameter 74 = .ok (.iadd, 1) := by decide +kernel
theorem dX4_parameter_75 : decode cX4_parameter 75 = .ok (.iload_n 3, 1) := by decide +kernel
theorem dX4_parameter_76 : decode cX4_parameter 76 = .ok (.iastore, 1) := by decide +kernel
theorem dX4_parameter_77 : decode cX4_parameter 77 = .ok (.iload 4, 2) := by decide +kernel
theorem dX4_parameter_79 : decode cX4_parameter 79 = .ok (.ireturn, 1) := by decide +kernel
theorem dX4_set_0 : decode cX4_set 0 = .ok (.aload_n 0, 1) := by decide +kernel
theorem dX4_set_1 : decode cX4_set 1 = .ok (.iload_n 1, 1) := by decide +kernel
theorem dX4_set_2 : decode cX4_set 2 = .ok (.iconst 0, 1) := by decide +kernel
theorem dX4_set_3 : decode cX4_set 3 = .ok (.iconst 1, 1) := by decide +kernel
theorem dX4_set_4 : decode cX4_set 4 = .ok (.invokestatic 63, 3) := by decide +kernel
theorem dX4_set_7 : decode cX4_set 7 = .ok (.ifCond .ne (7), 3) := by decide +kernel
theorem dX4_set_10 : decode cX4_set 10 = .ok (.iconst 1, 1) := by decide +kernel
theorem dX4_set_11 : decode cX4_set 11 = .ok (.goto (18), 3) := by decide +kernel
theorem dX4_set_14 : decode cX4_set 14 = .ok (.iload_n 2, 1) := by decide +kernel
theorem dX4_set_15 : decode cX4_set 15 = .ok (.iconst 0, 1) := by decide +kernel
theorem dX4_set_16 : decode cX4_set 16 = .ok (.ldc 75, 2) := by decide +kernel
theorem dX4_set_18 : decode cX4_set 18 = .ok (.invokestatic 63, 3) := by decide +kernel
theorem dX4_set_21 : decode cX4_set 21 = .ok (.ifCond .ne (7), 3) := by decide +kernel
theorem dX4_set_24 : decode cX4_set 24 = .ok (.iconst 2, 1) := by decide +kernel
theorem dX4_set_25 : decode cX4_set 25 = .ok (.goto (4), 3) := by decide +kernel
theorem dX4_set_28 : decode cX4_set 28 = .ok (.iconst 0, 1) := by decide +kernel
theorem dX4_set_29 : decode cX4_set 29 = .ok (.putfield 60, 3) := by decide +kernel
theorem dX4_set_32 : decode cX4_set 32 = .ok (.aload_n 0, 1) := by decide +kernel
theorem dX4_set_33 : decode cX4_set 33 = .ok (.getfield 60, 3) := by decide +kernel
theorem dX4_set_36 : decode cX4_set 36 = .ok (.ifCond .le (5), 3) := by decide +kernel
theorem dX4_set_39 : decode cX4_set 39 = .ok (.iconst 0, 1) := by decide +kernel
theorem dX4_set_40 : decode cX4_set 40 = .ok (.ireturn, 1) := by decide +kernel
theorem dX4_set_41 : decode cX4_set 41 = .ok (.iload_n 1, 1) := by decide +kernel
theorem dX4_set_42 : decode cX4_set 42 = .ok (.ifCond .ne (10), 3) := by decide +kernel
theorem dX4_set_45 : decode cX4_set 45 = .ok (.aload_n 0, 1) := by decide +kernel
theorem dX4_set_46 : decode cX4_set 46 = .ok (.getfield 76, 3) := by decide +kernel
theorem dX4_set_49 : decode cX4_set 49 = .ok (.goto (7), 3) := by decide +kernel
theorem dX4_set_52 : decode cX4_set 52 = .ok (.aload_n 0, 1) := by decide +kernel
theorem dX4_set_53 : decode cX4_set 53 = .ok (.getfield 79, 3) := by decide +kernel
theorem dX4_set_56 : decode cX4_set 56 = .ok (.istore_n 3, 1) := by decide +kernel
theorem dX4_set_57 : decode cX4_set 57 = .ok (.aload_n 0, 1) := by decide +kernel
theorem dX4_set_58 : decode cX4_set 58 = .ok (.iload_n 1, 1) := by decide +kernel
theorem dX4_set_59 : decode cX4_set 59 = .ok (.ifCond .ne (7), 3) := by decide +kernel
theorem dX4_set_62 : decode cX4_set 62 = .ok (.iload_n 2, 1) := by decide +kernel
theorem dX4_set_63 : decode cX4_set 63 = .ok (.goto (7), 3) := by decide +kernel
theorem dX4_set_66 : decode cX4_set 66 = .ok (.aload_n 0, 1) := by decide +kernel
theorem dX4_set_67 : decode cX4_set 67 = .ok (.getfield 76, 3) := by decide +kernel
theorem dX4_set_70 : decode cX4_set 70 = .ok (.putfield 76, 3) := by decide +kernel
theorem dX4_set_73 : decode cX4_set 73 = .ok (.aload_n 0, 1) := by decide +kernel
theorem dX4_set_74 : decode cX4_set 74 = .ok (.iload_n 1, 1) := by decide +kernel
theorem dX4_set_75 : decode cX4_set 75 = .ok (.iconst 1, 1) := by decide +kernel
theorem dX4_set_76 : decode cX4_set 76 = .ok (.if_icmp .ne (7), 3) := by decide +kernel
theorem dX4_set_79 : decode cX4_set 79 = .ok (.iload_n 2, 1) := by decide +kernel
theorem dX4_set_80 : decode cX4_set 80 = .ok (.goto (7), 3) := by decide +kernel
theorem dX4_set_83 : decode cX4_set 83 = .ok (.aload_n 0, 1) := by decide +kernel
theorem dX4_set_84 : decode cX4_set 84 = .ok (.getfield 79, 3) := by decide +kernel
theorem dX4_set_87 : decode cX4_set 87 = .ok (.putfield 79, 3) := by decide +kernel
theorem dX4_set_90 : decode cX4_set 90 = .ok (.iload_n 3, 1) := by decide +kernel
theorem dX4_set_91 : decode cX4_set 91 = .ok (.ireturn, 1) := by decide +kernel
theorem dX4_make_0 : decode cX4_make 0 = .ok (.aload_n 0, 1) := by decide +kernel
theorem dX4_make_1 : decode cX4_make 1 = .ok (.getfield 13, 3) := by decide +kernel
theorem dX4_make_4 : decode cX4_make 4 = .ok (.aload_n 0, 1) := by decide +kernel
theorem dX4_make_5 : decode cX4_make 5 = .ok (.getfield 56, 3) := by decide +kernel
theorem dX4_make_8 : decode cX4_make 8 = .ok (.iload_n 1, 1) := by decide +kernel
theorem dX4_make_9 : decode cX4_make 9 = .ok (.iastore, 1) := by decide +kernel
theorem dX4_make_10 : decode cX4_make 10 = .ok (.aload_n 0, 1) := by decide +kernel
theorem dX4_make_11 : decode cX4_make 11 = .ok (.getfield 16, 3) := by decide +kernel
theorem dX4_make_14 : decode cX4_make 14 = .ok (.aload_n 0, 1) := by decide +kernel
theorem dX4_make_15 : decode cX4_make 15 = .ok (.getfield 56, 3) := by decide +kernel
theorem dX4_make_18 : decode cX4_make 18 = .ok (.iload_n 2, 1) := by decide +kernel
theorem dX4_make_19 : decode cX4_make 19 = .ok (.iastore, 1) := by decide +kernel
theorem dX4_make_20 : decode cX4_make 20 = .ok (.aload_n 0, 1) := by decide +kernel
theorem dX4_make_21 : decode cX4_make 21 = .ok (.getfield 19, 3) := by decide +kernel
theorem dX4_make_24 : decode cX4_make 24 = .ok (.aload_n 0, 1) := by decide +kernel
theorem dX4_make_25 : decode cX4_make 25 = .ok (.getfield 56, 3) := by decide +kernel
theorem dX4_make_28 : decode cX4_make 28 = .ok (.iload_n 3, 1) := by decide +kernel
theorem dX4_make_29 : decode cX4_make 29 = .ok (.iastore, 1) := by decide +kernel
theorem dX4_make_30 : decode cX4_make 30 = .ok (.aload_n 0, 1) := by decide +kernel
theorem dX4_make_31 : decode cX4_make 31 = .ok (.getfield 22, 3) := by decide +kernel
theorem dX4_make_34 : decode cX4_make 34 = .ok (.aload_n 0, 1) := by decide +kernel
theorem dX4_make_35 : decode cX4_make 35 = .ok (.getfield 56, 3) := by decide +kernel
theorem dX4_make_38 : decode cX4_make 38 = .ok (.aload_n 0, 1) := by decide +kernel
theorem dX4_make_39 : decode cX4_make 39 = .ok (.getfield 82, 3) := by decide +kernel
theorem dX4_make_42 : decode cX4_make 42 = .ok (.iastore, 1) := by decide +kernel
theorem dX4_make_43 : decode cX4_make 43 = .ok (.aload_n 0, 1) := by decide +kernel
theorem dX4_make_44 : decode cX4_make 44 = .ok (.getfield 25, 3) := by decide +kernel
theorem dX4_make_47 : decode cX4_make 47 = .ok (.aload_n 0, 1) := by decide +kernel
theorem dX4_make_48 : decode cX4_make 48 = .ok (.getfield 56, 3) := by decide +kernel
theorem dX4_make_51 : decode cX4_make 51 = .ok (.iconst 0, 1) := by decide +kernel
theorem dX4_make_52 : decode cX4_make 52 = .ok (.iastore, 1) := by decide +kernel
theorem dX4_make_53 : decode cX4_make 53 = .ok (.aload_n 0, 1) := by decide +kernel
theorem dX4_make_54 : decode cX4_make 54 = .ok (.dup, 1) := by decide +kernel
theorem dX4_make_55 : decode cX4_make 55 = .ok (.getfield 56, 3) := by decide +kernel
theorem dX4_make_58 : decode cX4_make 58 = .ok (.iconst 1, 1) := by decide +kernel
theorem dX4_make_59 : decode cX4_make 59 = .ok (.iadd, 1) := by decide +kernel
theorem dX4_make_60 : decode cX4_make 60 = .ok (.putfield 56, 3) := by decide +kernel
theorem dX4_make_63 : decode cX4_make 63 = .ok (.aload_n 0, 1) := by decide +kernel
theorem dX4_make_64 : decode cX4_make 64 = .ok (.getfield 56, 3) := by decide +kernel
theorem dX4_make_67 : decode cX4_make 67 = .ok (.iconst 1, 1) := by decide +kernel
theorem dX4_make_68 : decode cX4_make 68 = .ok (.isub, 1) := by decide +kernel
theorem dX4_make_69 : decode cX4_make 69 = .ok (.ireturn, 1) := by decide +kernel
theorem dX4_lay_0 : decode cX4_lay 0 = .ok (.aload_n 0, 1) := by decide +kernel
theorem dX4_lay_1 : decode cX4_lay 1 = .ok (.getfield 34, 3) := by decide +kernel
theorem dX4_lay_4 : decode cX4_lay 4 = .ok (.aload_n 0, 1) := by decide +kernel
theorem dX4_lay_5 : decode cX4_lay 5 = .ok (.getfield 82, 3) := by decide +kernel
theorem dX4_lay_8 : decode cX4_lay 8 = .ok (.iload_n 1, 1) := by decide +kernel
theorem dX4_lay_9 : decode cX4_lay 9 = .ok (.iastore, 1) := by decide +kernel
theorem dX4_lay_10 : decode cX4_lay 10 = .ok (.aload_n 0, 1) := by decide +kernel
theorem dX4_lay_11 : decode cX4_lay 11 = .ok (.getfield 37, 3) := by decide +kernel
theorem dX4_lay_14 : decode cX4_lay 14 = .ok (.aload_n 0, 1) := by decide +kernel
theorem dX4_lay_15 : decode cX4_lay 15 = .ok (.getfield 82, 3) := by decide +kernel
theorem dX4_lay_18 : decode cX4_lay 18 = .ok (.iload_n 2, 1) := by decide +kernel
theorem dX4_lay_19 : decode cX4_lay 19 = .ok (.iastore, 1) := by decide +kernel
theorem dX4_lay_20 : decode cX4_lay 20 = .ok (.aload_n 0, 1) := by decide +kernel
theorem dX4_lay_21 : decode cX4_lay 21 = .ok (.getfield 40, 3) := by decide +kernel
theorem dX4_lay_24 : decode cX4_lay 24 = .ok (.aload_n 0, 1) := by decide +kernel
theorem dX4_lay_25 : decode cX4_lay 25 = .ok (.getfield 82, 3) := by decide +kernel
theorem dX4_lay_28 : decode cX4_lay 28 = .ok (.iload_n 3, 1) := by decide +kernel
theorem dX4_lay_29 : decode cX4_lay 29 = .ok (.iastore, 1) := by decide +kernel
theorem dX4_lay_30 : decode cX4_lay 30 = .ok (.aload_n 0, 1) := by decide +kernel
theorem dX4_lay_31 : decode cX4_lay 31 = .ok (.dup, 1) := by decide +kernel
theorem dX4_lay_32 : decode cX4_lay 32 = .ok (.getfield 82, 3) := by decide +kernel
theorem dX4_lay_35 : decode cX4_lay 35 = .ok (.iconst 1, 1) := by decide +kernel
theorem dX4_lay_36 : decode cX4_lay 36 = .ok (.iadd, 1) := by decide +kernel
theorem dX4_lay_37 : decode cX4_lay 37 = .ok (.putfield 82, 3) := by decide +kernel
theorem dX4_lay_40 : decode cX4_lay 40 = .ok (.aload_n 0, 1) := by decide +kernel
theorem dX4_lay_41 : decode cX4_lay 41 = .ok (.getfield 25, 3) := by decide +kernel
theorem dX4_lay_44 : decode cX4_lay 44 = .ok (.aload_n 0, 1) := by decide +kernel
theorem dX4_lay_45 : decode cX4_lay 45 = .ok (.getfield 56, 3) := by decide +kernel
theorem dX4_lay_48 : decode cX4_lay 48 = .ok (.iconst 1, 1) := by decide +kernel
theorem dX4_lay_49 : decode cX4_lay 49 = .ok (.isub, 1) := by decide +kernel
theorem dX4_lay_50 : decode cX4_lay 50 = .ok (.dup2, 1) := by decide +kernel
theorem dX4_lay_51 : decode cX4_lay 51 = .ok (.iaload, 1) := by decide +kernel
theorem dX4_lay_52 : decode cX4_lay 52 = .ok (.iconst 1, 1) := by decide +kernel
theorem dX4_lay_53 : decode cX4_lay 53 = .ok (.iadd, 1) := by decide +kernel
theorem dX4_lay_54 : decode cX4_lay 54 = .ok (.iastore, 1) := by decide +kernel
theorem dX4_lay_55 : decode cX4_lay 55 = .ok (.return_, 1) := by decide +kernel
theorem dX4_box_0 : decode cX4_box 0 = .ok (.aload_n 0, 1) := by decide +kernel
theorem dX4_box_1 : decode cX4_box 1 = .ok (.iload_n 1, 1) := by decide +kernel
theorem dX4_box_2 : decode cX4_box 2 = .ok (.iconst 0, 1) := by decide +kernel
theorem dX4_box_3 : decode cX4_box 3 = .ok (.ldc 75, 2) := by decide +kernel
theorem dX4_box_5 : decode cX4_box 5 = .ok (.invokestatic 63, 3) := by decide +kernel
theorem dX4_box_8 : decode cX4_box 8 = .ok (.ifCond .eq (25), 3) := by decide +kernel
theorem dX4_box_11 : decode cX4_box 11 = .ok (.iload_n 2, 1) := by decide +kernel
theorem dX4_box_12 : decode cX4_box 12 = .ok (.ldc 74, 2) := by decide +kernel
theorem dX4_box_14 : decode cX4_box 14 = .ok (.ldc 75, 2) := by decide +kernel
theorem dX4_box_16 : decode cX4_box 16 = .ok (.invokestatic 63, 3) := by decide +kernel
theorem dX4_box_19 : decode cX4_box 19 = .ok (.ifCond .eq (14), 3) := by decide +kernel
theorem dX4_box_22 : decode cX4_box 22 = .ok (.iload_n 3, 1) := by decide +kernel
theorem dX4_box_23 : decode cX4_box 23 = .ok (.ldc 74, 2) := by decide +kernel
theorem dX4_box_25 : decode cX4_box 25 = .ok (.ldc 75, 2) := by decide +kernel
theorem dX4_box_27 : decode cX4_box 27 = .ok (.invokestatic 63, 3) := by decide +kernel
theorem dX4_box_30 : decode cX4_box 30 = .ok (.ifCond .ne (7), 3) := by decide +kernel
theorem dX4_box_33 : decode cX4_box 33 = .ok (.iconst 1, 1) := by decide +kernel
theorem dX4_box_34 : decode cX4_box 34 = .ok (.goto (17), 3) := by decide +kernel
theorem dX4_box_37 : decode cX4_box 37 = .ok (.aload_n 0, 1) := by decide +kernel
theorem dX4_box_38 : decode cX4_box 38 = .ok (.getfield 56, 3) := by decide +kernel
theorem dX4_box_41 : decode cX4_box 41 = .ok (.bipush (120), 2) := by decide +kernel
theorem dX4_box_43 : decode cX4_box 43 = .ok (.if_icmp .ne (7), 3) := by decide +kernel
theorem dX4_box_46 : decode cX4_box 46 = .ok (.iconst 2, 1) := by decide +kernel
theorem dX4_box_47 : decode cX4_box 47 = .ok (.goto (4), 3) := by decide +kernel
theorem dX4_box_50 : decode cX4_box 50 = .ok (.iconst 0, 1) := by decide +kernel
theorem dX4_box_51 : decode cX4_box 51 = .ok (.putfield 60, 3) := by decide +kernel
theorem dX4_box_54 : decode cX4_box 54 = .ok (.aload_n 0, 1) := by decide +kernel
theorem dX4_box_55 : decode cX4_box 55 = .ok (.getfield 60, 3) := by decide +kernel
theorem dX4_box_58 : decode cX4_box 58 = .ok (.ifCond .le (7), 3) := by decide +kernel
theorem dX4_box_61 : decode cX4_box 61 = .ok (.iconst 0, 1) := by decide +kernel
theorem dX4_box_62 : decode cX4_box 62 = .ok (.goto (10), 3) := by decide +kernel
theorem dX4_box_65 : decode cX4_box 65 = .ok (.aload_n 0, 1) := by decide +kernel
theorem dX4_box_66 : decode cX4_box 66 = .ok (.iload_n 1, 1) := by decide +kernel
theorem dX4_box_67 : decode cX4_box 67 = .ok (.iload_n 2, 1) := by decide +kernel
theorem dX4_box_68 : decode cX4_box 68 = .ok (.iload_n 3, 1) := by decide +kernel
theorem dX4_box_69 : decode cX4_box 69 = .ok (.invokevirtual 85, 3) := by decide +kernel
theorem dX4_box_72 : decode cX4_box 72 = .ok (.ireturn, 1) := by decide +kernel
theorem dX4_sign_0 : decode cX4_sign 0 = .ok (.aload_n 0, 1) := by decide +kernel
theorem dX4_sign_1 : decode cX4_sign 1 = .ok (.iload_n 1, 1) := by decide +kernel
theorem dX4_sign_2 : decode cX4_sign 2 = .ok (.invokestatic 89, 3) := by decide +kernel
theorem dX4_sign_5 : decode cX4_sign 5 = .ok (.ifCond .eq (11), 3) := by decide +kernel
theorem dX4_sign_8 : decode cX4_sign 8 = .ok (.aload_n 0, 1) := by decide +kernel
theorem dX4_sign_9 : decode cX4_sign 9 = .ok (.iload_n 2, 1) := by decide +kernel
theorem dX4_sign_10 : decode cX4_sign 10 = .ok (.invokevirtual 67, 3) := by decide +kernel
theorem dX4_sign_13 : decode cX4_sign 13 = .ok (.ifCond .ne (7), 3) := by decide +kernel
theorem dX4_sign_16 : decode cX4_sign 16 = .ok (.iconst 1, 1) := by decide +kernel
theorem dX4_sign_17 : decode cX4_sign 17 = .ok (.goto (18), 3) := by decide +kernel
theorem dX4_sign_20 : decode cX4_sign 20 = .ok (.aload_n 0, 1) := by decide +kernel
theorem dX4_sign_21 : decode cX4_sign 21 = .ok (.getfield 43, 3) := by decide +kernel
theorem dX4_sign_24 : decode cX4_sign 24 = .ok (.iload_n 1, 1) := by decide +kernel
theorem dX4_sign_25 : decode cX4_sign 25 = .ok (.iaload, 1) := by decide +kernel
theorem dX4_sign_26 : decode cX4_sign 26 = .ok (.iconst 4, 1) := by decide +kernel
theorem dX4_sign_27 : decode cX4_sign 27 = .ok (.if_icmp .ne (7), 3) := by decide +kernel
theorem dX4_sign_30 : decode cX4_sign 30 = .ok (.iconst 2, 1) := by decide +kernel
theorem dX4_sign_31 : decode cX4_sign 31 = .ok (.goto (4), 3) := by decide +kernel
theorem dX4_sign_34 : decode cX4_sign 34 = .ok (.iconst 0, 1) := by decide +kernel
theorem dX4_sign_35 : decode cX4_sign 35 = .ok (.putfield 60, 3) := by decide +kernel
theorem dX4_sign_38 : decode cX4_sign 38 = .ok (.aload_n 0, 1) := by decide +kernel
theorem dX4_sign_39 : decode cX4_sign 39 = .ok (.getfield 60, 3) := by decide +kernel
theorem dX4_sign_42 : decode cX4_sign 42 = .ok (.ifCond .le (5), 3) := by decide +kernel
theorem dX4_sign_45 : decode cX4_sign 45 = .ok (.iconst 0, 1) := by decide +kernel
theorem dX4_sign_46 : decode cX4_sign 46 = .ok (.ireturn, 1) := by decide +kernel
theorem dX4_sign_47 : decode cX4_sign 47 = .ok (.aload_n 0, 1) := by decide +kernel
theorem dX4_sign_48 : decode cX4_sign 48 = .ok (.getfield 46, 3) := by decide +kernel
theorem dX4_sign_51 : decode cX4_sign 51 = .ok (.iconst 4, 1) := by decide +kernel
theorem dX4_sign_52 : decode cX4_sign 52 = .ok (.iload_n 1, 1) := by decide +kernel
theorem dX4_sign_53 : decode cX4_sign 53 = .ok (.imul, 1) := by decide +kernel
theorem dX4_sign_54 : decode cX4_sign 54 = .ok (.aload_n 0, 1) := by decide +kernel
theorem dX4_sign_55 : decode cX4_sign 55 = .ok (.getfield 43, 3) := by decide +kernel
theorem dX4_sign_58 : decode cX4_sign 58 = .ok (.iload_n 1, 1) := by decide +kernel
theorem dX4_sign_59 : decode cX4_sign 59 = .ok (.iaload, 1) := by decide +kernel
theorem dX4_sign_60 : decode cX4_sign 60 = .ok (.iadd, 1) := by decide +kernel
theorem dX4_sign_61 : decode cX4_sign 61 = .ok (.iload_n 2, 1) := by decide +kernel
theorem dX4_sign_62 : decode cX4_sign 62 = .ok (.iastore, 1) := by decide +kernel
theorem dX4_sign_63 : decode cX4_sign 63 = .ok (.aload_n 0, 1) := by decide +kernel
theorem dX4_sign_64 : decode cX4_sign 64 = .ok (.getfield 43, 3) := by decide +kernel
theorem dX4_sign_67 : decode cX4_sign 67 = .ok (.iload_n 1, 1) := by decide +kernel
theorem dX4_sign_68 : decode cX4_sign 68 = .ok (.dup2, 1) := by decide +kernel
theorem dX4_sign_69 : decode cX4_sign 69 = .ok (.iaload, 1) := by decide +kernel
theorem dX4_sign_70 : decode cX4_sign 70 = .ok (.iconst 1, 1) := by decide +kernel
theorem dX4_sign_71 : decode cX4_sign 71 = .ok (.iadd, 1) := by decide +kernel
theorem dX4_sign_72 : decode cX4_sign 72 = .ok (.iastore, 1) := by decide +kernel
theorem dX4_sign_73 : decode cX4_sign 73 = .ok (.aload_n 0, 1) := by decide +kernel
theorem dX4_sign_74 : decode cX4_sign 74 = .ok (.getfield 43, 3) := by decide +kernel
theorem dX4_sign_77 : decode cX4_sign 77 = .ok (.iload_n 1, 1) := by decide +kernel
theorem dX4_sign_78 : decode cX4_sign 78 = .ok (.iaload, 1) := by decide +kernel
theorem dX4_sign_79 : decode cX4_sign 79 = .ok (.ireturn, 1) := by decide +kernel
theorem dX4_pieces_0 : decode cX4_pieces 0 = .ok (.iload_n 1, 1) := by decide +kernel
theorem dX4_pieces_1 : decode cX4_pieces 1 = .ok (.invokestatic 89, 3) := by decide +kernel
theorem dX4_pieces_4 : decode cX4_pieces 4 = .ok (.ifCond .eq (41), 3) := by decide +kernel
theorem dX4_pieces_7 : decode cX4_pieces 7 = .ok (.aload_n 0, 1) := by decide +kernel
theorem dX4_pieces_8 : decode cX4_pieces 8 = .ok (.iload_n 2, 1) := by decide +kernel
theorem dX4_pieces_9 : decode cX4_pieces 9 = .ok (.invokevirtual 92, 3) := by decide +kernel
theorem dX4_pieces_12 : decode cX4_pieces 12 = .ok (.ifCond .eq (33), 3) := by decide +kernel
theorem dX4_pieces_15 : decode cX4_pieces 15 = .ok (.aload_n 0, 1) := by decide +kernel
theorem dX4_pieces_16 : decode cX4_pieces 16 = .ok (.iload_n 3, 1) := by decide +kernel
theorem dX4_pieces_17 : decode cX4_pieces 17 = .ok (.invokevirtual 92, 3) := by decide +kernel
theorem dX4_pieces_20 : decode cX4_pieces 20 = .ok (.ifCond .eq (25), 3) := by decide +kernel
theorem dX4_pieces_23 : decode cX4_pieces 23 = .ok (.aload_n 0, 1) := by decide +kernel
theorem dX4_pieces_24 : decode cX4_pieces 24 = .ok (.iload 4, 2) := by decide +kernel
theorem dX4_pieces_26 : decode cX4_pieces 26 = .ok (.invokevirtual 92, 3) := by decide +kernel
theorem dX4_pieces_29 : decode cX4_pieces 29 = .ok (.ifCond .eq (16), 3) := by decide +kernel
theorem dX4_pieces_32 : decode cX4_pieces 32 = .ok (.aload_n 0, 1) := by decide +kernel
theorem dX4_pieces_33 : decode cX4_pieces 33 = .ok (.iload 5, 2) := by decide +kernel
theorem dX4_pieces_35 : decode cX4_pieces 35 = .ok (.invokevirtual 67, 3) := by decide +kernel
theorem dX4_pieces_38 : decode cX4_pieces 38 = .ok (.ifCond .eq (7), 3) := by decide +kernel
theorem dX4_pieces_41 : decode cX4_pieces 41 = .ok (.iconst 1, 1) := by decide +kernel
theorem dX4_pieces_42 : decode cX4_pieces 42 = .ok (.goto (4), 3) := by decide +kernel
theorem dX4_pieces_45 : decode cX4_pieces 45 = .ok (.iconst 0, 1) := by decide +kernel
theorem dX4_pieces_46 : decode cX4_pieces 46 = .ok (.istore 6, 2) := by decide +kernel
theorem dX4_pieces_48 : decode cX4_pieces 48 = .ok (.aload_n 0, 1) := by decide +kernel
theorem dX4_pieces_49 : decode cX4_pieces 49 = .ok (.iload 6, 2) := by decide +kernel
theorem dX4_pieces_51 : decode cX4_pieces 51 = .ok (.ifCond .ne (7), 3) := by decide +kernel
theorem dX4_pieces_54 : decode cX4_pieces 54 = .ok (.iconst 1, 1) := by decide +kernel
theorem dX4_pieces_55 : decode cX4_pieces 55 = .ok (.goto (26), 3) := by decide +kernel
theorem dX4_pieces_58 : decode cX4_pieces 58 = .ok (.aload_n 0, 1) := by decide +kernel
theorem dX4_pieces_59 : decode cX4_pieces 59 = .ok (.getfield 16, 3) := by decide +kernel
theorem dX4_pieces_62 : decode cX4_pieces 62 = .ok (.iload 5, 2) := by decide +kernel
theorem dX4_pieces_64 : decode cX4_pieces 64 = .ok (.iaload, 1) := by decide +kernel
theorem dX4_pieces_65 : decode cX4_pieces 65 = .ok (.aload_n 0, 1) := by decide +kernel
theorem dX4_pieces_66 : decode cX4_pieces 66 = .ok (.getfield 19, 3) := by decide +kernel
theorem dX4_pieces_69 : decode cX4_pieces 69 = .ok (.iload 5, 2) := by decide +kernel
theorem dX4_pieces_71 : decode cX4_pieces 71 = .ok (.iaload, 1) := by decide +kernel
theorem dX4_pieces_72 : decode cX4_pieces 72 = .ok (.iadd, 1) := by decide +kernel
theorem dX4_pieces_73 : decode cX4_pieces 73 = .ok (.ifCond .gt (7), 3) := by decide +kernel
theorem dX4_pieces_76 : decode cX4_pieces 76 = .ok (.iconst 2, 1) := by decide +kernel
theorem dX4_pieces_77 : decode cX4_pieces 77 = .ok (.goto (4), 3) := by decide +kernel
theorem dX4_pieces_80 : decode cX4_pieces 80 = .ok (.iconst 0, 1) := by decide +kernel
theorem dX4_pieces_81 : decode cX4_pieces 81 = .ok (.putfield 60, 3) := by decide +kernel
theorem dX4_pieces_84 : decode cX4_pieces 84 = .ok (.aload_n 0, 1) := by decide +kernel
theorem dX4_pieces_85 : decode cX4_pieces 85 = .ok (.getfield 60, 3) := by decide +kernel
theorem dX4_pieces_88 : decode cX4_pieces 88 = .ok (.ifCond .le (4), 3) := by decide +kernel
theorem dX4_pieces_91 : decode cX4_pieces 91 = .ok (.return_, 1) := by decide +kernel
theorem dX4_pieces_92 : decode cX4_pieces 92 = .ok (.aload_n 0, 1) := by decide +kernel
theorem dX4_pieces_93 : decode cX4_pieces 93 = .ok (.getfield 49, 3) := by decide +kernel
theorem dX4_pieces_96 : decode cX4_pieces 96 = .ok (.iload_n 1, 1) := by decide +kernel
theorem dX4_pieces_97 : decode cX4_pieces 97 = .ok (.iconst 1, 1) := by decide +kernel
theorem dX4_pieces_98 : decode cX4_pieces 98 = .ok (.bastore, 1) := by decide +kernel
theorem dX4_pieces_99 : decode cX4_pieces 99 = .ok (.aload_n 0, 1) := by decide +kernel
theorem dX4_pieces_100 : decode cX4_pieces 100 = .ok (.getfield 53, 3) := by decide +kernel
theorem dX4_pieces_103 : decode cX4_pieces 103 = .ok (.iconst 4, 1) := by decide +kernel
theorem dX4_pieces_104 : decode cX4_pieces 104 = .ok (.iload_n 1, 1) := by decide +kernel
theorem dX4_pieces_105 : decode cX4_pieces 105 = .ok (.imul, 1) := by decide +kernel
theorem dX4_pieces_106 : decode cX4_pieces 106 = .ok (.iload_n 2, 1) := by decide +kernel
theorem dX4_pieces_107 : decode cX4_pieces 107 = .ok (.iastore, 1) := by decide +kernel
theorem dX4_pieces_108 : decode cX4_pieces 108 = .ok (.aload_n 0, 1) := by decide +kernel
theorem dX4_pieces_109 : decode cX4_pieces 109 = .ok (.getfield 53, 3) := by decide +kernel
theorem dX4_pieces_112 : decode cX4_pieces 112 = .ok (.iconst 4, 1) := by decide +kernel
theorem dX4_pieces_113 : decode cX4_pieces 113 = .ok (.iload_n 1, 1) := by decide +kernel
theorem dX4_pieces_114 : decode cX4_pieces 114 = .ok (.imul, 1) := by decide +kernel
theorem dX4_pieces_115 : decode cX4_pieces 115 = .ok (.iconst 1, 1) := by decide +kernel
theorem dX4_pieces_116 : decode cX4_pieces 116 = .ok (.iadd, 1) := by decide +kernel
theorem dX4_pieces_117 : decode cX4_pieces 117 = .ok (.iload_n 3, 1) := by decide +kernel
theorem dX4_pieces_118 : decode cX4_pieces 118 = .ok (.iastore, 1) := by decide +kernel
theorem dX4_pieces_119 : decode cX4_pieces 119 = .ok (.aload_n 0, 1) := by decide +kernel
theorem dX4_pieces_120 : decode cX4_pieces 120 = .ok (.getfield 53, 3) := by decide +kernel
theorem dX4_pieces_123 : decode cX4_pieces 123 = .ok (.iconst 4, 1) := by decide +kernel
theorem dX4_pieces_124 : decode cX4_pieces 124 = .ok (.iload_n 1, 1) := by decide +kernel
theorem dX4_pieces_125 : decode cX4_pieces 125 = .ok (.imul, 1) := by decide +kernel
theorem dX4_pieces_126 : decode cX4_pieces 126 = .ok (.iconst 2, 1) := by decide +kernel
theorem dX4_pieces_127 : decode cX4_pieces 127 = .ok (.iadd, 1) := by decide +kernel
theorem dX4_pieces_128 : decode cX4_pieces 128 = .ok (.iload 4, 2) := by decide +kernel
theorem dX4_pieces_130 : decode cX4_pieces 130 = .ok (.iastore, 1) := by decide +kernel
theorem dX4_pieces_131 : decode cX4_pieces 131 = .ok (.aload_n 0, 1) := by decide +kernel
theorem dX4_pieces_132 : decode cX4_pieces 132 = .ok (.getfield 53, 3) := by decide +kernel
theorem dX4_pieces_135 : decode cX4_pieces 135 = .ok (.iconst 4, 1) := by decide +kernel
theorem dX4_pieces_136 : decode cX4_pieces 136 = .ok (.iload_n 1, 1) := by decide +kernel
theorem dX4_pieces_137 : decode cX4_pieces 137 = .ok (.imul, 1) := by decide +kernel
theorem dX4_pieces_138 : decode cX4_pieces 138 = .ok (.iconst 3, 1) := by decide +kernel
theorem dX4_pieces_139 : decode cX4_pieces 139 = .ok (.iadd, 1) := by decide +kernel
theorem dX4_pieces_140 : decode cX4_pieces 140 = .ok (.iload 5, 2) := by decide +kernel
theorem dX4_pieces_142 : decode cX4_pieces 142 = .ok (.iastore, 1) := by decide +kernel
theorem dX4_pieces_143 : decode cX4_pieces 143 = .ok (.return_, 1) := by decide +kernel
theorem dX4_tall_0 : decode cX4_tall 0 = .ok (.iload_n 1, 1) := by decide +kernel
theorem dX4_tall_1 : decode cX4_tall 1 = .ok (.iconst (-1), 1) := by decide +kernel
theorem dX4_tall_2 : decode cX4_tall 2 = .ok (.if_icmp .ne (7), 3) := by decide +kernel
theorem dX4_tall_5 : decode cX4_tall 5 = .ok (.iconst 0, 1) := by decide +kernel
theorem dX4_tall_6 : decode cX4_tall 6 = .ok (.goto (16), 3) := by decide +kernel
theorem dX4_tall_9 : decode cX4_tall 9 = .ok (.aload_n 0, 1) := by decide +kernel
theorem dX4_tall_10 : decode cX4_tall 10 = .ok (.getfield 16, 3) := by decide +kernel
theorem dX4_tall_13 : decode cX4_tall 13 = .ok (.iload_n 1, 1) := by decide +kernel
theorem dX4_tall_14 : decode cX4_tall 14 = .ok (.iaload, 1) := by decide +kernel
theorem dX4_tall_15 : decode cX4_tall 15 = .ok (.aload_n 0, 1) := by decide +kernel
theorem dX4_tall_16 : decode cX4_tall 16 = .ok (.getfield 19, 3) := by decide +kernel
theorem dX4_tall_19 : decode cX4_tall 19 = .ok (.iload_n 1, 1) := by decide +kernel
theorem dX4_tall_20 : decode cX4_tall 20 = .ok (.iaload, 1) := by decide +kernel
theorem dX4_tall_21 : decode cX4_tall 21 = .ok (.iadd, 1) := by decide +kernel
theorem dX4_tall_22 : decode cX4_tall 22 = .ok (.ireturn, 1) := by decide +kernel
theorem dX4_plan_0 : decode cX4_plan 0 = .ok (.iconst 0, 1) := by decide +kernel
theorem dX4_plan_1 : decode cX4_plan 1 = .ok (.istore_n 3, 1) := by decide +kernel
theorem dX4_plan_2 : decode cX4_plan 2 = .ok (.iload_n 3, 1) := by decide +kernel
theorem dX4_plan_3 : decode cX4_plan 3 = .ok (.aload_n 0, 1) := by decide +kernel
theorem dX4_plan_4 : decode cX4_plan 4 = .ok (.getfield 43, 3) := by decide +kernel
theorem dX4_plan_7 : decode cX4_plan 7 = .ok (.iload_n 1, 1) := by decide +kernel
theorem dX4_plan_8 : decode cX4_plan 8 = .ok (.iaload, 1) := by decide +kernel
theorem dX4_plan_9 : decode cX4_plan 9 = .ok (.if_icmp .ge (38), 3) := by decide +kernel
theorem dX4_plan_12 : decode cX4_plan 12 = .ok (.aload_n 0, 1) := by decide +kernel
theorem dX4_plan_13 : decode cX4_plan 13 = .ok (.aload_n 0, 1) := by decide +kernel
theorem dX4_plan_14 : decode cX4_plan 14 = .ok (.getfield 46, 3) := by decide +kernel
theorem dX4_plan_17 : decode cX4_plan 17 = .ok (.iconst 4, 1) := by decide +kernel
theorem dX4_plan_18 : decode cX4_plan 18 = .ok (.iload_n 1, 1) := by decide +kernel
theorem dX4_plan_19 : decode cX4_plan 19 = .ok (.imul, 1) := by decide +kernel
theorem dX4_plan_20 : decode cX4_plan 20 = .ok (.iload_n 3, 1) := by decide +kernel
theorem dX4_plan_21 : decode cX4_plan 21 = .ok (.iadd, 1) := by decide +kernel
theorem dX4_plan_22 : decode cX4_plan 22 = .ok (.iaload, 1) := by decide +kernel
theorem dX4_plan_23 : decode cX4_plan 23 = .ok (.invokevirtual 95, 3) := by decide +kernel
theorem dX4_plan_26 : decode cX4_plan 26 = .ok (.iload_n 2, 1) := by decide +kernel
theorem dX4_plan_27 : decode cX4_plan 27 = .ok (.if_icmp .lt (14), 3) := by decide +kernel
theorem dX4_plan_30 : decode cX4_plan 30 = .ok (.aload_n 0, 1) := by decide +kernel
theorem dX4_plan_31 : decode cX4_plan 31 = .ok (.getfield 46, 3) := by decide +kernel
theorem dX4_plan_34 : decode cX4_plan 34 = .ok (.iconst 4, 1) := by decide +kernel
theorem dX4_plan_35 : decode cX4_plan 35 = .ok (.iload_n 1, 1) := by decide +kernel
theorem dX4_plan_36 : decode cX4_plan 36 = .ok (.imul, 1) := by decide +kernel
theorem dX4_plan_37 : decode cX4_plan 37 = .ok (.iload_n 3, 1) := by decide +kernel
theorem dX4_plan_38 : decode cX4_plan 38 = .ok (.iadd, 1) := by decide +kernel
theorem dX4_plan_39 : decode cX4_plan 39 = .ok (.iaload, 1) := by decide +kernel
theorem dX4_plan_40 : decode cX4_plan 40 = .ok (.ireturn, 1) := by decide +kernel
theorem dX4_plan_41 : decode cX4_plan 41 = .ok (.iinc 3 (1), 3) := by decide +kernel
theorem dX4_plan_44 : decode cX4_plan 44 = .ok (.goto (-42), 3) := by decide +kernel
theorem dX4_plan_47 : decode cX4_plan 47 = .ok (.aload_n 0, 1) := by decide +kernel
theorem dX4_plan_48 : decode cX4_plan 48 = .ok (.getfield 49, 3) := by decide +kernel
theorem dX4_plan_51 : decode cX4_plan 51 = .ok (.iload_n 1, 1) := by decide +kernel
theorem dX4_plan_52 : decode cX4_plan 52 = .ok (.baload, 1) := by decide +kernel
theorem dX4_plan_53 : decode cX4_plan 53 = .ok (.ifCond .eq (8), 3) := by decide +kernel
theorem dX4_plan_56 : decode cX4_plan 56 = .ok (.bipush (-3), 2) := by decide +kernel
theorem dX4_plan_58 : decode cX4_plan 58 = .ok (.goto (34), 3) := by decide +kernel
theorem dX4_plan_61 : decode cX4_plan 61 = .ok (.aload_n 0, 1) := by decide +kernel
theorem dX4_plan_62 : decode cX4_plan 62 = .ok (.getfield 43, 3) := by decide +kernel
theorem dX4_plan_65 : decode cX4_plan 65 = .ok (.iload_n 1, 1) := by decide +kernel
theorem dX4_plan_66 : decode cX4_plan 66 = .ok (.iaload, 1) := by decide +kernel
theorem dX4_plan_67 : decode cX4_plan 67 = .ok (.ifCond .ne (8), 3) := by decide +kernel
theorem dX4_plan_70 : decode cX4_plan 70 = .ok (.bipush (-2), 2) := by decide +kernel
theorem dX4_plan_72 : decode cX4_plan 72 = .ok (.goto (20), 3) := by decide +kernel
theorem dX4_plan_75 : decode cX4_plan 75 = .ok (.aload_n 0, 1) := by decide +kernel
theorem dX4_plan_76 : decode cX4_plan 76 = .ok (.getfield 46, 3) := by decide +kernel
theorem dX4_plan_79 : decode cX4_plan 79 = .ok (.iconst 4, 1) := by decide +kernel
theorem dX4_plan_80 : decode cX4_plan 80 = .ok (.iload_n 1, 1) := by decide +kernel
theorem dX4_plan_81 : decode cX4_plan 81 = .ok (.imul, 1) := by decide +kernel
theorem dX4_plan_82 : decode cX4_plan 82 = .ok (.aload_n 0, 1) := by decide +kernel
theorem dX4_plan_83 : decode cX4_plan 83 = .ok (.getfield 43, 3) := by decide +kernel
theorem dX4_plan_86 : decode cX4_plan 86 = .ok (.iload_n 1, 1) := by decide +kernel
theorem dX4_plan_87 : decode cX4_plan 87 = .ok (.iaload, 1) := by decide +kernel
theorem dX4_plan_88 : decode cX4_plan 88 = .ok (.iadd, 1) := by decide +kernel
theorem dX4_plan_89 : decode cX4_plan 89 = .ok (.iconst 1, 1) := by decide +kernel
theorem dX4_plan_90 : decode cX4_plan 90 = .ok (.isub, 1) := by decide +kernel
theorem dX4_plan_91 : decode cX4_plan 91 = .ok (.iaload, 1) := by decide +kernel
theorem dX4_plan_92 : decode cX4_plan 92 = .ok (.ireturn, 1) := by decide +kernel
theorem dX4_repeats_0 : decode cX4_repeats 0 = .ok (.aload_n 0, 1) := by decide +kernel
theorem dX4_repeats_1 : decode cX4_repeats 1 = .ok (.aload_n 0, 1) := by decide +kernel
theorem dX4_repeats_2 : decode cX4_repeats 2 = .ok (.getfield 53, 3) := by decide +kernel
theorem dX4_repeats_5 : decode cX4_repeats 5 = .ok (.iconst 4, 1) := by decide +kernel
theorem dX4_repeats_6 : decode cX4_repeats 6 = .ok (.iload_n 1, 1) := by decide +kernel
theorem dX4_repeats_7 : decode cX4_repeats 7 = .ok (.imul, 1) := by decide +kernel
theorem dX4_repeats_8 : decode cX4_repeats 8 = .ok (.iaload, 1) := by decide +kernel
theorem dX4_repeats_9 : decode cX4_repeats 9 = .ok (.invokevirtual 95, 3) := by decide +kernel
theorem dX4_repeats_12 : decode cX4_repeats 12 = .ok (.aload_n 0, 1) := by decide +kernel
theorem dX4_repeats_13 : decode cX4_repeats 13 = .ok (.aload_n 0, 1) := by decide +kernel
theorem dX4_repeats_14 : decode cX4_repeats 14 = .ok (.getfield 53, 3) := by decide +kernel
theorem dX4_repeats_17 : decode cX4_repeats 17 = .ok (.iconst 4, 1) := by decide +kernel
theorem dX4_repeats_18 : decode cX4_repeats 18 = .ok (.iload_n 1, 1) := by decide +kernel
theorem dX4_repeats_19 : decode cX4_repeats 19 = .ok (.imul, 1) := by decide +kernel
theorem dX4_repeats_20 : decode cX4_repeats 20 = .ok (.iconst 1, 1) := by decide +kernel
theorem dX4_repeats_21 : decode cX4_repeats 21 = .ok (.iadd, 1) := by decide +kernel
theorem dX4_repeats_22 : decode cX4_repeats 22 = .ok (.iaload, 1) := by decide +kernel
theorem dX4_repeats_23 : decode cX4_repeats 23 = .ok (.invokevirtual 95, 3) := by decide +kernel
theorem dX4_repeats_26 : decode cX4_repeats 26 = .ok (.iadd, 1) := by decide +kernel
theorem dX4_repeats_27 : decode cX4_repeats 27 = .ok (.aload_n 0, 1) := by decide +kernel
theorem dX4_repeats_28 : decode cX4_repeats 28 = .ok (.aload_n 0, 1) := by decide +kernel
theorem dX4_repeats_29 : decode cX4_repeats 29 = .ok (.getfield 53, 3) := by decide +kernel
theorem dX4_repeats_32 : decode cX4_repeats 32 = .ok (.iconst 4, 1) := by decide +kernel
theorem dX4_repeats_33 : decode cX4_repeats 33 = .ok (.iload_n 1, 1) := by decide +kernel
theorem dX4_repeats_34 : decode cX4_repeats 34 = .ok (.imul, 1) := by decide +kernel
theorem dX4_repeats_35 : decode cX4_repeats 35 = .ok (.iconst 2, 1) := by decide +kernel
theorem dX4_repeats_36 : decode cX4_repeats 36 = .ok (.iadd, 1) := by decide +kernel
theorem dX4_repeats_37 : decode cX4_repeats 37 = .ok (.iaload, 1) := by decide +kernel
theorem dX4_repeats_38 : decode cX4_repeats 38 = .ok (.invokevirtual 95, 3) := by decide +kernel
theorem dX4_repeats_41 : decode cX4_repeats 41 = .ok (.iadd, 1) := by decide +kernel
theorem dX4_repeats_42 : decode cX4_repeats 42 = .ok (.istore_n 3, 1) := by decide +kernel
theorem dX4_repeats_43 : decode cX4_repeats 43 = .ok (.aload_n 0, 1) := by decide +kernel
theorem dX4_repeats_44 : decode cX4_repeats 44 = .ok (.aload_n 0, 1) := by decide +kernel
theorem dX4_repeats_45 : decode cX4_repeats 45 = .ok (.getfield 53, 3) := by decide +kernel
theorem dX4_repeats_48 : decode cX4_repeats 48 = .ok (.iconst 4, 1) := by decide +kernel
theorem dX4_repeats_49 : decode cX4_repeats 49 = .ok (.iload_n 1, 1) := by decide +kernel
theorem dX4_repeats_50 : decode cX4_repeats 50 = .ok (.imul, 1) := by decide +kernel
theorem dX4_repeats_51 : decode cX4_repeats 51 = .ok (.iconst 3, 1) := by decide +kernel
theorem dX4_repeats_52 : decode cX4_repeats 52 = .ok (.iadd, 1) := by decide +kernel
theorem dX4_repeats_53 : decode cX4_repeats 53 = .ok (.iaload, 1) := by decide +kernel
theorem dX4_repeats_54 : decode cX4_repeats 54 = .ok (.invokevirtual 95, 3) := by decide +kernel
theorem dX4_repeats_57 : decode cX4_repeats 57 = .ok (.istore 4, 2) := by decide +kernel
theorem dX4_repeats_59 : decode cX4_repeats 59 = .ok (.aload_n 0, 1) := by decide +kernel
theorem dX4_repeats_60 : decode cX4_repeats 60 = .ok (.getfield 53, 3) := by decide +kernel
theorem dX4_repeats_63 : decode cX4_repeats 63 = .ok (.iconst 4, 1) := by decide +kernel
theorem dX4_repeats_64 : decode cX4_repeats 64 = .ok (.iload_n 1, 1) := by decide +kernel
theorem dX4_repeats_65 : decode cX4_repeats 65 = .ok (.imul, 1) := by decide +kernel
theorem dX4_repeats_66 : decode cX4_repeats 66 = .ok (.iconst 1, 1) := by decide +kernel
theorem dX4_repeats_67 : decode cX4_repeats 67 = .ok (.iadd, 1) := by decide +kernel
theorem dX4_repeats_68 : decode cX4_repeats 68 = .ok (.iaload, 1) := by decide +kernel
theorem dX4_repeats_69 : decode cX4_repeats 69 = .ok (.iconst (-1), 1) := by decide +kernel
theorem dX4_repeats_70 : decode cX4_repeats 70 = .ok (.if_icmp .ne (8), 3) := by decide +kernel
theorem dX4_repeats_73 : decode cX4_repeats 73 = .ok (.iload 4, 2) := by decide +kernel
theorem dX4_repeats_75 : decode cX4_repeats 75 = .ok (.goto (7), 3) := by decide +kernel
theorem dX4_repeats_78 : decode cX4_repeats 78 = .ok (.iconst 2, 1) := by decide +kernel
theorem dX4_repeats_79 : decode cX4_repeats 79 = .ok (.iload 4, 2) := by decide +kernel
theorem dX4_repeats_81 : decode cX4_repeats 81 = .ok (.imul, 1) := by decide +kernel
theorem dX4_repeats_82 : decode cX4_repeats 82 = .ok (.istore 4, 2) := by decide +kernel
theorem dX4_repeats_84 : decode cX4_repeats 84 = .ok (.iconst 0, 1) := by decide +kernel
theorem dX4_repeats_85 : decode cX4_repeats 85 = .ok (.istore 5, 2) := by decide +kernel
theorem dX4_repeats_87 : decode cX4_repeats 87 = .ok (.iload_n 3, 1) := by decide +kernel
theorem dX4_repeats_88 : decode cX4_repeats 88 = .ok (.iload_n 2, 1) := by decide +kernel
theorem dX4_repeats_89 : decode cX4_repeats 89 = .ok (.if_icmp .ge (21), 3) := by decide +kernel
theorem dX4_repeats_92 : decode cX4_repeats 92 = .ok (.iload 5, 2) := by decide +kernel
theorem dX4_repeats_94 : decode cX4_repeats 94 = .ok (.bipush (60), 2) := by decide +kernel
theorem dX4_repeats_96 : decode cX4_repeats 96 = .ok (.if_icmp .ge (14), 3) := by decide +kernel
theorem dX4_repeats_99 : decode cX4_repeats 99 = .ok (.iload_n 3, 1) := by decide +kernel
theorem dX4_repeats_100 : decode cX4_repeats 100 = .ok (.iload 4, 2) := by decide +kernel
theorem dX4_repeats_102 : decode cX4_repeats 102 = .ok (.iadd, 1) := by decide +kernel
theorem dX4_repeats_103 : decode cX4_repeats 103 = .ok (.istore_n 3, 1) := by decide +kernel
theorem dX4_repeats_104 : decode cX4_repeats 104 = .ok (.iinc 5 (1), 3) := by decide +kernel
theorem dX4_repeats_107 : decode cX4_repeats 107 = .ok (.goto (-20), 3) := by decide +kernel
theorem dX4_repeats_110 : decode cX4_repeats 110 = .ok (.iload 5, 2) := by decide +kernel
theorem dX4_repeats_112 : decode cX4_repeats 112 = .ok (.ireturn, 1) := by decide +kernel
theorem dX4_pile_0 : decode cX4_pile 0 = .ok (.iload_n 1, 1) := by decide +kernel
theorem dX4_pile_1 : decode cX4_pile 1 = .ok (.iconst (-1), 1) := by decide +kernel
theorem dX4_pile_2 : decode cX4_pile 2 = .ok (.if_icmp .ne (4), 3) := by decide +kernel
theorem dX4_pile_5 : decode cX4_pile 5 = .ok (.return_, 1) := by decide +kernel
theorem dX4_pile_6 : decode cX4_pile 6 = .ok (.aload_n 0, 1) := by decide +kernel
theorem dX4_pile_7 : decode cX4_pile 7 = .ok (.getfield 56, 3) := by decide +kernel
theorem dX4_pile_10 : decode cX4_pile 10 = .ok (.iconst 1, 1) := by decide +kernel
theorem dX4_pile_11 : decode cX4_pile 11 = .ok (.isub, 1) := by decide +kernel
theorem dX4_pile_12 : decode cX4_pile 12 = .ok (.istore_n 2, 1) := by decide +kernel
theorem dX4_pile_13 : decode cX4_pile 13 = .ok (.aload_n 0, 1) := by decide +kernel
theorem dX4_pile_14 : decode cX4_pile 14 = .ok (.iload_n 1, 1) := by decide +kernel
theorem dX4_pile_15 : decode cX4_pile 15 = .ok (.iconst 0, 1) := by decide +kernel
theorem dX4_pile_16 : decode cX4_pile 16 = .ok (.aload_n 0, 1) := by decide +kernel
theorem dX4_pile_17 : decode cX4_pile 17 = .ok (.getfield 16, 3) := by decide +kernel
theorem dX4_pile_20 : decode cX4_pile 20 = .ok (.iload_n 2, 1) := by decide +kernel
theorem dX4_pile_21 : decode cX4_pile 21 = .ok (.iaload, 1) := by decide +kernel
theorem dX4_pile_22 : decode cX4_pile 22 = .ok (.aload_n 0, 1) := by decide +kernel
theorem dX4_pile_23 : decode cX4_pile 23 = .ok (.getfield 19, 3) := by decide +kernel
theorem dX4_pile_26 : decode cX4_pile 26 = .ok (.iload_n 1, 1) := by decide +kernel
theorem dX4_pile_27 : decode cX4_pile 27 = .ok (.iaload, 1) := by decide +kernel
theorem dX4_pile_28 : decode cX4_pile 28 = .ok (.iadd, 1) := by decide +kernel
theorem dX4_pile_29 : decode cX4_pile 29 = .ok (.invokevirtual 99, 3) := by decide +kernel
theorem dX4_pile_32 : decode cX4_pile 32 = .ok (.aload_n 0, 1) := by decide +kernel
theorem dX4_pile_33 : decode cX4_pile 33 = .ok (.getfield 16, 3) := by decide +kernel
theorem dX4_pile_36 : decode cX4_pile 36 = .ok (.iload_n 2, 1) := by decide +kernel
theorem dX4_pile_37 : decode cX4_pile 37 = .ok (.aload_n 0, 1) := by decide +kernel
theorem dX4_pile_38 : decode cX4_pile 38 = .ok (.getfield 16, 3) := by decide +kernel
theorem dX4_pile_41 : decode cX4_pile 41 = .ok (.iload_n 2, 1) := by decide +kernel
theorem dX4_pile_42 : decode cX4_pile 42 = .ok (.iaload, 1) := by decide +kernel
theorem dX4_pile_43 : decode cX4_pile 43 = .ok (.aload_n 0, 1) := by decide +kernel
theorem dX4_pile_44 : decode cX4_pile 44 = .ok (.iload_n 1, 1) := by decide +kernel
theorem dX4_pile_45 : decode cX4_pile 45 = .ok (.invokevirtual 95, 3) := by decide +kernel
theorem dX4_pile_48 : decode cX4_pile 48 = .ok (.iadd, 1) := by decide +kernel
theorem dX4_pile_49 : decode cX4_pile 49 = .ok (.iastore, 1) := by decide +kernel
theorem dX4_pile_50 : decode cX4_pile 50 = .ok (.aload_n 0, 1) := by decide +kernel
theorem dX4_pile_51 : decode cX4_pile 51 = .ok (.getfield 13, 3) := by decide +kernel
theorem dX4_pile_54 : decode cX4_pile 54 = .ok (.iload_n 2, 1) := by decide +kernel
theorem dX4_pile_55 : decode cX4_pile 55 = .ok (.aload_n 0, 1) := by decide +kernel
theorem dX4_pile_56 : decode cX4_pile 56 = .ok (.getfield 25, 3) := by decide +kernel
theorem dX4_pile_59 : decode cX4_pile 59 = .ok (.iload_n 2, 1) := by decide +kernel
theorem dX4_pile_60 : decode cX4_pile 60 = .ok (.iaload, 1) := by decide +kernel
theorem dX4_pile_61 : decode cX4_pile 61 = .ok (.iconst 1, 1) := by decide +kernel
theorem dX4_pile_62 : decode cX4_pile 62 = .ok (.if_icmp .ne (12), 3) := by decide +kernel
theorem dX4_pile_65 : decode cX4_pile 65 = .ok (.aload_n 0, 1) := by decide +kernel
theorem dX4_pile_66 : decode cX4_pile 66 = .ok (.getfield 13, 3) := by decide +kernel
theorem dX4_pile_69 : decode cX4_pile 69 = .ok (.iload_n 1, 1) := by decide +kernel
theorem dX4_pile_70 : decode cX4_pile 70 = .ok (.iaload, 1) := by decide +kernel
theorem dX4_pile_71 : decode cX4_pile 71 = .ok (.goto (18), 3) := by decide +kernel
theorem dX4_pile_74 : decode cX4_pile 74 = .ok (.aload_n 0, 1) := by decide +kernel
theorem dX4_pile_75 : decode cX4_pile 75 = .ok (.getfield 13, 3) := by decide +kernel
theorem dX4_pile_78 : decode cX4_pile 78 = .ok (.iload_n 2, 1) := by decide +kernel
theorem dX4_pile_79 : decode cX4_pile 79 = .ok (.iaload, 1) := by decide +kernel
theorem dX4_pile_80 : decode cX4_pile 80 = .ok (.aload_n 0, 1) := by decide +kernel
theorem dX4_pile_81 : decode cX4_pile 81 = .ok (.getfield 13, 3) := by decide +kernel
theorem dX4_pile_84 : decode cX4_pile 84 = .ok (.iload_n 1, 1) := by decide +kernel
theorem dX4_pile_85 : decode cX4_pile 85 = .ok (.iaload, 1) := by decide +kernel
theorem dX4_pile_86 : decode cX4_pile 86 = .ok (.invokestatic 103, 3) := by decide +kernel
theorem dX4_pile_89 : decode cX4_pile 89 = .ok (.iastore, 1) := by decide +kernel
theorem dX4_pile_90 : decode cX4_pile 90 = .ok (.return_, 1) := by decide +kernel
theorem dX4_signBy_0 : decode cX4_signBy 0 = .ok (.aload_n 0, 1) := by decide +kernel
theorem dX4_signBy_1 : decode cX4_signBy 1 = .ok (.iload_n 1, 1) := by decide +kernel
theorem dX4_signBy_2 : decode cX4_signBy 2 = .ok (.iload_n 2, 1) := by decide +kernel
theorem dX4_signBy_3 : decode cX4_signBy 3 = .ok (.invokevirtual 107, 3) := by decide +kernel
theorem dX4_signBy_6 : decode cX4_signBy 6 = .ok (.istore_n 3, 1) := by decide +kernel
theorem dX4_signBy_7 : decode cX4_signBy 7 = .ok (.iload_n 3, 1) := by decide +kernel
theorem dX4_signBy_8 : decode cX4_signBy 8 = .ok (.bipush (-3), 2) := by decide +kernel
theorem dX4_signBy_10 : decode cX4_signBy 10 = .ok (.if_icmp .eq (5), 3) := by decide +kernel
theorem dX4_signBy_13 : decode cX4_signBy 13 = .ok (.iload_n 3, 1) := by decide +kernel
theorem dX4_signBy_14 : decode cX4_signBy 14 = .ok (.ireturn, 1) := by decide +kernel
theorem dX4_signBy_15 : decode cX4_signBy 15 = .ok (.aload_n 0, 1) := by decide +kernel
theorem dX4_signBy_16 : decode cX4_signBy 16 = .ok (.iload_n 1, 1) := by decide +kernel
theorem dX4_signBy_17 : decode cX4_signBy 17 = .ok (.iload_n 2, 1) := by decide +kernel
theorem dX4_signBy_18 : decode cX4_signBy 18 = .ok (.invokevirtual 110, 3) := by decide +kernel
theorem dX4_signBy_21 : decode cX4_signBy 21 = .ok (.istore 4, 2) := by decide +kernel
theorem dX4_signBy_23 : decode cX4_signBy 23 = .ok (.aload_n 0, 1) := by decide +kernel
theorem dX4_signBy_24 : decode cX4_signBy 24 = .ok (.iconst 0, 1) := by decide +kernel
theorem dX4_signBy_25 : decode cX4_signBy 25 = .ok (.iconst 0, 1) := by decide +kernel
theorem dX4_signBy_26 : decode cX4_signBy 26 = .ok (.iconst 0, 1) := by decide +kernel
theorem dX4_signBy_27 : decode cX4_signBy 27 = .ok (.invokevirtual 85, 3) := by decide +kernel
theorem dX4_signBy_30 : decode cX4_signBy 30 = .ok (.istore 5, 2) := by decide +kernel
theorem dX4_signBy_32 : decode cX4_signBy 32 = .ok (.aload_n 0, 1) := by decide +kernel
theorem dX4_signBy_33 : decode cX4_signBy 33 = .ok (.aload_n 0, 1) := by decide +kernel
theorem dX4_signBy_34 : decode cX4_signBy 34 = .ok (.getfield 53, 3) := by decide +kernel
theorem dX4_signBy_37 : decode cX4_signBy 37 = .ok (.iconst 4, 1) := by decide +kernel
theorem dX4_signBy_38 : decode cX4_signBy 38 = .ok (.iload_n 1, 1) := by decide +kernel
theorem dX4_signBy_39 : decode cX4_signBy 39 = .ok (.imul, 1) := by decide +kernel
theorem dX4_signBy_40 : decode cX4_signBy 40 = .ok (.iconst 2, 1) := by decide +kernel
theorem dX4_signBy_41 : decode cX4_signBy 41 = .ok (.iadd, 1) := by decide +kernel
theorem dX4_signBy_42 : decode cX4_signBy 42 = .ok (.iaload, 1) := by decide +kernel
theorem dX4_signBy_43 : decode cX4_signBy 43 = .ok (.invokevirtual 113, 3) := by decide +kernel
theorem dX4_signBy_46 : decode cX4_signBy 46 = .ok (.iconst 0, 1) := by decide +kernel
theorem dX4_signBy_47 : decode cX4_signBy 47 = .ok (.istore 6, 2) := by decide +kernel
theorem dX4_signBy_49 : decode cX4_signBy 49 = .ok (.iload 6, 2) := by decide +kernel
theorem dX4_signBy_51 : decode cX4_signBy 51 = .ok (.iload 4, 2) := by decide +kernel
theorem dX4_signBy_53 : decode cX4_signBy 53 = .ok (.if_icmp .ge (23), 3) := by decide +kernel
theorem dX4_signBy_56 : decode cX4_signBy 56 = .ok (.aload_n 0, 1) := by decide +kernel
theorem dX4_signBy_57 : decode cX4_signBy 57 = .ok (.aload_n 0, 1) := by decide +kernel
theorem dX4_signBy_58 : decode cX4_signBy 58 = .ok (.getfield 53, 3) := by decide +kernel
theorem dX4_signBy_61 : decode cX4_signBy 61 = .ok (.iconst 4, 1) := by decide +kernel
theorem dX4_signBy_62 : decode cX4_signBy 62 = .ok (.iload_n 1, 1) := by decide +kernel
theorem dX4_signBy_63 : decode cX4_signBy 63 = .ok (.imul, 1) := by decide +kernel
theorem dX4_signBy_64 : decode cX4_signBy 64 = .ok (.iconst 3, 1) := by decide +kernel
theorem dX4_signBy_65 : decode cX4_signBy 65 = .ok (.iadd, 1) := by decide +kernel
theorem dX4_signBy_66 : decode cX4_signBy 66 = .ok (.iaload, 1) := by decide +kernel
theorem dX4_signBy_67 : decode cX4_signBy 67 = .ok (.invokevirtual 113, 3) := by decide +kernel
theorem dX4_signBy_70 : decode cX4_signBy 70 = .ok (.iinc 6 (1), 3) := by decide +kernel
theorem dX4_signBy_73 : decode cX4_signBy 73 = .ok (.goto (-24), 3) := by decide +kernel
theorem dX4_signBy_76 : decode cX4_signBy 76 = .ok (.aload_n 0, 1) := by decide +kernel
theorem dX4_signBy_77 : decode cX4_signBy 77 = .ok (.getfield 53, 3) := by decide +kernel
theorem dX4_signBy_80 : decode cX4_signBy 80 = .ok (.iconst 4, 1) := by decide +kernel
theorem dX4_signBy_81 : decode cX4_signBy 81 = .ok (.iload_n 1, 1) := by decide +kernel
theorem dX4_signBy_82 : decode cX4_signBy 82 = .ok (.imul, 1) := by decide +kernel
theorem dX4_signBy_83 : decode cX4_signBy 83 = .ok (.iconst 1, 1) := by decide +kernel
theorem dX4_signBy_84 : decode cX4_signBy 84 = .ok (.iadd, 1) := by decide +kernel
theorem dX4_signBy_85 : decode cX4_signBy 85 = .ok (.iaload, 1) := by decide +kernel
theorem dX4_signBy_86 : decode cX4_signBy 86 = .ok (.iconst (-1), 1) := by decide +kernel
theorem dX4_signBy_87 : decode cX4_signBy 87 = .ok (.if_icmp .eq (47), 3) := by decide +kernel
theorem dX4_signBy_90 : decode cX4_signBy 90 = .ok (.aload_n 0, 1) := by decide +kernel
theorem dX4_signBy_91 : decode cX4_signBy 91 = .ok (.aload_n 0, 1) := by decide +kernel
theorem dX4_signBy_92 : decode cX4_signBy 92 = .ok (.getfield 53, 3) := by decide +kernel
theorem dX4_signBy_95 : decode cX4_signBy 95 = .ok (.iconst 4, 1) := by decide +kernel
theorem dX4_signBy_96 : decode cX4_signBy 96 = .ok (.iload_n 1, 1) := by decide +kernel
theorem dX4_signBy_97 : decode cX4_signBy 97 = .ok (.imul, 1) := by decide +kernel
theorem dX4_signBy_98 : decode cX4_signBy 98 = .ok (.iconst 1, 1) := by decide +kernel
theorem dX4_signBy_99 : decode cX4_signBy 99 = .ok (.iadd, 1) := by decide +kernel
theorem dX4_signBy_100 : decode cX4_signBy 100 = .ok (.iaload, 1) := by decide +kernel
theorem dX4_signBy_101 : decode cX4_signBy 101 = .ok (.invokevirtual 113, 3) := by decide +kernel
theorem dX4_signBy_104 : decode cX4_signBy 104 = .ok (.iconst 0, 1) := by decide +kernel
theorem dX4_signBy_105 : decode cX4_signBy 105 = .ok (.istore 6, 2) := by decide +kernel
theorem dX4_signBy_107 : decode cX4_signBy 107 = .ok (.iload 6, 2) := by decide +kernel
theorem dX4_signBy_109 : decode cX4_signBy 109 = .ok (.iload 4, 2) := by decide +kernel
theorem dX4_signBy_111 : decode cX4_signBy 111 = .ok (.if_icmp .ge (23), 3) := by decide +kernel
theorem dX4_signBy_114 : decode cX4_signBy 114 = .ok (.aload_n 0, 1) := by decide +kernel
theorem dX4_signBy_115 : decode cX4_signBy 115 = .ok (.aload_n 0, 1) := by decide +kernel
theorem dX4_signBy_116 : decode cX4_signBy 116 = .ok (.getfield 53, 3) := by decide +kernel
theorem dX4_signBy_119 : decode cX4_signBy 119 = .ok (.iconst 4, 1) := by decide +kernel
theorem dX4_signBy_120 : decode cX4_signBy 120 = .ok (.iload_n 1, 1) := by decide +kernel
theorem dX4_signBy_121 : decode cX4_signBy 121 = .ok (.imul, 1) := by decide +kernel
theorem dX4_signBy_122 : decode cX4_signBy 122 = .ok (.iconst 3, 1) := by decide +kernel
theorem dX4_signBy_123 : decode cX4_signBy 123 = .ok (.iadd, 1) := by decide +kernel
theorem dX4_signBy_124 : decode cX4_signBy 124 = .ok (.iaload, 1) := by decide +kernel
theorem dX4_signBy_125 : decode cX4_signBy 125 = .ok (.invokevirtual 113, 3) := by decide +kernel
theorem dX4_signBy_128 : decode cX4_signBy 128 = .ok (.iinc 6 (1), 3) := by decide +kernel
theorem dX4_signBy_131 : decode cX4_signBy 131 = .ok (.goto (-24), 3) := by decide +kernel
theorem dX4_signBy_134 : decode cX4_signBy 134 = .ok (.aload_n 0, 1) := by decide +kernel
theorem dX4_signBy_135 : decode cX4_signBy 135 = .ok (.aload_n 0, 1) := by decide +kernel
theorem dX4_signBy_136 : decode cX4_signBy 136 = .ok (.getfield 53, 3) := by decide +kernel
theorem dX4_signBy_139 : decode cX4_signBy 139 = .ok (.iconst 4, 1) := by decide +kernel
theorem dX4_signBy_140 : decode cX4_signBy 140 = .ok (.iload_n 1, 1) := by decide +kernel
theorem dX4_signBy_141 : decode cX4_signBy 141 = .ok (.imul, 1) := by decide +kernel
theorem dX4_signBy_142 : decode cX4_signBy 142 = .ok (.iaload, 1) := by decide +kernel
theorem dX4_signBy_143 : decode cX4_signBy 143 = .ok (.invokevirtual 113, 3) := by decide +kernel
theorem dX4_signBy_146 : decode cX4_signBy 146 = .ok (.iload 5, 2) := by decide +kernel
theorem dX4_signBy_148 : decode cX4_signBy 148 = .ok (.ireturn, 1) := by decide +kernel
theorem dX4_signOf_0 : decode cX4_signOf 0 = .ok (.aload_n 0, 1) := by decide +kernel
theorem dX4_signOf_1 : decode cX4_signOf 1 = .ok (.iload_n 1, 1) := by decide +kernel
theorem dX4_signOf_2 : decode cX4_signOf 2 = .ok (.invokestatic 89, 3) := by decide +kernel
theorem dX4_signOf_5 : decode cX4_signOf 5 = .ok (.ifCond .ne (7), 3) := by decide +kernel
theorem dX4_signOf_8 : decode cX4_signOf 8 = .ok (.iconst 1, 1) := by decide +kernel
theorem dX4_signOf_9 : decode cX4_signOf 9 = .ok (.goto (57), 3) := by decide +kernel
theorem dX4_signOf_12 : decode cX4_signOf 12 = .ok (.iload_n 2, 1) := by decide +kernel
theorem dX4_signOf_13 : decode cX4_signOf 13 = .ok (.iconst 0, 1) := by decide +kernel
theorem dX4_signOf_14 : decode cX4_signOf 14 = .ok (.ldc 117, 2) := by decide +kernel
theorem dX4_signOf_16 : decode cX4_signOf 16 = .ok (.invokestatic 63, 3) := by decide +kernel
theorem dX4_signOf_19 : decode cX4_signOf 19 = .ok (.ifCond .ne (7), 3) := by decide +kernel
theorem dX4_signOf_22 : decode cX4_signOf 22 = .ok (.iconst 2, 1) := by decide +kernel
theorem dX4_signOf_23 : decode cX4_signOf 23 = .ok (.goto (43), 3) := by decide +kernel
theorem dX4_signOf_26 : decode cX4_signOf 26 = .ok (.aload_n 0, 1) := by decide +kernel
theorem dX4_signOf_27 : decode cX4_signOf 27 = .ok (.iload_n 1, 1) := by decide +kernel
theorem dX4_signOf_28 : decode cX4_signOf 28 = .ok (.iload_n 2, 1) := by decide +kernel
theorem dX4_signOf_29 : decode cX4_signOf 29 = .ok (.invokevirtual 107, 3) := by decide +kernel
theorem dX4_signOf_32 : decode cX4_signOf 32 = .ok (.bipush (-2), 2) := by decide +kernel
theorem dX4_signOf_34 : decode cX4_signOf 34 = .ok (.if_icmp .ne (7), 3) := by decide +kernel
theorem dX4_signOf_37 : decode cX4_signOf 37 = .ok (.iconst 3, 1) := by decide +kernel
theorem dX4_signOf_38 : decode cX4_signOf 38 = .ok (.goto (28), 3) := by decide +kernel
theorem dX4_signOf_41 : decode cX4_signOf 41 = .ok (.aload_n 0, 1) := by decide +kernel
theorem dX4_signOf_42 : decode cX4_signOf 42 = .ok (.iload_n 1, 1) := by decide +kernel
theorem dX4_signOf_43 : decode cX4_signOf 43 = .ok (.iload_n 2, 1) := by decide +kernel
theorem dX4_signOf_44 : decode cX4_signOf 44 = .ok (.invokevirtual 107, 3) := by decide +kernel
theorem dX4_signOf_47 : decode cX4_signOf 47 = .ok (.bipush (-3), 2) := by decide +kernel
theorem dX4_signOf_49 : decode cX4_signOf 49 = .ok (.if_icmp .ne (16), 3) := by decide +kernel
theorem dX4_signOf_52 : decode cX4_signOf 52 = .ok (.aload_n 0, 1) := by decide +kernel
theorem dX4_signOf_53 : decode cX4_signOf 53 = .ok (.getfield 56, 3) := by decide +kernel
theorem dX4_signOf_56 : decode cX4_signOf 56 = .ok (.bipush (120), 2) := by decide +kernel
theorem dX4_signOf_58 : decode cX4_signOf 58 = .ok (.if_icmp .ne (7), 3) := by decide +kernel
theorem dX4_signOf_61 : decode cX4_signOf 61 = .ok (.iconst 4, 1) := by decide +kernel
theorem dX4_signOf_62 : decode cX4_signOf 62 = .ok (.goto (4), 3) := by decide +kernel
theorem dX4_signOf_65 : decode cX4_signOf 65 = .ok (.iconst 0, 1) := by decide +kernel
theorem dX4_signOf_66 : decode cX4_signOf 66 = .ok (.putfield 60, 3) := by decide +kernel
theorem dX4_signOf_69 : decode cX4_signOf 69 = .ok (.aload_n 0, 1) := by decide +kernel
theorem dX4_signOf_70 : decode cX4_signOf 70 = .ok (.getfield 60, 3) := by decide +kernel
theorem dX4_signOf_73 : decode cX4_signOf 73 = .ok (.ifCond .le (7), 3) := by decide +kernel
theorem dX4_signOf_76 : decode cX4_signOf 76 = .ok (.iconst 0, 1) := by decide +kernel
theorem dX4_signOf_77 : decode cX4_signOf 77 = .ok (.goto (9), 3) := by decide +kernel
theorem dX4_signOf_80 : decode cX4_signOf 80 = .ok (.aload_n 0, 1) := by decide +kernel
theorem dX4_signOf_81 : decode cX4_signOf 81 = .ok (.iload_n 1, 1) := by decide +kernel
theorem dX4_signOf_82 : decode cX4_signOf 82 = .ok (.iload_n 2, 1) := by decide +kernel
theorem dX4_signOf_83 : decode cX4_signOf 83 = .ok (.invokevirtual 118, 3) := by decide +kernel
theorem dX4_signOf_86 : decode cX4_signOf 86 = .ok (.ireturn, 1) := by decide +kernel
theorem dX4_fraction_0 : decode cX4_fraction 0 = .ok (.aload_n 0, 1) := by decide +kernel
theorem dX4_fraction_1 : decode cX4_fraction 1 = .ok (.aload_n 0, 1) := by decide +kernel
theorem dX4_fraction_2 : decode cX4_fraction 2 = .ok (.iload_n 2, 1) := by decide +kernel
theorem dX4_fraction_3 : decode cX4_fraction 3 = .ok (.invokevirtual 67, 3) := by decide +kernel
theorem dX4_fraction_6 : decode cX4_fraction 6 = .ok (.ifCond .eq (11), 3) := by decide +kernel
theorem dX4_fraction_9 : decode cX4_fraction 9 = .ok (.aload_n 0, 1) := by decide +kernel
theorem dX4_fraction_10 : decode cX4_fraction 10 = .ok (.iload_n 3, 1) := by decide +kernel
theorem dX4_fraction_11 : decode cX4_fraction 11 = .ok (.invokevirtual 67, 3) := by decide +kernel
theorem dX4_fraction_14 : decode cX4_fraction 14 = .ok (.ifCond .ne (7), 3) := by decide +kernel
theorem dX4_fraction_17 : decode cX4_fraction 17 = .ok (.iconst 1, 1) := by decide +kernel
theorem dX4_fraction_18 : decode cX4_fraction 18 = .ok (.goto (39), 3) := by decide +kernel
theorem dX4_fraction_21 : decode cX4_fraction 21 = .ok (.iload_n 1, 1) := by decide +kernel
theorem dX4_fraction_22 : decode cX4_fraction 22 = .ok (.invokestatic 121, 3) := by decide +kernel
theorem dX4_fraction_25 : decode cX4_fraction 25 = .ok (.ifCond .eq (14), 3) := by decide +kernel
theorem dX4_fraction_28 : decode cX4_fraction 28 = .ok (.iload 4, 2) := by decide +kernel
theorem dX4_fraction_30 : decode cX4_fraction 30 = .ok (.iconst 0, 1) := by decide +kernel
theorem dX4_fraction_31 : decode cX4_fraction 31 = .ok (.ldc 75, 2) := by decide +kernel
theorem dX4_fraction_33 : decode cX4_fraction 33 = .ok (.invokestatic 63, 3) := by decide +kernel
theorem dX4_fraction_36 : decode cX4_fraction 36 = .ok (.ifCond .ne (7), 3) := by decide +kernel
theorem dX4_fraction_39 : decode cX4_fraction 39 = .ok (.iconst 2, 1) := by decide +kernel
theorem dX4_fraction_40 : decode cX4_fraction 40 = .ok (.goto (17), 3) := by decide +kernel
theorem dX4_fraction_43 : decode cX4_fraction 43 = .ok (.aload_n 0, 1) := by decide +kernel
theorem dX4_fraction_44 : decode cX4_fraction 44 = .ok (.getfield 56, 3) := by decide +kernel
theorem dX4_fraction_47 : decode cX4_fraction 47 = .ok (.bipush (120), 2) := by decide +kernel
theorem dX4_fraction_49 : decode cX4_fraction 49 = .ok (.if_icmp .ne (7), 3) := by decide +kernel
theorem dX4_fraction_52 : decode cX4_fraction 52 = .ok (.iconst 3, 1) := by decide +kernel
theorem dX4_fraction_53 : decode cX4_fraction 53 = .ok (.goto (4), 3) := by decide +kernel
theorem dX4_fraction_56 : decode cX4_fraction 56 = .ok (.iconst 0, 1) := by decide +kernel
theorem dX4_fraction_57 : decode cX4_fraction 57 = .ok (.putfield 60, 3) := by decide +kernel
theorem dX4_fraction_60 : decode cX4_fraction 60 = .ok (.aload_n 0, 1) := by decide +kernel
theorem dX4_fraction_61 : decode cX4_fraction 61 = .ok (.getfield 60, 3) := by decide +kernel
theorem dX4_fraction_64 : decode cX4_fraction 64 = .ok (.ifCond .le (5), 3) := by decide +kernel
theorem dX4_fraction_67 : decode cX4_fraction 67 = .ok (.iconst 0, 1) := by decide +kernel
theorem dX4_fraction_68 : decode cX4_fraction 68 = .ok (.ireturn, 1) := by decide +kernel
theorem dX4_fraction_69 : decode cX4_fraction 69 = .ok (.aload_n 0, 1) := by decide +kernel
theorem dX4_fraction_70 : decode cX4_fraction 70 = .ok (.iload_n 1, 1) := by decide +kernel
theorem dX4_fraction_71 : decode cX4_fraction 71 = .ok (.invokevirtual 124, 3) := by decide +kernel
theorem dX4_fraction_74 : decode cX4_fraction 74 = .ok (.iload_n 1, 1) := by decide +kernel
theorem dX4_fraction_75 : decode cX4_fraction 75 = .ok (.ifCond .ne (11), 3) := by decide +kernel
theorem dX4_fraction_78 : decode cX4_fraction 78 = .ok (.aload_n 0, 1) := by decide +kernel
theorem dX4_fraction_79 : decode cX4_fraction 79 = .ok (.iconst 1, 1) := by decide +kernel
theorem dX4_fraction_80 : decode cX4_fraction 80 = .ok (.invokevirtual 127, 3) := by decide +kernel
theorem dX4_fraction_83 : decode cX4_fraction 83 = .ok (.goto (21), 3) := by decide +kernel
theorem dX4_fraction_86 : decode cX4_fraction 86 = .ok (.iload 4, 2) := by decide +kernel
theorem dX4_fraction_88 : decode cX4_fraction 88 = .ok (.ifCond .le (11), 3) := by decide +kernel
theorem dX4_fraction_91 : decode cX4_fraction 91 = .ok (.aload_n 0, 1) := by decide +kernel
theorem dX4_fraction_92 : decode cX4_fraction 92 = .ok (.iconst 2, 1) := by decide +kernel
theorem dX4_fraction_93 : decode cX4_fraction 93 = .ok (.invokevirtual 127, 3) := by decide +kernel
theorem dX4_fraction_96 : decode cX4_fraction 96 = .ok (.goto (8), 3) := by decide +kernel
theorem dX4_fraction_99 : decode cX4_fraction 99 = .ok (.aload_n 0, 1) := by decide +kernel
theorem dX4_fraction_100 : decode cX4_fraction 100 = .ok (.iconst 3, 1) := by decide +kernel
theorem dX4_fraction_101 : decode cX4_fraction 101 = .ok (.invokevirtual 127, 3) := by decide +kernel
theorem dX4_fraction_104 : decode cX4_fraction 104 = .ok (.istore 5, 2) := by decide +kernel
theorem dX4_fraction_106 : decode cX4_fraction 106 = .ok (.iload_n 1, 1) := by decide +kernel
theorem dX4_fraction_107 : decode cX4_fraction 107 = .ok (.ifCond .ne (11), 3) := by decide +kernel
theorem dX4_fraction_110 : decode cX4_fraction 110 = .ok (.aload_n 0, 1) := by decide +kernel
theorem dX4_fraction_111 : decode cX4_fraction 111 = .ok (.iconst 4, 1) := by decide +kernel
theorem dX4_fraction_112 : decode cX4_fraction 112 = .ok (.invokevirtual 127, 3) := by decide +kernel
theorem dX4_fraction_115 : decode cX4_fraction 115 = .ok (.goto (8), 3) := by decide +kernel
theorem dX4_fraction_118 : decode cX4_fraction 118 = .ok (.aload_n 0, 1) := by decide +kernel
theorem dX4_fraction_119 : decode cX4_fraction 119 = .ok (.iconst 5, 1) := by decide +kernel
theorem dX4_fraction_120 : decode cX4_fraction 120 = .ok (.invokevirtual 127, 3) := by decide +kernel
theorem dX4_fraction_123 : decode cX4_fraction 123 = .ok (.istore 6, 2) := by decide +kernel
theorem dX4_fraction_125 : decode cX4_fraction 125 = .ok (.iload 4, 2) := by decide +kernel
theorem dX4_fraction_127 : decode cX4_fraction 127 = .ok (.invokestatic 130, 3) := by decide +kernel
theorem dX4_fraction_130 : decode cX4_fraction 130 = .ok (.istore 7, 2) := by decide +kernel
theorem dX4_fraction_132 : decode cX4_fraction 132 = .ok (.iload 4, 2) := by decide +kernel
theorem dX4_fraction_134 : decode cX4_fraction 134 = .ok (.ifCond .ne (93), 3) := by decide +kernel
theorem dX4_fraction_137 : decode cX4_fraction 137 = .ok (.iload_n 1, 1) := by decide +kernel
theorem dX4_fraction_138 : decode cX4_fraction 138 = .ok (.ifCond .ne (15), 3) := by decide +kernel
theorem dX4_fraction_141 : decode cX4_fraction 141 = .ok (.bipush (7), 2) := by decide +kernel
theorem dX4_fraction_143 : decode cX4_fraction 143 = .ok (.aload_n 0, 1) := by decide +kernel
theorem dX4_fraction_144 : decode cX4_fraction 144 = .ok (.bipush (13), 2) := by decide +kernel
theorem dX4_fraction_146 : decode cX4_fraction 146 = .ok (.invokevirtual 127, 3) := by decide +kernel
theorem dX4_fraction_149 : decode cX4_fraction 149 = .ok (.imul, 1) := by decide +kernel
theorem dX4_fraction_150 : decode cX4_fraction 150 = .ok (.goto (11), 3) := by decide +kernel
theorem dX4_fraction_153 : decode cX4_fraction 153 = .ok (.iconst 3, 1) := by decide +kernel
theorem dX4_fraction_154 : decode cX4_fraction 154 = .ok (.aload_n 0, 1) := by decide +kernel
theorem dX4_fraction_155 : decode cX4_fraction 155 = .ok (.bipush (13), 2) := by decide +kernel
theorem dX4_fraction_157 : decode cX4_fraction 157 = .ok (.invokevirtual 127, 3) := by decide +kernel
theorem dX4_fraction_160 : decode cX4_fraction 160 = .ok (.imul, 1) := by decide +kernel
theorem dX4_fraction_161 : decode cX4_fraction 161 = .ok (.istore 8, 2) := by decide +kernel
theorem dX4_fraction_163 : decode cX4_fraction 163 = .ok (.iload 8, 2) := by decide +kernel
theorem dX4_fraction_165 : decode cX4_fraction 165 = .ok (.iload 5, 2) := by decide +kernel
theorem dX4_fraction_167 : decode cX4_fraction 167 = .ok (.aload_n 0, 1) := by decide +kernel
theorem dX4_fraction_168 : decode cX4_fraction 168 = .ok (.getfield 19, 3) := by decide +kernel
theorem dX4_fraction_171 : decode cX4_fraction 171 = .ok (.iload_n 2, 1) := by decide +kernel
theorem dX4_fraction_172 : decode cX4_fraction 172 = .ok (.iaload, 1) := by decide +kernel
theorem dX4_fraction_173 : decode cX4_fraction 173 = .ok (.isub, 1) := by decide +kernel
theorem dX4_fraction_174 : decode cX4_fraction 174 = .ok (.aload_n 0, 1) := by decide +kernel
theorem dX4_fraction_175 : decode cX4_fraction 175 = .ok (.getfield 16, 3) := by decide +kernel
theorem dX4_fraction_178 : decode cX4_fraction 178 = .ok (.iload_n 3, 1) := by decide +kernel
theorem dX4_fraction_179 : decode cX4_fraction 179 = .ok (.iaload, 1) := by decide +kernel
theorem dX4_fraction_180 : decode cX4_fraction 180 = .ok (.iload 6, 2) := by decide +kernel
theorem dX4_fraction_182 : decode cX4_fraction 182 = .ok (.isub, 1) := by decide +kernel
theorem dX4_fraction_183 : decode cX4_fraction 183 = .ok (.isub, 1) := by decide +kernel
theorem dX4_fraction_184 : decode cX4_fraction 184 = .ok (.isub, 1) := by decide +kernel
theorem dX4_fraction_185 : decode cX4_fraction 185 = .ok (.invokestatic 130, 3) := by decide +kernel
theorem dX4_fraction_188 : decode cX4_fraction 188 = .ok (.istore 9, 2) := by decide +kernel
theorem dX4_fraction_190 : decode cX4_fraction 190 = .ok (.iload 9, 2) := by decide +kernel
theorem dX4_fraction_192 : decode cX4_fraction 192 = .ok (.ifCond .le (11), 3) := by decide +kernel
theorem dX4_fraction_195 : decode cX4_fraction 195 = .ok (.iload 5, 2) := by decide +kernel
theorem dX4_fraction_197 : decode cX4_fraction 197 = .ok (.iload 9, 2) := by decide +kernel
theorem dX4_fraction_199 : decode cX4_fraction 199 = .ok (.iadd, 1) := by decide +kernel
theorem dX4_fraction_200 : decode cX4_fraction 200 = .ok (.goto (5), 3) := by decide +kernel
theorem dX4_fraction_203 : decode cX4_fraction 203 = .ok (.iload 5, 2) := by decide +kernel
theorem dX4_fraction_205 : decode cX4_fraction 205 = .ok (.istore 5, 2) := by decide +kernel
theorem dX4_fraction_207 : decode cX4_fraction 207 = .ok (.iload 9, 2) := by decide +kernel
theorem dX4_fraction_209 : decode cX4_fraction 209 = .ok (.ifCond .le (11), 3) := by decide +kernel
theorem dX4_fraction_212 : decode cX4_fraction 212 = .ok (.iload 6, 2) := by decide +kernel
theorem dX4_fraction_214 : decode cX4_fraction 214 = .ok (.iload 9, 2) := by decide +kernel
theorem dX4_fraction_216 : decode cX4_fraction 216 = .ok (.iadd, 1) := by decide +kernel
theorem dX4_fraction_217 : decode cX4_fraction 217 = .ok (.goto (5), 3) := by decide +kernel
theorem dX4_fraction_220 : decode cX4_fraction 220 = .ok (.iload 6, 2) := by decide +kernel
theorem dX4_fraction_222 : decode cX4_fraction 222 = .ok (.istore 6, 2) := by decide +kernel
theorem dX4_fraction_224 : decode cX4_fraction 224 = .ok (.goto (98), 3) := by decide +kernel
theorem dX4_fraction_227 : decode cX4_fraction 227 = .ok (.iload_n 1, 1) := by decide +kernel
theorem dX4_fraction_228 : decode cX4_fraction 228 = .ok (.ifCond .ne (10), 3) := by decide +kernel
theorem dX4_fraction_231 : decode cX4_fraction 231 = .ok (.iconst 3, 1) := by decide +kernel
theorem dX4_fraction_232 : decode cX4_fraction 232 = .ok (.iload 4, 2) := by decide +kernel
theorem dX4_fraction_234 : decode cX4_fraction 234 = .ok (.imul, 1) := by decide +kernel
theorem dX4_fraction_235 : decode cX4_fraction 235 = .ok (.goto (5), 3) := by decide +kernel
theorem dX4_fraction_238 : decode cX4_fraction 238 = .ok (.iload 4, 2) := by decide +kernel
theorem dX4_fraction_240 : decode cX4_fraction 240 = .ok (.istore 8, 2) := by decide +kernel
theorem dX4_fraction_242 : decode cX4_fraction 242 = .ok (.iload 8, 2) := by decide +kernel
theorem dX4_fraction_244 : decode cX4_fraction 244 = .ok (.iload 5, 2) := by decide +kernel
theorem dX4_fraction_246 : decode cX4_fraction 246 = .ok (.aload_n 0, 1) := by decide +kernel
theorem dX4_fraction_247 : decode cX4_fraction 247 = .ok (.getfield 19, 3) := by decide +kernel
theorem dX4_fraction_250 : decode cX4_fraction 250 = .ok (.iload_n 2, 1) := by decide +kernel
theorem dX4_fraction_251 : decode cX4_fraction 251 = .ok (.iaload, 1) := by decide +kernel
theorem dX4_fraction_252 : decode cX4_fraction 252 = .ok (.isub, 1) := by decide +kernel
theorem dX4_fraction_253 : decode cX4_fraction 253 = .ok (.aload_n 0, 1) := by decide +kernel
theorem dX4_fraction_254 : decode cX4_fraction 254 = .ok (.iconst 0, 1) := by decide +kernel
theorem dX4_fraction_255 : decode cX4_fraction 255 = .ok (.invokevirtual 127, 3) := by decide +kernel
theorem dX4_fraction_258 : decode cX4_fraction 258 = .ok (.iload 7, 2) := by decide +kernel
theorem dX4_fraction_260 : decode cX4_fraction 260 = .ok (.iadd, 1) := by decide +kernel
theorem dX4_fraction_261 : decode cX4_fraction 261 = .ok (.isub, 1) := by decide +kernel
theorem dX4_fraction_262 : decode cX4_fraction 262 = .ok (.isub, 1) := by decide +kernel
theorem dX4_fraction_263 : decode cX4_fraction 263 = .ok (.istore 9, 2) := by decide +kernel
theorem dX4_fraction_265 : decode cX4_fraction 265 = .ok (.iload 8, 2) := by decide +kernel
theorem dX4_fraction_267 : decode cX4_fraction 267 = .ok (.aload_n 0, 1) := by decide +kernel
theorem dX4_fraction_268 : decode cX4_fraction 268 = .ok (.iconst 0, 1) := by decide +kernel
theorem dX4_fraction_269 : decode cX4_fraction 269 = .ok (.invokevirtual 127, 3) := by decide +kernel
theorem dX4_fraction_272 : decode cX4_fraction 272 = .ok (.iload 7, 2) := by decide +kernel
theorem dX4_fraction_274 : decode cX4_fraction 274 = .ok (.isub, 1) := by decide +kernel
theorem dX4_fraction_275 : decode cX4_fraction 275 = .ok (.aload_n 0, 1) := by decide +kernel
theorem dX4_fraction_276 : decode cX4_fraction 276 = .ok (.getfield 16, 3) := by decide +kernel
theorem dX4_fraction_279 : decode cX4_fraction 279 = .ok (.iload_n 3, 1) := by decide +kernel
theorem dX4_fraction_280 : decode cX4_fraction 280 = .ok (.iaload, 1) := by decide +kernel
theorem dX4_fraction_281 : decode cX4_fraction 281 = .ok (.iload 6, 2) := by decide +kernel
theorem dX4_fraction_283 : decode cX4_fraction 283 = .ok (.isub, 1) := by decide +kernel
theorem dX4_fraction_284 : decode cX4_fraction 284 = .ok (.isub, 1) := by decide +kernel
theorem dX4_fraction_285 : decode cX4_fraction 285 = .ok (.isub, 1) := by decide +kernel
theorem dX4_fraction_286 : decode cX4_fraction 286 = .ok (.istore 10, 2) := by decide +kernel
theorem dX4_fraction_288 : decode cX4_fraction 288 = .ok (.iload 9, 2) := by decide +kernel
theorem dX4_fraction_290 : decode cX4_fraction 290 = .ok (.ifCond .le (11), 3) := by decide +kernel
theorem dX4_fraction_293 : decode cX4_fraction 293 = .ok (.iload 5, 2) := by decide +kernel
theorem dX4_fraction_295 : decode cX4_fraction 295 = .ok (.iload 9, 2) := by decide +kernel
theorem dX4_fraction_297 : decode cX4_fraction 297 = .ok (.iadd, 1) := by decide +kernel
theorem dX4_fraction_298 : decode cX4_fraction 298 = .ok (.goto (5), 3) := by decide +kernel
theorem dX4_fraction_301 : decode cX4_fraction 301 = .ok (.iload 5, 2) := by decide +kernel
theorem dX4_fraction_303 : decode cX4_fraction 303 = .ok (.istore 5, 2) := by decide +kernel
theorem dX4_fraction_305 : decode cX4_fraction 305 = .ok (.iload 10, 2) := by decide +kernel
theorem dX4_fraction_307 : decode cX4_fraction 307 = .ok (.ifCond .le (11), 3) := by decide +kernel
theorem dX4_fraction_310 : decode cX4_fraction 310 = .ok (.iload 6, 2) := by decide +kernel
theorem dX4_fraction_312 : decode cX4_fraction 312 = .ok (.iload 10, 2) := by decide +kernel
theorem dX4_fraction_314 : decode cX4_fraction 314 = .ok (.iadd, 1) := by decide +kernel
theorem dX4_fraction_315 : decode cX4_fraction 315 = .ok (.goto (5), 3) := by decide +kernel
theorem dX4_fraction_318 : decode cX4_fraction 318 = .ok (.iload 6, 2) := by decide +kernel
theorem dX4_fraction_320 : decode cX4_fraction 320 = .ok (.istore 6, 2) := by decide +kernel
theorem dX4_fraction_322 : decode cX4_fraction 322 = .ok (.aload_n 0, 1) := by decide +kernel
theorem dX4_fraction_323 : decode cX4_fraction 323 = .ok (.getfield 13, 3) := by decide +kernel
theorem dX4_fraction_326 : decode cX4_fraction 326 = .ok (.iload_n 2, 1) := by decide +kernel
theorem dX4_fraction_327 : decode cX4_fraction 327 = .ok (.iaload, 1) := by decide +kernel
theorem dX4_fraction_328 : decode cX4_fraction 328 = .ok (.aload_n 0, 1) := by decide +kernel
theorem dX4_fraction_329 : decode cX4_fraction 329 = .ok (.getfield 13, 3) := by decide +kernel
theorem dX4_fraction_332 : decode cX4_fraction 332 = .ok (.iload_n 3, 1) := by decide +kernel
theorem dX4_fraction_333 : decode cX4_fraction 333 = .ok (.iaload, 1) := by decide +kernel
theorem dX4_fraction_334 : decode cX4_fraction 334 = .ok (.invokestatic 103, 3) := by decide +kernel
theorem dX4_fraction_337 : decode cX4_fraction 337 = .ok (.istore 8, 2) := by decide +kernel
theorem dX4_fraction_339 : decode cX4_fraction 339 = .ok (.aload_n 0, 1) := by decide +kernel
theorem dX4_fraction_340 : decode cX4_fraction 340 = .ok (.iload 8, 2) := by decide +kernel
theorem dX4_fraction_342 : decode cX4_fraction 342 = .ok (.iload 5, 2) := by decide +kernel
theorem dX4_fraction_344 : decode cX4_fraction 344 = .ok (.aload_n 0, 1) := by decide +kernel
theorem dX4_fraction_345 : decode cX4_fraction 345 = .ok (.getfield 16, 3) := by decide +kernel
theorem dX4_fraction_348 : decode cX4_fraction 348 = .ok (.iload_n 2, 1) := by decide +kernel
theorem dX4_fraction_349 : decode cX4_fraction 349 = .ok (.iaload, 1) := by decide +kernel
theorem dX4_fraction_350 : decode cX4_fraction 350 = .ok (.iadd, 1) := by decide +kernel
theorem dX4_fraction_351 : decode cX4_fraction 351 = .ok (.aload_n 0, 1) := by decide +kernel
theorem dX4_fraction_352 : decode cX4_fraction 352 = .ok (.getfield 19, 3) := by decide +kernel
theorem dX4_fraction_355 : decode cX4_fraction 355 = .ok (.iload_n 3, 1) := by decide +kernel
theorem dX4_fraction_356 : decode cX4_fraction 356 = .ok (.iaload, 1) := by decide +kernel
theorem dX4_fraction_357 : decode cX4_fraction 357 = .ok (.iload 6, 2) := by decide +kernel
theorem dX4_fraction_359 : decode cX4_fraction 359 = .ok (.iadd, 1) := by decide +kernel
theorem dX4_fraction_360 : decode cX4_fraction 360 = .ok (.invokevirtual 85, 3) := by decide +kernel
theorem dX4_fraction_363 : decode cX4_fraction 363 = .ok (.istore 9, 2) := by decide +kernel
theorem dX4_fraction_365 : decode cX4_fraction 365 = .ok (.aload_n 0, 1) := by decide +kernel
theorem dX4_fraction_366 : decode cX4_fraction 366 = .ok (.iload_n 2, 1) := by decide +kernel
theorem dX4_fraction_367 : decode cX4_fraction 367 = .ok (.iload 8, 2) := by decide +kernel
theorem dX4_fraction_369 : decode cX4_fraction 369 = .ok (.aload_n 0, 1) := by decide +kernel
theorem dX4_fraction_370 : decode cX4_fraction 370 = .ok (.getfield 13, 3) := by decide +kernel
theorem dX4_fraction_373 : decode cX4_fraction 373 = .ok (.iload_n 2, 1) := by decide +kernel
theorem dX4_fraction_374 : decode cX4_fraction 374 = .ok (.iaload, 1) := by decide +kernel
theorem dX4_fraction_375 : decode cX4_fraction 375 = .ok (.isub, 1) := by decide +kernel
theorem dX4_fraction_376 : decode cX4_fraction 376 = .ok (.invokestatic 130, 3) := by decide +kernel
theorem dX4_fraction_379 : decode cX4_fraction 379 = .ok (.iload 5, 2) := by decide +kernel
theorem dX4_fraction_381 : decode cX4_fraction 381 = .ok (.invokevirtual 99, 3) := by decide +kernel
theorem dX4_fraction_384 : decode cX4_fraction 384 = .ok (.aload_n 0, 1) := by decide +kernel
theorem dX4_fraction_385 : decode cX4_fraction 385 = .ok (.iload_n 3, 1) := by decide +kernel
theorem dX4_fraction_386 : decode cX4_fraction 386 = .ok (.iload 8, 2) := by decide +kernel
theorem dX4_fraction_388 : decode cX4_fraction 388 = .ok (.aload_n 0, 1) := by decide +kernel
theorem dX4_fraction_389 : decode cX4_fraction 389 = .ok (.getfield 13, 3) := by decide +kernel
theorem dX4_fraction_392 : decode cX4_fraction 392 = .ok (.iload_n 3, 1) := by decide +kernel
theorem dX4_fraction_393 : decode cX4_fraction 393 = .ok (.iaload, 1) := by decide +kernel
theorem dX4_fraction_394 : decode cX4_fraction 394 = .ok (.isub, 1) := by decide +kernel
theorem dX4_fraction_395 : decode cX4_fraction 395 = .ok (.invokestatic 130, 3) := by decide +kernel
theorem dX4_fraction_398 : decode cX4_fraction 398 = .ok (.iload 6, 2) := by decide +kernel
theorem dX4_fraction_400 : decode cX4_fraction 400 = .ok (.ineg, 1) := by decide +kernel
theorem dX4_fraction_401 : decode cX4_fraction 401 = .ok (.invokevirtual 99, 3) := by decide +kernel
theorem dX4_fraction_404 : decode cX4_fraction 404 = .ok (.iload 4, 2) := by decide +kernel
theorem dX4_fraction_406 : decode cX4_fraction 406 = .ok (.ifCond .le (38), 3) := by decide +kernel
theorem dX4_fraction_409 : decode cX4_fraction 409 = .ok (.aload_n 0, 1) := by decide +kernel
theorem dX4_fraction_410 : decode cX4_fraction 410 = .ok (.iconst (-1), 1) := by decide +kernel
theorem dX4_fraction_411 : decode cX4_fraction 411 = .ok (.iconst 0, 1) := by decide +kernel
theorem dX4_fraction_412 : decode cX4_fraction 412 = .ok (.aload_n 0, 1) := by decide +kernel
theorem dX4_fraction_413 : decode cX4_fraction 413 = .ok (.iconst 0, 1) := by decide +kernel
theorem dX4_fraction_414 : decode cX4_fraction 414 = .ok (.invokevirtual 127, 3) := by decide +kernel
theorem dX4_fraction_417 : decode cX4_fraction 417 = .ok (.iload 7, 2) := by decide +kernel
theorem dX4_fraction_419 : decode cX4_fraction 419 = .ok (.iadd, 1) := by decide +kernel
theorem dX4_fraction_420 : decode cX4_fraction 420 = .ok (.iload 4, 2) := by decide +kernel
theorem dX4_fraction_422 : decode cX4_fraction 422 = .ok (.isub, 1) := by decide +kernel
theorem dX4_fraction_423 : decode cX4_fraction 423 = .ok (.invokevirtual 99, 3) := by decide +kernel
theorem dX4_fraction_426 : decode cX4_fraction 426 = .ok (.aload_n 0, 1) := by decide +kernel
theorem dX4_fraction_427 : decode cX4_fraction 427 = .ok (.getfield 28, 3) := by decide +kernel
theorem dX4_fraction_430 : decode cX4_fraction 430 = .ok (.iload 9, 2) := by decide +kernel
theorem dX4_fraction_432 : decode cX4_fraction 432 = .ok (.iload 8, 2) := by decide +kernel
theorem dX4_fraction_434 : decode cX4_fraction 434 = .ok (.iastore, 1) := by decide +kernel
theorem dX4_fraction_435 : decode cX4_fraction 435 = .ok (.aload_n 0, 1) := by decide +kernel
theorem dX4_fraction_436 : decode cX4_fraction 436 = .ok (.getfield 31, 3) := by decide +kernel
theorem dX4_fraction_439 : decode cX4_fraction 439 = .ok (.iload 9, 2) := by decide +kernel
theorem dX4_fraction_441 : decode cX4_fraction 441 = .ok (.iload 4, 2) := by decide +kernel
theorem dX4_fraction_443 : decode cX4_fraction 443 = .ok (.iastore, 1) := by decide +kernel
theorem dX4_fraction_444 : decode cX4_fraction 444 = .ok (.iload 9, 2) := by decide +kernel
theorem dX4_fraction_446 : decode cX4_fraction 446 = .ok (.ireturn, 1) := by decide +kernel
theorem dX4_root_0 : decode cX4_root 0 = .ok (.aload_n 0, 1) := by decide +kernel
theorem dX4_root_1 : decode cX4_root 1 = .ok (.aload_n 0, 1) := by decide +kernel
theorem dX4_root_2 : decode cX4_root 2 = .ok (.iload_n 2, 1) := by decide +kernel
theorem dX4_root_3 : decode cX4_root 3 = .ok (.invokevirtual 67, 3) := by decide +kernel
theorem dX4_root_6 : decode cX4_root 6 = .ok (.ifCond .eq (10), 3) := by decide +kernel
theorem dX4_root_9 : decode cX4_root 9 = .ok (.iload_n 3, 1) := by decide +kernel
theorem dX4_root_10 : decode cX4_root 10 = .ok (.invokestatic 89, 3) := by decide +kernel
theorem dX4_root_13 : decode cX4_root 13 = .ok (.ifCond .ne (7), 3) := by decide +kernel
theorem dX4_root_16 : decode cX4_root 16 = .ok (.iconst 1, 1) := by decide +kernel
theorem dX4_root_17 : decode cX4_root 17 = .ok (.goto (15), 3) := by decide +kernel
theorem dX4_root_20 : decode cX4_root 20 = .ok (.iload_n 1, 1) := by decide +kernel
theorem dX4_root_21 : decode cX4_root 21 = .ok (.invokestatic 121, 3) := by decide +kernel
theorem dX4_root_24 : decode cX4_root 24 = .ok (.ifCond .ne (7), 3) := by decide +kernel
theorem dX4_root_27 : decode cX4_root 27 = .ok (.iconst 2, 1) := by decide +kernel
theorem dX4_root_28 : decode cX4_root 28 = .ok (.goto (4), 3) := by decide +kernel
theorem dX4_root_31 : decode cX4_root 31 = .ok (.iconst 0, 1) := by decide +kernel
theorem dX4_root_32 : decode cX4_root 32 = .ok (.putfield 60, 3) := by decide +kernel
theorem dX4_root_35 : decode cX4_root 35 = .ok (.aload_n 0, 1) := by decide +kernel
theorem dX4_root_36 : decode cX4_root 36 = .ok (.getfield 60, 3) := by decide +kernel
theorem dX4_root_39 : decode cX4_root 39 = .ok (.ifCond .le (5), 3) := by decide +kernel
theorem dX4_root_42 : decode cX4_root 42 = .ok (.iconst 0, 1) := by decide +kernel
theorem dX4_root_43 : decode cX4_root 43 = .ok (.ireturn, 1) := by decide +kernel
theorem dX4_root_44 : decode cX4_root 44 = .ok (.aload_n 0, 1) := by decide +kernel
theorem dX4_root_45 : decode cX4_root 45 = .ok (.iload_n 1, 1) := by decide +kernel
theorem dX4_root_46 : decode cX4_root 46 = .ok (.invokevirtual 124, 3) := by decide +kernel
theorem dX4_root_49 : decode cX4_root 49 = .ok (.aload_n 0, 1) := by decide +kernel
theorem dX4_root_50 : decode cX4_root 50 = .ok (.bipush (13), 2) := by decide +kernel
theorem dX4_root_52 : decode cX4_root 52 = .ok (.invokevirtual 127, 3) := by decide +kernel
theorem dX4_root_55 : decode cX4_root 55 = .ok (.iload_n 1, 1) := by decide +kernel
theorem dX4_root_56 : decode cX4_root 56 = .ok (.ifCond .ne (12), 3) := by decide +kernel
theorem dX4_root_59 : decode cX4_root 59 = .ok (.aload_n 0, 1) := by decide +kernel
theorem dX4_root_60 : decode cX4_root 60 = .ok (.bipush (14), 2) := by decide +kernel
theorem dX4_root_62 : decode cX4_root 62 = .ok (.invokevirtual 127, 3) := by decide +kernel
theorem dX4_root_65 : decode cX4_root 65 = .ok (.goto (9), 3) := by decide +kernel
theorem dX4_root_68 : decode cX4_root 68 = .ok (.aload_n 0, 1) := by decide +kernel
theorem dX4_root_69 : decode cX4_root 69 = .ok (.bipush (13), 2) := by decide +kernel
theorem dX4_root_71 : decode cX4_root 71 = .ok (.invokevirtual 127, 3) := by decide +kernel
theorem dX4_root_74 : decode cX4_root 74 = .ok (.invokestatic 133, 3) := by decide +kernel
theorem dX4_root_77 : decode cX4_root 77 = .ok (.iconst 4, 1) := by decide +kernel
theorem dX4_root_78 : decode cX4_root 78 = .ok (.idiv, 1) := by decide +kernel
theorem dX4_root_79 : decode cX4_root 79 = .ok (.iadd, 1) := by decide +kernel
theorem dX4_root_80 : decode cX4_root 80 = .ok (.istore 4, 2) := by decide +kernel
theorem dX4_root_82 : decode cX4_root 82 = .ok (.iconst 0, 1) := by decide +kernel
theorem dX4_root_83 : decode cX4_root 83 = .ok (.aload_n 0, 1) := by decide +kernel
theorem dX4_root_84 : decode cX4_root 84 = .ok (.iload_n 2, 1) := by decide +kernel
theorem dX4_root_85 : decode cX4_root 85 = .ok (.invokevirtual 95, 3) := by decide +kernel
theorem dX4_root_88 : decode cX4_root 88 = .ok (.iload 4, 2) := by decide +kernel
theorem dX4_root_90 : decode cX4_root 90 = .ok (.iadd, 1) := by decide +kernel
theorem dX4_root_91 : decode cX4_root 91 = .ok (.aload_n 0, 1) := by decide +kernel
theorem dX4_root_92 : decode cX4_root 92 = .ok (.bipush (13), 2) := by decide +kernel
theorem dX4_root_94 : decode cX4_root 94 = .ok (.invokevirtual 127, 3) := by decide +kernel
theorem dX4_root_97 : decode cX4_root 97 = .ok (.iadd, 1) := by decide +kernel
theorem dX4_root_98 : decode cX4_root 98 = .ok (.invokestatic 103, 3) := by decide +kernel
theorem dX4_root_101 : decode cX4_root 101 = .ok (.istore 5, 2) := by decide +kernel
theorem dX4_root_103 : decode cX4_root 103 = .ok (.aload_n 0, 1) := by decide +kernel
theorem dX4_root_104 : decode cX4_root 104 = .ok (.iload_n 3, 1) := by decide +kernel
theorem dX4_root_105 : decode cX4_root 105 = .ok (.iload 5, 2) := by decide +kernel
theorem dX4_root_107 : decode cX4_root 107 = .ok (.invokevirtual 107, 3) := by decide +kernel
theorem dX4_root_110 : decode cX4_root 110 = .ok (.istore 6, 2) := by decide +kernel
theorem dX4_root_112 : decode cX4_root 112 = .ok (.iload 6, 2) := by decide +kernel
theorem dX4_root_114 : decode cX4_root 114 = .ok (.bipush (-3), 2) := by decide +kernel
theorem dX4_root_116 : decode cX4_root 116 = .ok (.if_icmp .ne (7), 3) := by decide +kernel
theorem dX4_root_119 : decode cX4_root 119 = .ok (.iconst 1, 1) := by decide +kernel
theorem dX4_root_120 : decode cX4_root 120 = .ok (.goto (4), 3) := by decide +kernel
theorem dX4_root_123 : decode cX4_root 123 = .ok (.iconst 0, 1) := by decide +kernel
theorem dX4_root_124 : decode cX4_root 124 = .ok (.istore 7, 2) := by decide +kernel
theorem dX4_root_126 : decode cX4_root 126 = .ok (.aload_n 0, 1) := by decide +kernel
theorem dX4_root_127 : decode cX4_root 127 = .ok (.iload 6, 2) := by decide +kernel
theorem dX4_root_129 : decode cX4_root 129 = .ok (.bipush (-2), 2) := by decide +kernel
theorem dX4_root_131 : decode cX4_root 131 = .ok (.if_icmp .ne (7), 3) := by decide +kernel
theorem dX4_root_134 : decode cX4_root 134 = .ok (.iconst 3, 1) := by decide +kernel
theorem dX4_root_135 : decode cX4_root 135 = .ok (.goto (28), 3) := by decide +kernel
theorem dX4_root_138 : decode cX4_root 138 = .ok (.aload_n 0, 1) := by decide +kernel
theorem dX4_root_139 : decode cX4_root 139 = .ok (.getfield 56, 3) := by decide +kernel
theorem dX4_root_142 : decode cX4_root 142 = .ok (.iload 7, 2) := by decide +kernel
theorem dX4_root_144 : decode cX4_root 144 = .ok (.ifCond .eq (7), 3) := by decide +kernel
theorem dX4_root_147 : decode cX4_root 147 = .ok (.iconst 2, 1) := by decide +kernel
theorem dX4_root_148 : decode cX4_root 148 = .ok (.goto (4), 3) := by decide +kernel
theorem dX4_root_151 : decode cX4_root 151 = .ok (.iconst 1, 1) := by decide +kernel
theorem dX4_root_152 : decode cX4_root 152 = .ok (.iadd, 1) := by decide +kernel
theorem dX4_root_153 : decode cX4_root 153 = .ok (.bipush (120), 2) := by decide +kernel
theorem dX4_root_155 : decode cX4_root 155 = .ok (.if_icmp .le (7), 3) := by decide +kernel
theorem dX4_root_158 : decode cX4_root 158 = .ok (.iconst 4, 1) := by decide +kernel
theorem dX4_root_159 : decode cX4_root 159 = .ok (.goto (4), 3) := by decide +kernel
theorem dX4_root_162 : decode cX4_root 162 = .ok (.iconst 0, 1) := by decide +kernel
theorem dX4_root_163 : decode cX4_root 163 = .ok (.putfield 60, 3) := by decide +kernel
theorem dX4_root_166 : decode cX4_root 166 = .ok (.aload_n 0, 1) := by decide +kernel
theorem dX4_root_167 : decode cX4_root 167 = .ok (.getfield 60, 3) := by decide +kernel
theorem dX4_root_170 : decode cX4_root 170 = .ok (.ifCond .le (5), 3) := by decide +kernel
theorem dX4_root_173 : decode cX4_root 173 = .ok (.iconst 0, 1) := by decide +kernel
theorem dX4_root_174 : decode cX4_root 174 = .ok (.ireturn, 1) := by decide +kernel
theorem dX4_root_175 : decode cX4_root 175 = .ok (.aload_n 0, 1) := by decide +kernel
theorem dX4_root_176 : decode cX4_root 176 = .ok (.iload_n 3, 1) := by decide +kernel
theorem dX4_root_177 : decode cX4_root 177 = .ok (.iload 5, 2) := by decide +kernel
theorem dX4_root_179 : decode cX4_root 179 = .ok (.invokevirtual 118, 3) := by decide +kernel
theorem dX4_root_182 : decode cX4_root 182 = .ok (.istore 8, 2) := by decide +kernel
theorem dX4_root_184 : decode cX4_root 184 = .ok (.iload 7, 2) := by decide +kernel
theorem dX4_root_186 : decode cX4_root 186 = .ok (.ifCond .eq (7), 3) := by decide +kernel
theorem dX4_root_189 : decode cX4_root 189 = .ok (.iconst 0, 1) := by decide +kernel
theorem dX4_root_190 : decode cX4_root 190 = .ok (.goto (10), 3) := by decide +kernel
theorem dX4_root_193 : decode cX4_root 193 = .ok (.aload_n 0, 1) := by decide +kernel
theorem dX4_root_194 : decode cX4_root 194 = .ok (.getfield 16, 3) := by decide +kernel
theorem dX4_root_197 : decode cX4_root 197 = .ok (.iload 8, 2) := by decide +kernel
theorem dX4_root_199 : decode cX4_root 199 = .ok (.iaload, 1) := by decide +kernel
theorem dX4_root_200 : decode cX4_root 200 = .ok (.istore 9, 2) := by decide +kernel
theorem dX4_root_202 : decode cX4_root 202 = .ok (.iload 7, 2) := by decide +kernel
theorem dX4_root_204 : decode cX4_root 204 = .ok (.ifCond .eq (13), 3) := by decide +kernel
theorem dX4_root_207 : decode cX4_root 207 = .ok (.aload_n 0, 1) := by decide +kernel
theorem dX4_root_208 : decode cX4_root 208 = .ok (.getfield 16, 3) := by decide +kernel
theorem dX4_root_211 : decode cX4_root 211 = .ok (.iload 8, 2) := by decide +kernel
theorem dX4_root_213 : decode cX4_root 213 = .ok (.iaload, 1) := by decide +kernel
theorem dX4_root_214 : decode cX4_root 214 = .ok (.goto (10), 3) := by decide +kernel
theorem dX4_root_217 : decode cX4_root 217 = .ok (.aload_n 0, 1) := by decide +kernel
theorem dX4_root_218 : decode cX4_root 218 = .ok (.getfield 19, 3) := by decide +kernel
theorem dX4_root_221 : decode cX4_root 221 = .ok (.iload 8, 2) := by decide +kernel
theorem dX4_root_223 : decode cX4_root 223 = .ok (.iaload, 1) := by decide +kernel
theorem dX4_root_224 : decode cX4_root 224 = .ok (.istore 10, 2) := by decide +kernel
theorem dX4_root_226 : decode cX4_root 226 = .ok (.iload 10, 2) := by decide +kernel
theorem dX4_root_228 : decode cX4_root 228 = .ok (.aload_n 0, 1) := by decide +kernel
theorem dX4_root_229 : decode cX4_root 229 = .ok (.iload_n 2, 1) := by decide +kernel
theorem dX4_root_230 : decode cX4_root 230 = .ok (.invokevirtual 95, 3) := by decide +kernel
theorem dX4_root_233 : decode cX4_root 233 = .ok (.iload 4, 2) := by decide +kernel
theorem dX4_root_235 : decode cX4_root 235 = .ok (.iadd, 1) := by decide +kernel
theorem dX4_root_236 : decode cX4_root 236 = .ok (.isub, 1) := by decide +kernel
theorem dX4_root_237 : decode cX4_root 237 = .ok (.istore 11, 2) := by decide +kernel
theorem dX4_root_239 : decode cX4_root 239 = .ok (.iload 11, 2) := by decide +kernel
theorem dX4_root_241 : decode cX4_root 241 = .ok (.ifCond .le (14), 3) := by decide +kernel
theorem dX4_root_244 : decode cX4_root 244 = .ok (.iload 4, 2) := by decide +kernel
theorem dX4_root_246 : decode cX4_root 246 = .ok (.iload 11, 2) := by decide +kernel
theorem dX4_root_248 : decode cX4_root 248 = .ok (.invokestatic 130, 3) := by decide +kernel
theorem dX4_root_251 : decode cX4_root 251 = .ok (.iadd, 1) := by decide +kernel
theorem dX4_root_252 : decode cX4_root 252 = .ok (.goto (5), 3) := by decide +kernel
theorem dX4_root_255 : decode cX4_root 255 = .ok (.iload 4, 2) := by decide +kernel
theorem dX4_root_257 : decode cX4_root 257 = .ok (.istore 4, 2) := by decide +kernel
theorem dX4_root_259 : decode cX4_root 259 = .ok (.aload_n 0, 1) := by decide +kernel
theorem dX4_root_260 : decode cX4_root 260 = .ok (.getfield 16, 3) := by decide +kernel
theorem dX4_root_263 : decode cX4_root 263 = .ok (.iload_n 2, 1) := by decide +kernel
theorem dX4_root_264 : decode cX4_root 264 = .ok (.iaload, 1) := by decide +kernel
theorem dX4_root_265 : decode cX4_root 265 = .ok (.iload 4, 2) := by decide +kernel
theorem dX4_root_267 : decode cX4_root 267 = .ok (.iadd, 1) := by decide +kernel
theorem dX4_root_268 : decode cX4_root 268 = .ok (.istore 12, 2) := by decide +kernel
theorem dX4_root_270 : decode cX4_root 270 = .ok (.aload_n 0, 1) := by decide +kernel
theorem dX4_root_271 : decode cX4_root 271 = .ok (.aload_n 0, 1) := by decide +kernel
theorem dX4_root_272 : decode cX4_root 272 = .ok (.getfield 13, 3) := by decide +kernel
theorem dX4_root_275 : decode cX4_root 275 = .ok (.iload 8, 2) := by decide +kernel
theorem dX4_root_277 : decode cX4_root 277 = .ok (.iaload, 1) := by decide +kernel
theorem dX4_root_278 : decode cX4_root 278 = .ok (.aload_n 0, 1) := by decide +kernel
theorem dX4_root_279 : decode cX4_root 279 = .ok (.getfield 13, 3) := by decide +kernel
theorem dX4_root_282 : decode cX4_root 282 = .ok (.iload_n 2, 1) := by decide +kernel
theorem dX4_root_283 : decode cX4_root 283 = .ok (.iaload, 1) := by decide +kernel
theorem dX4_root_284 : decode cX4_root 284 = .ok (.iadd, 1) := by decide +kernel
theorem dX4_root_285 : decode cX4_root 285 = .ok (.iload 12, 2) := by decide +kernel
theorem dX4_root_287 : decode cX4_root 287 = .ok (.iconst 2, 1) := by decide +kernel
theorem dX4_root_288 : decode cX4_root 288 = .ok (.iload 9, 2) := by decide +kernel
theorem dX4_root_290 : decode cX4_root 290 = .ok (.imul, 1) := by decide +kernel
theorem dX4_root_291 : decode cX4_root 291 = .ok (.iadd, 1) := by decide +kernel
theorem dX4_root_292 : decode cX4_root 292 = .ok (.aload_n 0, 1) := by decide +kernel
theorem dX4_root_293 : decode cX4_root 293 = .ok (.getfield 19, 3) := by decide +kernel
theorem dX4_root_296 : decode cX4_root 296 = .ok (.iload_n 2, 1) := by decide +kernel
theorem dX4_root_297 : decode cX4_root 297 = .ok (.iaload, 1) := by decide +kernel
theorem dX4_root_298 : decode cX4_root 298 = .ok (.iload 10, 2) := by decide +kernel
theorem dX4_root_300 : decode cX4_root 300 = .ok (.iload 12, 2) := by decide +kernel
theorem dX4_root_302 : decode cX4_root 302 = .ok (.isub, 1) := by decide +kernel
theorem dX4_root_303 : decode cX4_root 303 = .ok (.invokestatic 103, 3) := by decide +kernel
theorem dX4_root_306 : decode cX4_root 306 = .ok (.invokevirtual 85, 3) := by decide +kernel
theorem dX4_root_309 : decode cX4_root 309 = .ok (.istore 13, 2) := by decide +kernel
theorem dX4_root_311 : decode cX4_root 311 = .ok (.aload_n 0, 1) := by decide +kernel
theorem dX4_root_312 : decode cX4_root 312 = .ok (.iload 8, 2) := by decide +kernel
theorem dX4_root_314 : decode cX4_root 314 = .ok (.iconst 0, 1) := by decide +kernel
theorem dX4_root_315 : decode cX4_root 315 = .ok (.iload 7, 2) := by decide +kernel
theorem dX4_root_317 : decode cX4_root 317 = .ok (.ifCond .eq (16), 3) := by decide +kernel
theorem dX4_root_320 : decode cX4_root 320 = .ok (.iload 12, 2) := by decide +kernel
theorem dX4_root_322 : decode cX4_root 322 = .ok (.aload_n 0, 1) := by decide +kernel
theorem dX4_root_323 : decode cX4_root 323 = .ok (.getfield 16, 3) := by decide +kernel
theorem dX4_root_326 : decode cX4_root 326 = .ok (.iload 8, 2) := by decide +kernel
theorem dX4_root_328 : decode cX4_root 328 = .ok (.iaload, 1) := by decide +kernel
theorem dX4_root_329 : decode cX4_root 329 = .ok (.isub, 1) := by decide +kernel
theorem dX4_root_330 : decode cX4_root 330 = .ok (.goto (5), 3) := by decide +kernel
theorem dX4_root_333 : decode cX4_root 333 = .ok (.iload 12, 2) := by decide +kernel
theorem dX4_root_335 : decode cX4_root 335 = .ok (.invokevirtual 99, 3) := by decide +kernel
theorem dX4_root_338 : decode cX4_root 338 = .ok (.aload_n 0, 1) := by decide +kernel
theorem dX4_root_339 : decode cX4_root 339 = .ok (.iload_n 2, 1) := by decide +kernel
theorem dX4_root_340 : decode cX4_root 340 = .ok (.aload_n 0, 1) := by decide +kernel
theorem dX4_root_341 : decode cX4_root 341 = .ok (.getfield 13, 3) := by decide +kernel
theorem dX4_root_344 : decode cX4_root 344 = .ok (.iload 8, 2) := by decide +kernel
theorem dX4_root_346 : decode cX4_root 346 = .ok (.iaload, 1) := by decide +kernel
theorem dX4_root_347 : decode cX4_root 347 = .ok (.iconst 0, 1) := by decide +kernel
theorem dX4_root_348 : decode cX4_root 348 = .ok (.invokevirtual 99, 3) := by decide +kernel
theorem dX4_root_351 : decode cX4_root 351 = .ok (.aload_n 0, 1) := by decide +kernel
theorem dX4_root_352 : decode cX4_root 352 = .ok (.iconst (-1), 1) := by decide +kernel
theorem dX4_root_353 : decode cX4_root 353 = .ok (.aload_n 0, 1) := by decide +kernel
theorem dX4_root_354 : decode cX4_root 354 = .ok (.getfield 13, 3) := by decide +kernel
theorem dX4_root_357 : decode cX4_root 357 = .ok (.iload 8, 2) := by decide +kernel
theorem dX4_root_359 : decode cX4_root 359 = .ok (.iaload, 1) := by decide +kernel
theorem dX4_root_360 : decode cX4_root 360 = .ok (.iload 12, 2) := by decide +kernel
theorem dX4_root_362 : decode cX4_root 362 = .ok (.invokevirtual 99, 3) := by decide +kernel
theorem dX4_root_365 : decode cX4_root 365 = .ok (.aload_n 0, 1) := by decide +kernel
theorem dX4_root_366 : decode cX4_root 366 = .ok (.getfield 28, 3) := by decide +kernel
theorem dX4_root_369 : decode cX4_root 369 = .ok (.iload 13, 2) := by decide +kernel
theorem dX4_root_371 : decode cX4_root 371 = .ok (.aload_n 0, 1) := by decide +kernel
theorem dX4_root_372 : decode cX4_root 372 = .ok (.getfield 13, 3) := by decide +kernel
theorem dX4_root_375 : decode cX4_root 375 = .ok (.iload_n 2, 1) := by decide +kernel
theorem dX4_root_376 : decode cX4_root 376 = .ok (.iaload, 1) := by decide +kernel
theorem dX4_root_377 : decode cX4_root 377 = .ok (.iastore, 1) := by decide +kernel
theorem dX4_root_378 : decode cX4_root 378 = .ok (.aload_n 0, 1) := by decide +kernel
theorem dX4_root_379 : decode cX4_root 379 = .ok (.getfield 31, 3) := by decide +kernel
theorem dX4_root_382 : decode cX4_root 382 = .ok (.iload 13, 2) := by decide +kernel
theorem dX4_root_384 : decode cX4_root 384 = .ok (.iload 9, 2) := by decide +kernel
theorem dX4_root_386 : decode cX4_root 386 = .ok (.iastore, 1) := by decide +kernel
theorem dX4_root_387 : decode cX4_root 387 = .ok (.iload 13, 2) := by decide +kernel
theorem dX4_root_389 : decode cX4_root 389 = .ok (.ireturn, 1) := by decide +kernel
theorem dX4_signs_0 : decode cX4_signs 0 = .ok (.aload_n 0, 1) := by decide +kernel
theorem dX4_signs_1 : decode cX4_signs 1 = .ok (.aload_n 0, 1) := by decide +kernel
theorem dX4_signs_2 : decode cX4_signs 2 = .ok (.iload_n 3, 1) := by decide +kernel
theorem dX4_signs_3 : decode cX4_signs 3 = .ok (.invokevirtual 67, 3) := by decide +kernel
theorem dX4_signs_6 : decode cX4_signs 6 = .ok (.ifCond .eq (21), 3) := by decide +kernel
theorem dX4_signs_9 : decode cX4_signs 9 = .ok (.aload_n 0, 1) := by decide +kernel
theorem dX4_signs_10 : decode cX4_signs 10 = .ok (.iload 5, 2) := by decide +kernel
theorem dX4_signs_12 : decode cX4_signs 12 = .ok (.invokevirtual 92, 3) := by decide +kernel
theorem dX4_signs_15 : decode cX4_signs 15 = .ok (.ifCond .eq (12), 3) := by decide +kernel
theorem dX4_signs_18 : decode cX4_signs 18 = .ok (.aload_n 0, 1) := by decide +kernel
theorem dX4_signs_19 : decode cX4_signs 19 = .ok (.iload 6, 2) := by decide +kernel
theorem dX4_signs_21 : decode cX4_signs 21 = .ok (.invokevirtual 92, 3) := by decide +kernel
theorem dX4_signs_24 : decode cX4_signs 24 = .ok (.ifCond .ne (7), 3) := by decide +kernel
theorem dX4_signs_27 : decode cX4_signs 27 = .ok (.iconst 1, 1) := by decide +kernel
theorem dX4_signs_28 : decode cX4_signs 28 = .ok (.goto (40), 3) := by decide +kernel
theorem dX4_signs_31 : decode cX4_signs 31 = .ok (.iload_n 1, 1) := by decide +kernel
theorem dX4_signs_32 : decode cX4_signs 32 = .ok (.invokestatic 121, 3) := by decide +kernel
theorem dX4_signs_35 : decode cX4_signs 35 = .ok (.ifCond .eq (15), 3) := by decide +kernel
theorem dX4_signs_38 : decode cX4_signs 38 = .ok (.iload 5, 2) := by decide +kernel
theorem dX4_signs_40 : decode cX4_signs 40 = .ok (.iconst (-1), 1) := by decide +kernel
theorem dX4_signs_41 : decode cX4_signs 41 = .ok (.if_icmp .ne (13), 3) := by decide +kernel
theorem dX4_signs_44 : decode cX4_signs 44 = .ok (.iload 6, 2) := by decide +kernel
theorem dX4_signs_46 : decode cX4_signs 46 = .ok (.iconst (-1), 1) := by decide +kernel
theorem dX4_signs_47 : decode cX4_signs 47 = .ok (.if_icmp .ne (7), 3) := by decide +kernel
theorem dX4_signs_50 : decode cX4_signs 50 = .ok (.iconst 2, 1) := by decide +kernel
theorem dX4_signs_51 : decode cX4_signs 51 = .ok (.goto (17), 3) := by decide +kernel
theorem dX4_signs_54 : decode cX4_signs 54 = .ok (.aload_n 0, 1) := by decide +kernel
theorem dX4_signs_55 : decode cX4_signs 55 = .ok (.getfield 56, 3) := by decide +kernel
theorem dX4_signs_58 : decode cX4_signs 58 = .ok (.bipush (120), 2) := by decide +kernel
theorem dX4_signs_60 : decode cX4_signs 60 = .ok (.if_icmp .ne (7), 3) := by decide +kernel
theorem dX4_signs_63 : decode cX4_signs 63 = .ok (.iconst 3, 1) := by decide +kernel
theorem dX4_signs_64 : decode cX4_signs 64 = .ok (.goto (4), 3) := by decide +kernel
theorem dX4_signs_67 : decode cX4_signs 67 = .ok (.iconst 0, 1) := by decide +kernel
theorem dX4_signs_68 : decode cX4_signs 68 = .ok (.putfield 60, 3) := by decide +kernel
theorem dX4_signs_71 : decode cX4_signs 71 = .ok (.aload_n 0, 1) := by decide +kernel
theorem dX4_signs_72 : decode cX4_signs 72 = .ok (.getfield 60, 3) := by decide +kernel
theorem dX4_signs_75 : decode cX4_signs 75 = .ok (.ifCond .le (5), 3) := by decide +kernel
theorem dX4_signs_78 : decode cX4_signs 78 = .ok (.iconst 0, 1) := by decide +kernel
theorem dX4_signs_79 : decode cX4_signs 79 = .ok (.ireturn, 1) := by decide +kernel
theorem dX4_signs_80 : decode cX4_signs 80 = .ok (.aload_n 0, 1) := by decide +kernel
theorem dX4_signs_81 : decode cX4_signs 81 = .ok (.iload_n 1, 1) := by decide +kernel
theorem dX4_signs_82 : decode cX4_signs 82 = .ok (.iconst 2, 1) := by decide +kernel
theorem dX4_signs_83 : decode cX4_signs 83 = .ok (.if_icmp .ge (7), 3) := by decide +kernel
theorem dX4_signs_86 : decode cX4_signs 86 = .ok (.iconst 1, 1) := by decide +kernel
theorem dX4_signs_87 : decode cX4_signs 87 = .ok (.goto (4), 3) := by decide +kernel
theorem dX4_signs_90 : decode cX4_signs 90 = .ok (.iconst 2, 1) := by decide +kernel
theorem dX4_signs_91 : decode cX4_signs 91 = .ok (.putfield 71, 3) := by decide +kernel
theorem dX4_signs_94 : decode cX4_signs 94 = .ok (.iload 4, 2) := by decide +kernel
theorem dX4_signs_96 : decode cX4_signs 96 = .ok (.ifCond .eq (7), 3) := by decide +kernel
theorem dX4_signs_99 : decode cX4_signs 99 = .ok (.iconst 0, 1) := by decide +kernel
theorem dX4_signs_100 : decode cX4_signs 100 = .ok (.goto (16), 3) := by decide +kernel
theorem dX4_signs_103 : decode cX4_signs 103 = .ok (.aload_n 0, 1) := by decide +kernel
theorem dX4_signs_104 : decode cX4_signs 104 = .ok (.getfield 16, 3) := by decide +kernel
theorem dX4_signs_107 : decode cX4_signs 107 = .ok (.iload_n 3, 1) := by decide +kernel
theorem dX4_signs_108 : decode cX4_signs 108 = .ok (.iaload, 1) := by decide +kernel
theorem dX4_signs_109 : decode cX4_signs 109 = .ok (.aload_n 0, 1) := by decide +kernel
theorem dX4_signs_110 : decode cX4_signs 110 = .ok (.bipush (11), 2) := by decide +kernel
theorem dX4_signs_112 : decode cX4_signs 112 = .ok (.invokevirtual 127, 3) := by decide +kernel
theorem dX4_signs_115 : decode cX4_signs 115 = .ok (.isub, 1) := by decide +kernel
theorem dX4_signs_116 : decode cX4_signs 116 = .ok (.istore 7, 2) := by decide +kernel
theorem dX4_signs_118 : decode cX4_signs 118 = .ok (.iload 4, 2) := by decide +kernel
theorem dX4_signs_120 : decode cX4_signs 120 = .ok (.ifCond .eq (7), 3) := by decide +kernel
theorem dX4_signs_123 : decode cX4_signs 123 = .ok (.iconst 0, 1) := by decide +kernel
theorem dX4_signs_124 : decode cX4_signs 124 = .ok (.goto (16), 3) := by decide +kernel
theorem dX4_signs_127 : decode cX4_signs 127 = .ok (.aload_n 0, 1) := by decide +kernel
theorem dX4_signs_128 : decode cX4_signs 128 = .ok (.getfield 19, 3) := by decide +kernel
theorem dX4_signs_131 : decode cX4_signs 131 = .ok (.iload_n 3, 1) := by decide +kernel
theorem dX4_signs_132 : decode cX4_signs 132 = .ok (.iaload, 1) := by decide +kernel
theorem dX4_signs_133 : decode cX4_signs 133 = .ok (.aload_n 0, 1) := by decide +kernel
theorem dX4_signs_134 : decode cX4_signs 134 = .ok (.bipush (12), 2) := by decide +kernel
theorem dX4_signs_136 : decode cX4_signs 136 = .ok (.invokevirtual 127, 3) := by decide +kernel
theorem dX4_signs_139 : decode cX4_signs 139 = .ok (.iadd, 1) := by decide +kernel
theorem dX4_signs_140 : decode cX4_signs 140 = .ok (.istore 8, 2) := by decide +kernel
theorem dX4_signs_142 : decode cX4_signs 142 = .ok (.aload_n 0, 1) := by decide +kernel
theorem dX4_signs_143 : decode cX4_signs 143 = .ok (.iload_n 1, 1) := by decide +kernel
theorem dX4_signs_144 : decode cX4_signs 144 = .ok (.invokevirtual 124, 3) := by decide +kernel
theorem dX4_signs_147 : decode cX4_signs 147 = .ok (.iload 5, 2) := by decide +kernel
theorem dX4_signs_149 : decode cX4_signs 149 = .ok (.iconst (-1), 1) := by decide +kernel
theorem dX4_signs_150 : decode cX4_signs 150 = .ok (.if_icmp .eq (68), 3) := by decide +kernel
theorem dX4_signs_153 : decode cX4_signs 153 = .ok (.iload 7, 2) := by decide +kernel
theorem dX4_signs_155 : decode cX4_signs 155 = .ok (.iload_n 2, 1) := by decide +kernel
theorem dX4_signs_156 : decode cX4_signs 156 = .ok (.ifCond .eq (12), 3) := by decide +kernel
theorem dX4_signs_159 : decode cX4_signs 159 = .ok (.aload_n 0, 1) := by decide +kernel
theorem dX4_signs_160 : decode cX4_signs 160 = .ok (.bipush (8), 2) := by decide +kernel
theorem dX4_signs_162 : decode cX4_signs 162 = .ok (.invokevirtual 127, 3) := by decide +kernel
theorem dX4_signs_165 : decode cX4_signs 165 = .ok (.goto (22), 3) := by decide +kernel
theorem dX4_signs_168 : decode cX4_signs 168 = .ok (.iload_n 1, 1) := by decide +kernel
theorem dX4_signs_169 : decode cX4_signs 169 = .ok (.ifCond .ne (12), 3) := by decide +kernel
theorem dX4_signs_172 : decode cX4_signs 172 = .ok (.aload_n 0, 1) := by decide +kernel
theorem dX4_signs_173 : decode cX4_signs 173 = .ok (.bipush (6), 2) := by decide +kernel
theorem dX4_signs_175 : decode cX4_signs 175 = .ok (.invokevirtual 127, 3) := by decide +kernel
theorem dX4_signs_178 : decode cX4_signs 178 = .ok (.goto (9), 3) := by decide +kernel
theorem dX4_signs_181 : decode cX4_signs 181 = .ok (.aload_n 0, 1) := by decide +kernel
theorem dX4_signs_182 : decode cX4_signs 182 = .ok (.bipush (7), 2) := by decide +kernel
theorem dX4_signs_184 : decode cX4_signs 184 = .ok (.invokevirtual 127, 3) := by decide +kernel
theorem dX4_signs_187 : decode cX4_signs 187 = .ok (.invokestatic 103, 3) := by decide +kernel
theorem dX4_signs_190 : decode cX4_signs 190 = .ok (.istore 7, 2) := by decide +kernel
theorem dX4_signs_192 : decode cX4_signs 192 = .ok (.iload 7, 2) := by decide +kernel
theorem dX4_signs_194 : decode cX4_signs 194 = .ok (.aload_n 0, 1) := by decide +kernel
theorem dX4_signs_195 : decode cX4_signs 195 = .ok (.getfield 19, 3) := by decide +kernel
theorem dX4_signs_198 : decode cX4_signs 198 = .ok (.iload 5, 2) := by decide +kernel
theorem dX4_signs_200 : decode cX4_signs 200 = .ok (.iaload, 1) := by decide +kernel
theorem dX4_signs_201 : decode cX4_signs 201 = .ok (.aload_n 0, 1) := by decide +kernel
theorem dX4_signs_202 : decode cX4_signs 202 = .ok (.bipush (14), 2) := by decide +kernel
theorem dX4_signs_204 : decode cX4_signs 204 = .ok (.invokevirtual 127, 3) := by decide +kernel
theorem dX4_signs_207 : decode cX4_signs 207 = .ok (.invokestatic 133, 3) := by decide +kernel
theorem dX4_signs_210 : decode cX4_signs 210 = .ok (.iconst 4, 1) := by decide +kernel
theorem dX4_signs_211 : decode cX4_signs 211 = .ok (.idiv, 1) := by decide +kernel
theorem dX4_signs_212 : decode cX4_signs 212 = .ok (.iadd, 1) := by decide +kernel
theorem dX4_signs_213 : decode cX4_signs 213 = .ok (.invokestatic 103, 3) := by decide +kernel
theorem dX4_signs_216 : decode cX4_signs 216 = .ok (.istore 7, 2) := by decide +kernel
theorem dX4_signs_218 : decode cX4_signs 218 = .ok (.iload 5, 2) := by decide +kernel
theorem dX4_signs_220 : decode cX4_signs 220 = .ok (.iconst (-1), 1) := by decide +kernel
theorem dX4_signs_221 : decode cX4_signs 221 = .ok (.if_icmp .ne (47), 3) := by decide +kernel
theorem dX4_signs_224 : decode cX4_signs 224 = .ok (.iload 8, 2) := by decide +kernel
theorem dX4_signs_226 : decode cX4_signs 226 = .ok (.aload_n 0, 1) := by decide +kernel
theorem dX4_signs_227 : decode cX4_signs 227 = .ok (.bipush (9), 2) := by decide +kernel
theorem dX4_signs_229 : decode cX4_signs 229 = .ok (.invokevirtual 127, 3) := by decide +kernel
theorem dX4_signs_232 : decode cX4_signs 232 = .ok (.invokestatic 103, 3) := by decide +kernel
theorem dX4_signs_235 : decode cX4_signs 235 = .ok (.istore 8, 2) := by decide +kernel
theorem dX4_signs_237 : decode cX4_signs 237 = .ok (.iload 8, 2) := by decide +kernel
theorem dX4_signs_239 : decode cX4_signs 239 = .ok (.aload_n 0, 1) := by decide +kernel
theorem dX4_signs_240 : decode cX4_signs 240 = .ok (.getfield 16, 3) := by decide +kernel
theorem dX4_signs_243 : decode cX4_signs 243 = .ok (.iload 6, 2) := by decide +kernel
theorem dX4_signs_245 : decode cX4_signs 245 = .ok (.iaload, 1) := by decide +kernel
theorem dX4_signs_246 : decode cX4_signs 246 = .ok (.iconst 4, 1) := by decide +kernel
theorem dX4_signs_247 : decode cX4_signs 247 = .ok (.aload_n 0, 1) := by decide +kernel
theorem dX4_signs_248 : decode cX4_signs 248 = .ok (.bipush (14), 2) := by decide +kernel
theorem dX4_signs_250 : decode cX4_signs 250 = .ok (.invokevirtual 127, 3) := by decide +kernel
theorem dX4_signs_253 : decode cX4_signs 253 = .ok (.imul, 1) := by decide +kernel
theorem dX4_signs_254 : decode cX4_signs 254 = .ok (.invokestatic 133, 3) := by decide +kernel
theorem dX4_signs_257 : decode cX4_signs 257 = .ok (.iconst 5, 1) := by decide +kernel
theorem dX4_signs_258 : decode cX4_signs 258 = .ok (.idiv, 1) := by decide +kernel
theorem dX4_signs_259 : decode cX4_signs 259 = .ok (.isub, 1) := by decide +kernel
theorem dX4_signs_260 : decode cX4_signs 260 = .ok (.invokestatic 103, 3) := by decide +kernel
theorem dX4_signs_263 : decode cX4_signs 263 = .ok (.istore 8, 2) := by decide +kernel
theorem dX4_signs_265 : decode cX4_signs 265 = .ok (.goto (126), 3) := by decide +kernel
theorem dX4_signs_268 : decode cX4_signs 268 = .ok (.iload 6, 2) := by decide +kernel
theorem dX4_signs_270 : decode cX4_signs 270 = .ok (.iconst (-1), 1) := by decide +kernel
theorem dX4_signs_271 : decode cX4_signs 271 = .ok (.if_icmp .eq (120), 3) := by decide +kernel
theorem dX4_signs_274 : decode cX4_signs 274 = .ok (.iload 8, 2) := by decide +kernel
theorem dX4_signs_276 : decode cX4_signs 276 = .ok (.aload_n 0, 1) := by decide +kernel
theorem dX4_signs_277 : decode cX4_signs 277 = .ok (.bipush (10), 2) := by decide +kernel
theorem dX4_signs_279 : decode cX4_signs 279 = .ok (.invokevirtual 127, 3) := by decide +kernel
theorem dX4_signs_282 : decode cX4_signs 282 = .ok (.invokestatic 103, 3) := by decide +kernel
theorem dX4_signs_285 : decode cX4_signs 285 = .ok (.istore 8, 2) := by decide +kernel
theorem dX4_signs_287 : decode cX4_signs 287 = .ok (.iconst 4, 1) := by decide +kernel
theorem dX4_signs_288 : decode cX4_signs 288 = .ok (.aload_n 0, 1) := by decide +kernel
theorem dX4_signs_289 : decode cX4_signs 289 = .ok (.bipush (13), 2) := by decide +kernel
theorem dX4_signs_291 : decode cX4_signs 291 = .ok (.invokevirtual 127, 3) := by decide +kernel
theorem dX4_signs_294 : decode cX4_signs 294 = .ok (.imul, 1) := by decide +kernel
theorem dX4_signs_295 : decode cX4_signs 295 = .ok (.iload 7, 2) := by decide +kernel
theorem dX4_signs_297 : decode cX4_signs 297 = .ok (.aload_n 0, 1) := by decide +kernel
theorem dX4_signs_298 : decode cX4_signs 298 = .ok (.getfield 19, 3) := by decide +kernel
theorem dX4_signs_301 : decode cX4_signs 301 = .ok (.iload 5, 2) := by decide +kernel
theorem dX4_signs_303 : decode cX4_signs 303 = .ok (.iaload, 1) := by decide +kernel
theorem dX4_signs_304 : decode cX4_signs 304 = .ok (.isub, 1) := by decide +kernel
theorem dX4_signs_305 : decode cX4_signs 305 = .ok (.aload_n 0, 1) := by decide +kernel
theorem dX4_signs_306 : decode cX4_signs 306 = .ok (.getfield 16, 3) := by decide +kernel
theorem dX4_signs_309 : decode cX4_signs 309 = .ok (.iload 6, 2) := by decide +kernel
theorem dX4_signs_311 : decode cX4_signs 311 = .ok (.iaload, 1) := by decide +kernel
theorem dX4_signs_312 : decode cX4_signs 312 = .ok (.iload 8, 2) := by decide +kernel
theorem dX4_signs_314 : decode cX4_signs 314 = .ok (.isub, 1) := by decide +kernel
theorem dX4_signs_315 : decode cX4_signs 315 = .ok (.isub, 1) := by decide +kernel
theorem dX4_signs_316 : decode cX4_signs 316 = .ok (.isub, 1) := by decide +kernel
theorem dX4_signs_317 : decode cX4_signs 317 = .ok (.istore 9, 2) := by decide +kernel
theorem dX4_signs_319 : decode cX4_signs 319 = .ok (.iload 9, 2) := by decide +kernel
theorem dX4_signs_321 : decode cX4_signs 321 = .ok (.ifCond .le (70), 3) := by decide +kernel
theorem dX4_signs_324 : decode cX4_signs 324 = .ok (.iload 8, 2) := by decide +kernel
theorem dX4_signs_326 : decode cX4_signs 326 = .ok (.iload 9, 2) := by decide +kernel
theorem dX4_signs_328 : decode cX4_signs 328 = .ok (.iadd, 1) := by decide +kernel
theorem dX4_signs_329 : decode cX4_signs 329 = .ok (.istore 8, 2) := by decide +kernel
theorem dX4_signs_331 : decode cX4_signs 331 = .ok (.iconst 4, 1) := by decide +kernel
theorem dX4_signs_332 : decode cX4_signs 332 = .ok (.aload_n 0, 1) := by decide +kernel
theorem dX4_signs_333 : decode cX4_signs 333 = .ok (.bipush (14), 2) := by decide +kernel
theorem dX4_signs_335 : decode cX4_signs 335 = .ok (.invokevirtual 127, 3) := by decide +kernel
theorem dX4_signs_338 : decode cX4_signs 338 = .ok (.imul, 1) := by decide +kernel
theorem dX4_signs_339 : decode cX4_signs 339 = .ok (.invokestatic 133, 3) := by decide +kernel
theorem dX4_signs_342 : decode cX4_signs 342 = .ok (.iconst 5, 1) := by decide +kernel
theorem dX4_signs_343 : decode cX4_signs 343 = .ok (.idiv, 1) := by decide +kernel
theorem dX4_signs_344 : decode cX4_signs 344 = .ok (.iload 7, 2) := by decide +kernel
theorem dX4_signs_346 : decode cX4_signs 346 = .ok (.aload_n 0, 1) := by decide +kernel
theorem dX4_signs_347 : decode cX4_signs 347 = .ok (.getfield 19, 3) := by decide +kernel
theorem dX4_signs_350 : decode cX4_signs 350 = .ok (.iload 5, 2) := by decide +kernel
theorem dX4_signs_352 : decode cX4_signs 352 = .ok (.iaload, 1) := by decide +kernel
theorem dX4_signs_353 : decode cX4_signs 353 = .ok (.isub, 1) := by decide +kernel
theorem dX4_signs_354 : decode cX4_signs 354 = .ok (.isub, 1) := by decide +kernel
theorem dX4_signs_355 : decode cX4_signs 355 = .ok (.istore 10, 2) := by decide +kernel
theorem dX4_signs_357 : decode cX4_signs 357 = .ok (.iload 10, 2) := by decide +kernel
theorem dX4_signs_359 : decode cX4_signs 359 = .ok (.ifCond .le (11), 3) := by decide +kernel
theorem dX4_signs_362 : decode cX4_signs 362 = .ok (.iload 7, 2) := by decide +kernel
theorem dX4_signs_364 : decode cX4_signs 364 = .ok (.iload 10, 2) := by decide +kernel
theorem dX4_signs_366 : decode cX4_signs 366 = .ok (.iadd, 1) := by decide +kernel
theorem dX4_signs_367 : decode cX4_signs 367 = .ok (.goto (5), 3) := by decide +kernel
theorem dX4_signs_370 : decode cX4_signs 370 = .ok (.iload 7, 2) := by decide +kernel
theorem dX4_signs_372 : decode cX4_signs 372 = .ok (.istore 7, 2) := by decide +kernel
theorem dX4_signs_374 : decode cX4_signs 374 = .ok (.iload 10, 2) := by decide +kernel
theorem dX4_signs_376 : decode cX4_signs 376 = .ok (.ifCond .le (11), 3) := by decide +kernel
theorem dX4_signs_379 : decode cX4_signs 379 = .ok (.iload 8, 2) := by decide +kernel
theorem dX4_signs_381 : decode cX4_signs 381 = .ok (.iload 10, 2) := by decide +kernel
theorem dX4_signs_383 : decode cX4_signs 383 = .ok (.isub, 1) := by decide +kernel
theorem dX4_signs_384 : decode cX4_signs 384 = .ok (.goto (5), 3) := by decide +kernel
theorem dX4_signs_387 : decode cX4_signs 387 = .ok (.iload 8, 2) := by decide +kernel
theorem dX4_signs_389 : decode cX4_signs 389 = .ok (.istore 8, 2) := by decide +kernel
theorem dX4_signs_391 : decode cX4_signs 391 = .ok (.iload 5, 2) := by decide +kernel
theorem dX4_signs_393 : decode cX4_signs 393 = .ok (.iconst (-1), 1) := by decide +kernel
theorem dX4_signs_394 : decode cX4_signs 394 = .ok (.if_icmp .ne (13), 3) := by decide +kernel
theorem dX4_signs_397 : decode cX4_signs 397 = .ok (.aload_n 0, 1) := by decide +kernel
theorem dX4_signs_398 : decode cX4_signs 398 = .ok (.getfield 13, 3) := by decide +kernel
theorem dX4_signs_401 : decode cX4_signs 401 = .ok (.iload 6, 2) := by decide +kernel
theorem dX4_signs_403 : decode cX4_signs 403 = .ok (.iaload, 1) := by decide +kernel
theorem dX4_signs_404 : decode cX4_signs 404 = .ok (.goto (36), 3) := by decide +kernel
theorem dX4_signs_407 : decode cX4_signs 407 = .ok (.iload 6, 2) := by decide +kernel
theorem dX4_signs_409 : decode cX4_signs 409 = .ok (.iconst (-1), 1) := by decide +kernel
theorem dX4_signs_410 : decode cX4_signs 410 = .ok (.if_icmp .ne (13), 3) := by decide +kernel
theorem dX4_signs_413 : decode cX4_signs 413 = .ok (.aload_n 0, 1) := by decide +kernel
theorem dX4_signs_414 : decode cX4_signs 414 = .ok (.getfield 13, 3) := by decide +kernel
theorem dX4_signs_417 : decode cX4_signs 417 = .ok (.iload 5, 2) := by decide +kernel
theorem dX4_signs_419 : decode cX4_signs 419 = .ok (.iaload, 1) := by decide +kernel
theorem dX4_signs_420 : decode cX4_signs 420 = .ok (.goto (20), 3) := by decide +kernel
theorem dX4_signs_423 : decode cX4_signs 423 = .ok (.aload_n 0, 1) := by decide +kernel
theorem dX4_signs_424 : decode cX4_signs 424 = .ok (.getfield 13, 3) := by decide +kernel
theorem dX4_signs_427 : decode cX4_signs 427 = .ok (.iload 5, 2) := by decide +kernel
theorem dX4_signs_429 : decode cX4_signs 429 = .ok (.iaload, 1) := by decide +kernel
theorem dX4_signs_430 : decode cX4_signs 430 = .ok (.aload_n 0, 1) := by decide +kernel
theorem dX4_signs_431 : decode cX4_signs 431 = .ok (.getfield 13, 3) := by decide +kernel
theorem dX4_signs_434 : decode cX4_signs 434 = .ok (.iload 6, 2) := by decide +kernel
theorem dX4_signs_436 : decode cX4_signs 436 = .ok (.iaload, 1) := by decide +kernel
theorem dX4_signs_437 : decode cX4_signs 437 = .ok (.invokestatic 103, 3) := by decide +kernel
theorem dX4_signs_440 : decode cX4_signs 440 = .ok (.istore 9, 2) := by decide +kernel
theorem dX4_signs_442 : decode cX4_signs 442 = .ok (.aload_n 0, 1) := by decide +kernel
theorem dX4_signs_443 : decode cX4_signs 443 = .ok (.getfield 16, 3) := by decide +kernel
theorem dX4_signs_446 : decode cX4_signs 446 = .ok (.iload_n 3, 1) := by decide +kernel
theorem dX4_signs_447 : decode cX4_signs 447 = .ok (.iaload, 1) := by decide +kernel
theorem dX4_signs_448 : decode cX4_signs 448 = .ok (.istore 10, 2) := by decide +kernel
theorem dX4_signs_450 : decode cX4_signs 450 = .ok (.aload_n 0, 1) := by decide +kernel
theorem dX4_signs_451 : decode cX4_signs 451 = .ok (.getfield 19, 3) := by decide +kernel
theorem dX4_signs_454 : decode cX4_signs 454 = .ok (.iload_n 3, 1) := by decide +kernel
theorem dX4_signs_455 : decode cX4_signs 455 = .ok (.iaload, 1) := by decide +kernel
theorem dX4_signs_456 : decode cX4_signs 456 = .ok (.istore 11, 2) := by decide +kernel
theorem dX4_signs_458 : decode cX4_signs 458 = .ok (.iload 5, 2) := by decide +kernel
theorem dX4_signs_460 : decode cX4_signs 460 = .ok (.iconst (-1), 1) := by decide +kernel
theorem dX4_signs_461 : decode cX4_signs 461 = .ok (.if_icmp .eq (37), 3) := by decide +kernel
theorem dX4_signs_464 : decode cX4_signs 464 = .ok (.iload 10, 2) := by decide +kernel
theorem dX4_signs_466 : decode cX4_signs 466 = .ok (.iload 7, 2) := by decide +kernel
theorem dX4_signs_468 : decode cX4_signs 468 = .ok (.aload_n 0, 1) := by decide +kernel
theorem dX4_signs_469 : decode cX4_signs 469 = .ok (.getfield 16, 3) := by decide +kernel
theorem dX4_signs_472 : decode cX4_signs 472 = .ok (.iload 5, 2) := by decide +kernel
theorem dX4_signs_474 : decode cX4_signs 474 = .ok (.iaload, 1) := by decide +kernel
theorem dX4_signs_475 : decode cX4_signs 475 = .ok (.iadd, 1) := by decide +kernel
theorem dX4_signs_476 : decode cX4_signs 476 = .ok (.invokestatic 103, 3) := by decide +kernel
theorem dX4_signs_479 : decode cX4_signs 479 = .ok (.istore 10, 2) := by decide +kernel
theorem dX4_signs_481 : decode cX4_signs 481 = .ok (.iload 11, 2) := by decide +kernel
theorem dX4_signs_483 : decode cX4_signs 483 = .ok (.aload_n 0, 1) := by decide +kernel
theorem dX4_signs_484 : decode cX4_signs 484 = .ok (.getfield 19, 3) := by decide +kernel
theorem dX4_signs_487 : decode cX4_signs 487 = .ok (.iload 5, 2) := by decide +kernel
theorem dX4_signs_489 : decode cX4_signs 489 = .ok (.iaload, 1) := by decide +kernel
theorem dX4_signs_490 : decode cX4_signs 490 = .ok (.iload 7, 2) := by decide +kernel
theorem dX4_signs_492 : decode cX4_signs 492 = .ok (.isub, 1) := by decide +kernel
theorem dX4_signs_493 : decode cX4_signs 493 = .ok (.invokestatic 103, 3) := by decide +kernel
theorem dX4_signs_496 : decode cX4_signs 496 = .ok (.istore 11, 2) := by decide +kernel
theorem dX4_signs_498 : decode cX4_signs 498 = .ok (.iload 6, 2) := by decide +kernel
theorem dX4_signs_500 : decode cX4_signs 500 = .ok (.iconst (-1), 1) := by decide +kernel
theorem dX4_signs_501 : decode cX4_signs 501 = .ok (.if_icmp .eq (38), 3) := by decide +kernel
theorem dX4_signs_504 : decode cX4_signs 504 = .ok (.iload 10, 2) := by decide +kernel
theorem dX4_signs_506 : decode cX4_signs 506 = .ok (.iload 8, 2) := by decide +kernel
theorem dX4_signs_508 : decode cX4_signs 508 = .ok (.ineg, 1) := by decide +kernel
theorem dX4_signs_509 : decode cX4_signs 509 = .ok (.aload_n 0, 1) := by decide +kernel
theorem dX4_signs_510 : decode cX4_signs 510 = .ok (.getfield 16, 3) := by decide +kernel
theorem dX4_signs_513 : decode cX4_signs 513 = .ok (.iload 6, 2) := by decide +kernel
theorem dX4_signs_515 : decode cX4_signs 515 = .ok (.iaload, 1) := by decide +kernel
theorem dX4_signs_516 : decode cX4_signs 516 = .ok (.iadd, 1) := by decide +kernel
theorem dX4_signs_517 : decode cX4_signs 517 = .ok (.invokestatic 103, 3) := by decide +kernel
theorem dX4_signs_520 : decode cX4_signs 520 = .ok (.istore 10, 2) := by decide +kernel
theorem dX4_signs_522 : decode cX4_signs 522 = .ok (.iload 11, 2) := by decide +kernel
theorem dX4_signs_524 : decode cX4_signs 524 = .ok (.iload 8, 2) := by decide +kernel
theorem dX4_signs_526 : decode cX4_signs 526 = .ok (.aload_n 0, 1) := by decide +kernel
theorem dX4_signs_527 : decode cX4_signs 527 = .ok (.getfield 19, 3) := by decide +kernel
theorem dX4_signs_530 : decode cX4_signs 530 = .ok (.iload 6, 2) := by decide +kernel
theorem dX4_signs_532 : decode cX4_signs 532 = .ok (.iaload, 1) := by decide +kernel
theorem dX4_signs_533 : decode cX4_signs 533 = .ok (.iadd, 1) := by decide +kernel
theorem dX4_signs_534 : decode cX4_signs 534 = .ok (.invokestatic 103, 3) := by decide +kernel
theorem dX4_signs_537 : decode cX4_signs 537 = .ok (.istore 11, 2) := by decide +kernel
theorem dX4_signs_539 : decode cX4_signs 539 = .ok (.aload_n 0, 1) := by decide +kernel
theorem dX4_signs_540 : decode cX4_signs 540 = .ok (.aload_n 0, 1) := by decide +kernel
theorem dX4_signs_541 : decode cX4_signs 541 = .ok (.getfield 13, 3) := by decide +kernel
theorem dX4_signs_544 : decode cX4_signs 544 = .ok (.iload_n 3, 1) := by decide +kernel
theorem dX4_signs_545 : decode cX4_signs 545 = .ok (.iaload, 1) := by decide +kernel
theorem dX4_signs_546 : decode cX4_signs 546 = .ok (.iload 9, 2) := by decide +kernel
theorem dX4_signs_548 : decode cX4_signs 548 = .ok (.iadd, 1) := by decide +kernel
theorem dX4_signs_549 : decode cX4_signs 549 = .ok (.aload_n 0, 1) := by decide +kernel
theorem dX4_signs_550 : decode cX4_signs 550 = .ok (.getfield 76, 3) := by decide +kernel
theorem dX4_signs_553 : decode cX4_signs 553 = .ok (.iadd, 1) := by decide +kernel
theorem dX4_signs_554 : decode cX4_signs 554 = .ok (.iload 10, 2) := by decide +kernel
theorem dX4_signs_556 : decode cX4_signs 556 = .ok (.iload 11, 2) := by decide +kernel
theorem dX4_signs_558 : decode cX4_signs 558 = .ok (.invokevirtual 85, 3) := by decide +kernel
theorem dX4_signs_561 : decode cX4_signs 561 = .ok (.istore 12, 2) := by decide +kernel
theorem dX4_signs_563 : decode cX4_signs 563 = .ok (.aload_n 0, 1) := by decide +kernel
theorem dX4_signs_564 : decode cX4_signs 564 = .ok (.iload_n 3, 1) := by decide +kernel
theorem dX4_signs_565 : decode cX4_signs 565 = .ok (.iconst 0, 1) := by decide +kernel
theorem dX4_signs_566 : decode cX4_signs 566 = .ok (.iconst 0, 1) := by decide +kernel
theorem dX4_signs_567 : decode cX4_signs 567 = .ok (.invokevirtual 99, 3) := by decide +kernel
theorem dX4_signs_570 : decode cX4_signs 570 = .ok (.iload 5, 2) := by decide +kernel
theorem dX4_signs_572 : decode cX4_signs 572 = .ok (.iconst (-1), 1) := by decide +kernel
theorem dX4_signs_573 : decode cX4_signs 573 = .ok (.if_icmp .eq (17), 3) := by decide +kernel
theorem dX4_signs_576 : decode cX4_signs 576 = .ok (.aload_n 0, 1) := by decide +kernel
theorem dX4_signs_577 : decode cX4_signs 577 = .ok (.iload 5, 2) := by decide +kernel
theorem dX4_signs_579 : decode cX4_signs 579 = .ok (.aload_n 0, 1) := by decide +kernel
theorem dX4_signs_580 : decode cX4_signs 580 = .ok (.getfield 13, 3) := by decide +kernel
theorem dX4_signs_583 : decode cX4_signs 583 = .ok (.iload_n 3, 1) := by decide +kernel
theorem dX4_signs_584 : decode cX4_signs 584 = .ok (.iaload, 1) := by decide +kernel
theorem dX4_signs_585 : decode cX4_signs 585 = .ok (.iload 7, 2) := by decide +kernel
theorem dX4_signs_587 : decode cX4_signs 587 = .ok (.invokevirtual 99, 3) := by decide +kernel
theorem dX4_signs_590 : decode cX4_signs 590 = .ok (.iload 6, 2) := by decide +kernel
theorem dX4_signs_592 : decode cX4_signs 592 = .ok (.iconst (-1), 1) := by decide +kernel
theorem dX4_signs_593 : decode cX4_signs 593 = .ok (.if_icmp .eq (18), 3) := by decide +kernel
theorem dX4_signs_596 : decode cX4_signs 596 = .ok (.aload_n 0, 1) := by decide +kernel
theorem dX4_signs_597 : decode cX4_signs 597 = .ok (.iload 6, 2) := by decide +kernel
theorem dX4_signs_599 : decode cX4_signs 599 = .ok (.aload_n 0, 1) := by decide +kernel
theorem dX4_signs_600 : decode cX4_signs 600 = .ok (.getfield 13, 3) := by decide +kernel
theorem dX4_signs_603 : decode cX4_signs 603 = .ok (.iload_n 3, 1) := by decide +kernel
theorem dX4_signs_604 : decode cX4_signs 604 = .ok (.iaload, 1) := by decide +kernel
theorem dX4_signs_605 : decode cX4_signs 605 = .ok (.iload 8, 2) := by decide +kernel
theorem dX4_signs_607 : decode cX4_signs 607 = .ok (.ineg, 1) := by decide +kernel
theorem dX4_signs_608 : decode cX4_signs 608 = .ok (.invokevirtual 99, 3) := by decide +kernel
theorem dX4_signs_611 : decode cX4_signs 611 = .ok (.iload 12, 2) := by decide +kernel
theorem dX4_signs_613 : decode cX4_signs 613 = .ok (.ireturn, 1) := by decide +kernel
theorem dX4_limits_0 : decode cX4_limits 0 = .ok (.aload_n 0, 1) := by decide +kernel
theorem dX4_limits_1 : decode cX4_limits 1 = .ok (.aload_n 0, 1) := by decide +kernel
theorem dX4_limits_2 : decode cX4_limits 2 = .ok (.iload_n 2, 1) := by decide +kernel
theorem dX4_limits_3 : decode cX4_limits 3 = .ok (.invokevirtual 67, 3) := by decide +kernel
theorem dX4_limits_6 : decode cX4_limits 6 = .ok (.ifCond .eq (20), 3) := by decide +kernel
theorem dX4_limits_9 : decode cX4_limits 9 = .ok (.aload_n 0, 1) := by decide +kernel
theorem dX4_limits_10 : decode cX4_limits 10 = .ok (.iload_n 3, 1) := by decide +kernel
theorem dX4_limits_11 : decode cX4_limits 11 = .ok (.invokevirtual 92, 3) := by decide +kernel
theorem dX4_limits_14 : decode cX4_limits 14 = .ok (.ifCond .eq (12), 3) := by decide +kernel
theorem dX4_limits_17 : decode cX4_limits 17 = .ok (.aload_n 0, 1) := by decide +kernel
theorem dX4_limits_18 : decode cX4_limits 18 = .ok (.iload 4, 2) := by decide +kernel
theorem dX4_limits_20 : decode cX4_limits 20 = .ok (.invokevirtual 92, 3) := by decide +kernel
theorem dX4_limits_23 : decode cX4_limits 23 = .ok (.ifCond .ne (7), 3) := by decide +kernel
theorem dX4_limits_26 : decode cX4_limits 26 = .ok (.iconst 1, 1) := by decide +kernel
theorem dX4_limits_27 : decode cX4_limits 27 = .ok (.goto (39), 3) := by decide +kernel
theorem dX4_limits_30 : decode cX4_limits 30 = .ok (.iload_n 1, 1) := by decide +kernel
theorem dX4_limits_31 : decode cX4_limits 31 = .ok (.invokestatic 121, 3) := by decide +kernel
theorem dX4_limits_34 : decode cX4_limits 34 = .ok (.ifCond .eq (14), 3) := by decide +kernel
theorem dX4_limits_37 : decode cX4_limits 37 = .ok (.iload_n 3, 1) := by decide +kernel
theorem dX4_limits_38 : decode cX4_limits 38 = .ok (.iconst (-1), 1) := by decide +kernel
theorem dX4_limits_39 : decode cX4_limits 39 = .ok (.if_icmp .ne (13), 3) := by decide +kernel
theorem dX4_limits_42 : decode cX4_limits 42 = .ok (.iload 4, 2) := by decide +kernel
theorem dX4_limits_44 : decode cX4_limits 44 = .ok (.iconst (-1), 1) := by decide +kernel
theorem dX4_limits_45 : decode cX4_limits 45 = .ok (.if_icmp .ne (7), 3) := by decide +kernel
theorem dX4_limits_48 : decode cX4_limits 48 = .ok (.iconst 2, 1) := by decide +kernel
theorem dX4_limits_49 : decode cX4_limits 49 = .ok (.goto (17), 3) := by decide +kernel
theorem dX4_limits_52 : decode cX4_limits 52 = .ok (.aload_n 0, 1) := by decide +kernel
theorem dX4_limits_53 : decode cX4_limits 53 = .ok (.getfield 56, 3) := by decide +kernel
theorem dX4_limits_56 : decode cX4_limits 56 = .ok (.bipush (120), 2) := by decide +kernel
theorem dX4_limits_58 : decode cX4_limits 58 = .ok (.if_icmp .ne (7), 3) := by decide +kernel
theorem dX4_limits_61 : decode cX4_limits 61 = .ok (.iconst 3, 1) := by decide +kernel
theorem dX4_limits_62 : decode cX4_limits 62 = .ok (.goto (4), 3) := by decide +kernel
theorem dX4_limits_65 : decode cX4_limits 65 = .ok (.iconst 0, 1) := by decide +kernel
theorem dX4_limits_66 : decode cX4_limits 66 = .ok (.putfield 60, 3) := by decide +kernel
theorem dX4_limits_69 : decode cX4_limits 69 = .ok (.aload_n 0, 1) := by decide +kernel
theorem dX4_limits_70 : decode cX4_limits 70 = .ok (.getfield 60, 3) := by decide +kernel
theorem dX4_limits_73 : decode cX4_limits 73 = .ok (.ifCond .le (5), 3) := by decide +kernel
theorem dX4_limits_76 : decode cX4_limits 76 = .ok (.iconst 0, 1) := by decide +kernel
theorem dX4_limits_77 : decode cX4_limits 77 = .ok (.ireturn, 1) := by decide +kernel
theorem dX4_limits_78 : decode cX4_limits 78 = .ok (.aload_n 0, 1) := by decide +kernel
theorem dX4_limits_79 : decode cX4_limits 79 = .ok (.iload_n 1, 1) := by decide +kernel
theorem dX4_limits_80 : decode cX4_limits 80 = .ok (.invokevirtual 124, 3) := by decide +kernel
theorem dX4_limits_83 : decode cX4_limits 83 = .ok (.aload_n 0, 1) := by decide +kernel
theorem dX4_limits_84 : decode cX4_limits 84 = .ok (.getfield 13, 3) := by decide +kernel
theorem dX4_limits_87 : decode cX4_limits 87 = .ok (.iload_n 2, 1) := by decide +kernel
theorem dX4_limits_88 : decode cX4_limits 88 = .ok (.iaload, 1) := by decide +kernel
theorem dX4_limits_89 : decode cX4_limits 89 = .ok (.istore 5, 2) := by decide +kernel
theorem dX4_limits_91 : decode cX4_limits 91 = .ok (.iload_n 3, 1) := by decide +kernel
theorem dX4_limits_92 : decode cX4_limits 92 = .ok (.iconst (-1), 1) := by decide +kernel
theorem dX4_limits_93 : decode cX4_limits 93 = .ok (.if_icmp .ne (8), 3) := by decide +kernel
theorem dX4_limits_96 : decode cX4_limits 96 = .ok (.iload 5, 2) := by decide +kernel
theorem dX4_limits_98 : decode cX4_limits 98 = .ok (.goto (14), 3) := by decide +kernel
theorem dX4_limits_101 : decode cX4_limits 101 = .ok (.iload 5, 2) := by decide +kernel
theorem dX4_limits_103 : decode cX4_limits 103 = .ok (.aload_n 0, 1) := by decide +kernel
theorem dX4_limits_104 : decode cX4_limits 104 = .ok (.getfield 13, 3) := by decide +kernel
theorem dX4_limits_107 : decode cX4_limits 107 = .ok (.iload_n 3, 1) := by decide +kernel
theorem dX4_limits_108 : decode cX4_limits 108 = .ok (.iaload, 1) := by decide +kernel
theorem dX4_limits_109 : decode cX4_limits 109 = .ok (.invokestatic 103, 3) := by decide +kernel
theorem dX4_limits_112 : decode cX4_limits 112 = .ok (.istore 5, 2) := by decide +kernel
theorem dX4_limits_114 : decode cX4_limits 114 = .ok (.iload 4, 2) := by decide +kernel
theorem dX4_limits_116 : decode cX4_limits 116 = .ok (.iconst (-1), 1) := by decide +kernel
theorem dX4_limits_117 : decode cX4_limits 117 = .ok (.if_icmp .ne (8), 3) := by decide +kernel
theorem dX4_limits_120 : decode cX4_limits 120 = .ok (.iload 5, 2) := by decide +kernel
theorem dX4_limits_122 : decode cX4_limits 122 = .ok (.goto (15), 3) := by decide +kernel
theorem dX4_limits_125 : decode cX4_limits 125 = .ok (.iload 5, 2) := by decide +kernel
theorem dX4_limits_127 : decode cX4_limits 127 = .ok (.aload_n 0, 1) := by decide +kernel
theorem dX4_limits_128 : decode cX4_limits 128 = .ok (.getfield 13, 3) := by decide +kernel
theorem dX4_limits_131 : decode cX4_limits 131 = .ok (.iload 4, 2) := by decide +kernel
theorem dX4_limits_133 : decode cX4_limits 133 = .ok (.iaload, 1) := by decide +kernel
theorem dX4_limits_134 : decode cX4_limits 134 = .ok (.invokestatic 103, 3) := by decide +kernel
theorem dX4_limits_137 : decode cX4_limits 137 = .ok (.istore 5, 2) := by decide +kernel
theorem dX4_limits_139 : decode cX4_limits 139 = .ok (.iload_n 3, 1) := by decide +kernel
theorem dX4_limits_140 : decode cX4_limits 140 = .ok (.iconst (-1), 1) := by decide +kernel
theorem dX4_limits_141 : decode cX4_limits 141 = .ok (.if_icmp .ne (7), 3) := by decide +kernel
theorem dX4_limits_144 : decode cX4_limits 144 = .ok (.iconst 0, 1) := by decide +kernel
theorem dX4_limits_145 : decode cX4_limits 145 = .ok (.goto (25), 3) := by decide +kernel
theorem dX4_limits_148 : decode cX4_limits 148 = .ok (.aload_n 0, 1) := by decide +kernel
theorem dX4_limits_149 : decode cX4_limits 149 = .ok (.bipush (17), 2) := by decide +kernel
theorem dX4_limits_151 : decode cX4_limits 151 = .ok (.invokevirtual 127, 3) := by decide +kernel
theorem dX4_limits_154 : decode cX4_limits 154 = .ok (.aload_n 0, 1) := by decide +kernel
theorem dX4_limits_155 : decode cX4_limits 155 = .ok (.getfield 19, 3) := by decide +kernel
theorem dX4_limits_158 : decode cX4_limits 158 = .ok (.iload_n 3, 1) := by decide +kernel
theorem dX4_limits_159 : decode cX4_limits 159 = .ok (.iaload, 1) := by decide +kernel
theorem dX4_limits_160 : decode cX4_limits 160 = .ok (.isub, 1) := by decide +kernel
theorem dX4_limits_161 : decode cX4_limits 161 = .ok (.aload_n 0, 1) := by decide +kernel
theorem dX4_limits_162 : decode cX4_limits 162 = .ok (.bipush (15), 2) := by decide +kernel
theorem dX4_limits_164 : decode cX4_limits 164 = .ok (.invokevirtual 127, 3) := by decide +kernel
theorem dX4_limits_167 : decode cX4_limits 167 = .ok (.invokestatic 103, 3) := by decide +kernel
theorem dX4_limits_170 : decode cX4_limits 170 = .ok (.istore 6, 2) := by decide +kernel
theorem dX4_limits_172 : decode cX4_limits 172 = .ok (.iload 4, 2) := by decide +kernel
theorem dX4_limits_174 : decode cX4_limits 174 = .ok (.iconst (-1), 1) := by decide +kernel
theorem dX4_limits_175 : decode cX4_limits 175 = .ok (.if_icmp .ne (7), 3) := by decide +kernel
theorem dX4_limits_178 : decode cX4_limits 178 = .ok (.iconst 0, 1) := by decide +kernel
theorem dX4_limits_179 : decode cX4_limits 179 = .ok (.goto (26), 3) := by decide +kernel
theorem dX4_limits_182 : decode cX4_limits 182 = .ok (.aload_n 0, 1) := by decide +kernel
theorem dX4_limits_183 : decode cX4_limits 183 = .ok (.bipush (18), 2) := by decide +kernel
theorem dX4_limits_185 : decode cX4_limits 185 = .ok (.invokevirtual 127, 3) := by decide +kernel
theorem dX4_limits_188 : decode cX4_limits 188 = .ok (.aload_n 0, 1) := by decide +kernel
theorem dX4_limits_189 : decode cX4_limits 189 = .ok (.getfield 16, 3) := by decide +kernel
theorem dX4_limits_192 : decode cX4_limits 192 = .ok (.iload 4, 2) := by decide +kernel
theorem dX4_limits_194 : decode cX4_limits 194 = .ok (.iaload, 1) := by decide +kernel
theorem dX4_limits_195 : decode cX4_limits 195 = .ok (.isub, 1) := by decide +kernel
theorem dX4_limits_196 : decode cX4_limits 196 = .ok (.aload_n 0, 1) := by decide +kernel
theorem dX4_limits_197 : decode cX4_limits 197 = .ok (.bipush (16), 2) := by decide +kernel
theorem dX4_limits_199 : decode cX4_limits 199 = .ok (.invokevirtual 127, 3) := by decide +kernel
theorem dX4_limits_202 : decode cX4_limits 202 = .ok (.invokestatic 103, 3) := by decide +kernel
theorem dX4_limits_205 : decode cX4_limits 205 = .ok (.istore 7, 2) := by decide +kernel
theorem dX4_limits_207 : decode cX4_limits 207 = .ok (.iload_n 3, 1) := by decide +kernel
theorem dX4_limits_208 : decode cX4_limits 208 = .ok (.iconst (-1), 1) := by decide +kernel
theorem dX4_limits_209 : decode cX4_limits 209 = .ok (.if_icmp .ne (12), 3) := by decide +kernel
theorem dX4_limits_212 : decode cX4_limits 212 = .ok (.aload_n 0, 1) := by decide +kernel
theorem dX4_limits_213 : decode cX4_limits 213 = .ok (.getfield 16, 3) := by decide +kernel
theorem dX4_limits_216 : decode cX4_limits 216 = .ok (.iload_n 2, 1) := by decide +kernel
theorem dX4_limits_217 : decode cX4_limits 217 = .ok (.iaload, 1) := by decide +kernel
theorem dX4_limits_218 : decode cX4_limits 218 = .ok (.goto (33), 3) := by decide +kernel
theorem dX4_limits_221 : decode cX4_limits 221 = .ok (.aload_n 0, 1) := by decide +kernel
theorem dX4_limits_222 : decode cX4_limits 222 = .ok (.getfield 16, 3) := by decide +kernel
theorem dX4_limits_225 : decode cX4_limits 225 = .ok (.iload_n 2, 1) := by decide +kernel
theorem dX4_limits_226 : decode cX4_limits 226 = .ok (.iaload, 1) := by decide +kernel
theorem dX4_limits_227 : decode cX4_limits 227 = .ok (.iload 6, 2) := by decide +kernel
theorem dX4_limits_229 : decode cX4_limits 229 = .ok (.iadd, 1) := by decide +kernel
theorem dX4_limits_230 : decode cX4_limits 230 = .ok (.aload_n 0, 1) := by decide +kernel
theorem dX4_limits_231 : decode cX4_limits 231 = .ok (.getfield 19, 3) := by decide +kernel
theorem dX4_limits_234 : decode cX4_limits 234 = .ok (.iload_n 3, 1) := by decide +kernel
theorem dX4_limits_235 : decode cX4_limits 235 = .ok (.iaload, 1) := by decide +kernel
theorem dX4_limits_236 : decode cX4_limits 236 = .ok (.iadd, 1) := by decide +kernel
theorem dX4_limits_237 : decode cX4_limits 237 = .ok (.aload_n 0, 1) := by decide +kernel
theorem dX4_limits_238 : decode cX4_limits 238 = .ok (.getfield 16, 3) := by decide +kernel
theorem dX4_limits_241 : decode cX4_limits 241 = .ok (.iload_n 3, 1) := by decide +kernel
theorem dX4_limits_242 : decode cX4_limits 242 = .ok (.iaload, 1) := by decide +kernel
theorem dX4_limits_243 : decode cX4_limits 243 = .ok (.iadd, 1) := by decide +kernel
theorem dX4_limits_244 : decode cX4_limits 244 = .ok (.aload_n 0, 1) := by decide +kernel
theorem dX4_limits_245 : decode cX4_limits 245 = .ok (.bipush (19), 2) := by decide +kernel
theorem dX4_limits_247 : decode cX4_limits 247 = .ok (.invokevirtual 127, 3) := by decide +kernel
theorem dX4_limits_250 : decode cX4_limits 250 = .ok (.iadd, 1) := by decide +kernel
theorem dX4_limits_251 : decode cX4_limits 251 = .ok (.istore 8, 2) := by decide +kernel
theorem dX4_limits_253 : decode cX4_limits 253 = .ok (.iload 4, 2) := by decide +kernel
theorem dX4_limits_255 : decode cX4_limits 255 = .ok (.iconst (-1), 1) := by decide +kernel
theorem dX4_limits_256 : decode cX4_limits 256 = .ok (.if_icmp .ne (12), 3) := by decide +kernel
theorem dX4_limits_259 : decode cX4_limits 259 = .ok (.aload_n 0, 1) := by decide +kernel
theorem dX4_limits_260 : decode cX4_limits 260 = .ok (.getfield 19, 3) := by decide +kernel
theorem dX4_limits_263 : decode cX4_limits 263 = .ok (.iload_n 2, 1) := by decide +kernel
theorem dX4_limits_264 : decode cX4_limits 264 = .ok (.iaload, 1) := by decide +kernel
theorem dX4_limits_265 : decode cX4_limits 265 = .ok (.goto (35), 3) := by decide +kernel
theorem dX4_limits_268 : decode cX4_limits 268 = .ok (.aload_n 0, 1) := by decide +kernel
theorem dX4_limits_269 : decode cX4_limits 269 = .ok (.getfield 19, 3) := by decide +kernel
theorem dX4_limits_272 : decode cX4_limits 272 = .ok (.iload_n 2, 1) := by decide +kernel
theorem dX4_limits_273 : decode cX4_limits 273 = .ok (.iaload, 1) := by decide +kernel
theorem dX4_limits_274 : decode cX4_limits 274 = .ok (.iload 7, 2) := by decide +kernel
theorem dX4_limits_276 : decode cX4_limits 276 = .ok (.iadd, 1) := by decide +kernel
theorem dX4_limits_277 : decode cX4_limits 277 = .ok (.aload_n 0, 1) := by decide +kernel
theorem dX4_limits_278 : decode cX4_limits 278 = .ok (.getfield 16, 3) := by decide +kernel
theorem dX4_limits_281 : decode cX4_limits 281 = .ok (.iload 4, 2) := by decide +kernel
theorem dX4_limits_283 : decode cX4_limits 283 = .ok (.iaload, 1) := by decide +kernel
theorem dX4_limits_284 : decode cX4_limits 284 = .ok (.iadd, 1) := by decide +kernel
theorem dX4_limits_285 : decode cX4_limits 285 = .ok (.aload_n 0, 1) := by decide +kernel
theorem dX4_limits_286 : decode cX4_limits 286 = .ok (.getfield 19, 3) := by decide +kernel
theorem dX4_limits_289 : decode cX4_limits 289 = .ok (.iload 4, 2) := by decide +kernel
theorem dX4_limits_291 : decode cX4_limits 291 = .ok (.iaload, 1) := by decide +kernel
theorem dX4_limits_292 : decode cX4_limits 292 = .ok (.iadd, 1) := by decide +kernel
theorem dX4_limits_293 : decode cX4_limits 293 = .ok (.aload_n 0, 1) := by decide +kernel
theorem dX4_limits_294 : decode cX4_limits 294 = .ok (.bipush (19), 2) := by decide +kernel
theorem dX4_limits_296 : decode cX4_limits 296 = .ok (.invokevirtual 127, 3) := by decide +kernel
theorem dX4_limits_299 : decode cX4_limits 299 = .ok (.iadd, 1) := by decide +kernel
theorem dX4_limits_300 : decode cX4_limits 300 = .ok (.istore 9, 2) := by decide +kernel
theorem dX4_limits_302 : decode cX4_limits 302 = .ok (.aload_n 0, 1) := by decide +kernel
theorem dX4_limits_303 : decode cX4_limits 303 = .ok (.iload 5, 2) := by decide +kernel
theorem dX4_limits_305 : decode cX4_limits 305 = .ok (.iload 8, 2) := by decide +kernel
theorem dX4_limits_307 : decode cX4_limits 307 = .ok (.iload 9, 2) := by decide +kernel
theorem dX4_limits_309 : decode cX4_limits 309 = .ok (.invokevirtual 85, 3) := by decide +kernel
theorem dX4_limits_312 : decode cX4_limits 312 = .ok (.istore 10, 2) := by decide +kernel
theorem dX4_limits_314 : decode cX4_limits 314 = .ok (.iload_n 3, 1) := by decide +kernel
theorem dX4_limits_315 : decode cX4_limits 315 = .ok (.iconst (-1), 1) := by decide +kernel
theorem dX4_limits_316 : decode cX4_limits 316 = .ok (.if_icmp .eq (36), 3) := by decide +kernel
theorem dX4_limits_319 : decode cX4_limits 319 = .ok (.aload_n 0, 1) := by decide +kernel
theorem dX4_limits_320 : decode cX4_limits 320 = .ok (.iload_n 3, 1) := by decide +kernel
theorem dX4_limits_321 : decode cX4_limits 321 = .ok (.iload 5, 2) := by decide +kernel
theorem dX4_limits_323 : decode cX4_limits 323 = .ok (.aload_n 0, 1) := by decide +kernel
theorem dX4_limits_324 : decode cX4_limits 324 = .ok (.getfield 13, 3) := by decide +kernel
theorem dX4_limits_327 : decode cX4_limits 327 = .ok (.iload_n 3, 1) := by decide +kernel
theorem dX4_limits_328 : decode cX4_limits 328 = .ok (.iaload, 1) := by decide +kernel
theorem dX4_limits_329 : decode cX4_limits 329 = .ok (.isub, 1) := by decide +kernel
theorem dX4_limits_330 : decode cX4_limits 330 = .ok (.invokestatic 130, 3) := by decide +kernel
theorem dX4_limits_333 : decode cX4_limits 333 = .ok (.aload_n 0, 1) := by decide +kernel
theorem dX4_limits_334 : decode cX4_limits 334 = .ok (.getfield 16, 3) := by decide +kernel
theorem dX4_limits_337 : decode cX4_limits 337 = .ok (.iload_n 2, 1) := by decide +kernel
theorem dX4_limits_338 : decode cX4_limits 338 = .ok (.iaload, 1) := by decide +kernel
theorem dX4_limits_339 : decode cX4_limits 339 = .ok (.iload 6, 2) := by decide +kernel
theorem dX4_limits_341 : decode cX4_limits 341 = .ok (.iadd, 1) := by decide +kernel
theorem dX4_limits_342 : decode cX4_limits 342 = .ok (.aload_n 0, 1) := by decide +kernel
theorem dX4_limits_343 : decode cX4_limits 343 = .ok (.getfield 19, 3) := by decide +kernel
theorem dX4_limits_346 : decode cX4_limits 346 = .ok (.iload_n 3, 1) := by decide +kernel
theorem dX4_limits_347 : decode cX4_limits 347 = .ok (.iaload, 1) := by decide +kernel
theorem dX4_limits_348 : decode cX4_limits 348 = .ok (.iadd, 1) := by decide +kernel
theorem dX4_limits_349 : decode cX4_limits 349 = .ok (.invokevirtual 99, 3) := by decide +kernel
theorem dX4_limits_352 : decode cX4_limits 352 = .ok (.aload_n 0, 1) := by decide +kernel
theorem dX4_limits_353 : decode cX4_limits 353 = .ok (.iload_n 2, 1) := by decide +kernel
theorem dX4_limits_354 : decode cX4_limits 354 = .ok (.iload 5, 2) := by decide +kernel
theorem dX4_limits_356 : decode cX4_limits 356 = .ok (.aload_n 0, 1) := by decide +kernel
theorem dX4_limits_357 : decode cX4_limits 357 = .ok (.getfield 13, 3) := by decide +kernel
theorem dX4_limits_360 : decode cX4_limits 360 = .ok (.iload_n 2, 1) := by decide +kernel
theorem dX4_limits_361 : decode cX4_limits 361 = .ok (.iaload, 1) := by decide +kernel
theorem dX4_limits_362 : decode cX4_limits 362 = .ok (.isub, 1) := by decide +kernel
theorem dX4_limits_363 : decode cX4_limits 363 = .ok (.invokestatic 130, 3) := by decide +kernel
theorem dX4_limits_366 : decode cX4_limits 366 = .ok (.iconst 0, 1) := by decide +kernel
theorem dX4_limits_367 : decode cX4_limits 367 = .ok (.invokevirtual 99, 3) := by decide +kernel
theorem dX4_limits_370 : decode cX4_limits 370 = .ok (.iload 4, 2) := by decide +kernel
theorem dX4_limits_372 : decode cX4_limits 372 = .ok (.iconst (-1), 1) := by decide +kernel
theorem dX4_limits_373 : decode cX4_limits 373 = .ok (.if_icmp .eq (40), 3) := by decide +kernel
theorem dX4_limits_376 : decode cX4_limits 376 = .ok (.aload_n 0, 1) := by decide +kernel
theorem dX4_limits_377 : decode cX4_limits 377 = .ok (.iload 4, 2) := by decide +kernel
theorem dX4_limits_379 : decode cX4_limits 379 = .ok (.iload 5, 2) := by decide +kernel
theorem dX4_limits_381 : decode cX4_limits 381 = .ok (.aload_n 0, 1) := by decide +kernel
theorem dX4_limits_382 : decode cX4_limits 382 = .ok (.getfield 13, 3) := by decide +kernel
theorem dX4_limits_385 : decode cX4_limits 385 = .ok (.iload 4, 2) := by decide +kernel
theorem dX4_limits_387 : decode cX4_limits 387 = .ok (.iaload, 1) := by decide +kernel
theorem dX4_limits_388 : decode cX4_limits 388 = .ok (.isub, 1) := by decide +kernel
theorem dX4_limits_389 : decode cX4_limits 389 = .ok (.invokestatic 130, 3) := by decide +kernel
theorem dX4_limits_392 : decode cX4_limits 392 = .ok (.aload_n 0, 1) := by decide +kernel
theorem dX4_limits_393 : decode cX4_limits 393 = .ok (.getfield 19, 3) := by decide +kernel
theorem dX4_limits_396 : decode cX4_limits 396 = .ok (.iload_n 2, 1) := by decide +kernel
theorem dX4_limits_397 : decode cX4_limits 397 = .ok (.iaload, 1) := by decide +kernel
theorem dX4_limits_398 : decode cX4_limits 398 = .ok (.iload 7, 2) := by decide +kernel
theorem dX4_limits_400 : decode cX4_limits 400 = .ok (.iadd, 1) := by decide +kernel
theorem dX4_limits_401 : decode cX4_limits 401 = .ok (.aload_n 0, 1) := by decide +kernel
theorem dX4_limits_402 : decode cX4_limits 402 = .ok (.getfield 16, 3) := by decide +kernel
theorem dX4_limits_405 : decode cX4_limits 405 = .ok (.iload 4, 2) := by decide +kernel
theorem dX4_limits_407 : decode cX4_limits 407 = .ok (.iaload, 1) := by decide +kernel
theorem dX4_limits_408 : decode cX4_limits 408 = .ok (.iadd, 1) := by decide +kernel
theorem dX4_limits_409 : decode cX4_limits 409 = .ok (.ineg, 1) := by decide +kernel
theorem dX4_limits_410 : decode cX4_limits 410 = .ok (.invokevirtual 99, 3) := by decide +kernel
theorem dX4_limits_413 : decode cX4_limits 413 = .ok (.iload 10, 2) := by decide +kernel
theorem dX4_limits_415 : decode cX4_limits 415 = .ok (.ireturn, 1) := by decide +kernel
theorem dX4_reach_0 : decode cX4_reach 0 = .ok (.aload_n 0, 1) := by decide +kernel
theorem dX4_reach_1 : decode cX4_reach 1 = .ok (.getfield 56, 3) := by decide +kernel
theorem dX4_reach_4 : decode cX4_reach 4 = .ok (.iconst 1, 1) := by decide +kernel
theorem dX4_reach_5 : decode cX4_reach 5 = .ok (.isub, 1) := by decide +kernel
theorem dX4_reach_6 : decode cX4_reach 6 = .ok (.istore_n 1, 1) := by decide +kernel
theorem dX4_reach_7 : decode cX4_reach 7 = .ok (.iconst 0, 1) := by decide +kernel
theorem dX4_reach_8 : decode cX4_reach 8 = .ok (.istore_n 2, 1) := by decide +kernel
theorem dX4_reach_9 : decode cX4_reach 9 = .ok (.iload_n 2, 1) := by decide +kernel
theorem dX4_reach_10 : decode cX4_reach 10 = .ok (.aload_n 0, 1) := by decide +kernel
theorem dX4_reach_11 : decode cX4_reach 11 = .ok (.getfield 25, 3) := by decide +kernel
theorem dX4_reach_14 : decode cX4_reach 14 = .ok (.iload_n 1, 1) := by decide +kernel
theorem dX4_reach_15 : decode cX4_reach 15 = .ok (.iaload, 1) := by decide +kernel
theorem dX4_reach_16 : decode cX4_reach 16 = .ok (.if_icmp .ge (110), 3) := by decide +kernel
theorem dX4_reach_19 : decode cX4_reach 19 = .ok (.aload_n 0, 1) := by decide +kernel
theorem dX4_reach_20 : decode cX4_reach 20 = .ok (.getfield 22, 3) := by decide +kernel
theorem dX4_reach_23 : decode cX4_reach 23 = .ok (.iload_n 1, 1) := by decide +kernel
theorem dX4_reach_24 : decode cX4_reach 24 = .ok (.iaload, 1) := by decide +kernel
theorem dX4_reach_25 : decode cX4_reach 25 = .ok (.iload_n 2, 1) := by decide +kernel
theorem dX4_reach_26 : decode cX4_reach 26 = .ok (.iadd, 1) := by decide +kernel
theorem dX4_reach_27 : decode cX4_reach 27 = .ok (.istore_n 3, 1) := by decide +kernel
theorem dX4_reach_28 : decode cX4_reach 28 = .ok (.aload_n 0, 1) := by decide +kernel
theorem dX4_reach_29 : decode cX4_reach 29 = .ok (.getfield 40, 3) := by decide +kernel
theorem dX4_reach_32 : decode cX4_reach 32 = .ok (.iload_n 3, 1) := by decide +kernel
theorem dX4_reach_33 : decode cX4_reach 33 = .ok (.iaload, 1) := by decide +kernel
theorem dX4_reach_34 : decode cX4_reach 34 = .ok (.aload_n 0, 1) := by decide +kernel
theorem dX4_reach_35 : decode cX4_reach 35 = .ok (.getfield 16, 3) := by decide +kernel
theorem dX4_reach_38 : decode cX4_reach 38 = .ok (.aload_n 0, 1) := by decide +kernel
theorem dX4_reach_39 : decode cX4_reach 39 = .ok (.getfield 34, 3) := by decide +kernel
theorem dX4_reach_42 : decode cX4_reach 42 = .ok (.iload_n 3, 1) := by decide +kernel
theorem dX4_reach_43 : decode cX4_reach 43 = .ok (.iaload, 1) := by decide +kernel
theorem dX4_reach_44 : decode cX4_reach 44 = .ok (.iaload, 1) := by decide +kernel
theorem dX4_reach_45 : decode cX4_reach 45 = .ok (.iadd, 1) := by decide +kernel
theorem dX4_reach_46 : decode cX4_reach 46 = .ok (.istore 4, 2) := by decide +kernel
theorem dX4_reach_48 : decode cX4_reach 48 = .ok (.aload_n 0, 1) := by decide +kernel
theorem dX4_reach_49 : decode cX4_reach 49 = .ok (.getfield 19, 3) := by decide +kernel
theorem dX4_reach_52 : decode cX4_reach 52 = .ok (.aload_n 0, 1) := by decide +kernel
theorem dX4_reach_53 : decode cX4_reach 53 = .ok (.getfield 34, 3) := by decide +kernel
theorem dX4_reach_56 : decode cX4_reach 56 = .ok (.iload_n 3, 1) := by decide +kernel
theorem dX4_reach_57 : decode cX4_reach 57 = .ok (.iaload, 1) := by decide +kernel
theorem dX4_reach_58 : decode cX4_reach 58 = .ok (.iaload, 1) := by decide +kernel
theorem dX4_reach_59 : decode cX4_reach 59 = .ok (.aload_n 0, 1) := by decide +kernel
theorem dX4_reach_60 : decode cX4_reach 60 = .ok (.getfield 40, 3) := by decide +kernel
theorem dX4_reach_63 : decode cX4_reach 63 = .ok (.iload_n 3, 1) := by decide +kernel
theorem dX4_reach_64 : decode cX4_reach 64 = .ok (.iaload, 1) := by decide +kernel
theorem dX4_reach_65 : decode cX4_reach 65 = .ok (.isub, 1) := by decide +kernel
theorem dX4_reach_66 : decode cX4_reach 66 = .ok (.istore 5, 2) := by decide +kernel
theorem dX4_reach_68 : decode cX4_reach 68 = .ok (.aload_n 0, 1) := by decide +kernel
theorem dX4_reach_69 : decode cX4_reach 69 = .ok (.getfield 16, 3) := by decide +kernel
theorem dX4_reach_72 : decode cX4_reach 72 = .ok (.iload_n 1, 1) := by decide +kernel
theorem dX4_reach_73 : decode cX4_reach 73 = .ok (.iload_n 2, 1) := by decide +kernel
theorem dX4_reach_74 : decode cX4_reach 74 = .ok (.ifCond .ne (8), 3) := by decide +kernel
theorem dX4_reach_77 : decode cX4_reach 77 = .ok (.iload 4, 2) := by decide +kernel
theorem dX4_reach_79 : decode cX4_reach 79 = .ok (.goto (14), 3) := by decide +kernel
theorem dX4_reach_82 : decode cX4_reach 82 = .ok (.aload_n 0, 1) := by decide +kernel
theorem dX4_reach_83 : decode cX4_reach 83 = .ok (.getfield 16, 3) := by decide +kernel
theorem dX4_reach_86 : decode cX4_reach 86 = .ok (.iload_n 1, 1) := by decide +kernel
theorem dX4_reach_87 : decode cX4_reach 87 = .ok (.iaload, 1) := by decide +kernel
theorem dX4_reach_88 : decode cX4_reach 88 = .ok (.iload 4, 2) := by decide +kernel
theorem dX4_reach_90 : decode cX4_reach 90 = .ok (.invokestatic 103, 3) := by decide +kernel
theorem dX4_reach_93 : decode cX4_reach 93 = .ok (.iastore, 1) := by decide +kernel
theorem dX4_reach_94 : decode cX4_reach 94 = .ok (.aload_n 0, 1) := by decide +kernel
theorem dX4_reach_95 : decode cX4_reach 95 = .ok (.getfield 19, 3) := by decide +kernel
theorem dX4_reach_98 : decode cX4_reach 98 = .ok (.iload_n 1, 1) := by decide +kernel
theorem dX4_reach_99 : decode cX4_reach 99 = .ok (.iload_n 2, 1) := by decide +kernel
theorem dX4_reach_100 : decode cX4_reach 100 = .ok (.ifCond .ne (8), 3) := by decide +kernel
theorem dX4_reach_103 : decode cX4_reach 103 = .ok (.iload 5, 2) := by decide +kernel
theorem dX4_reach_105 : decode cX4_reach 105 = .ok (.goto (14), 3) := by decide +kernel
theorem dX4_reach_108 : decode cX4_reach 108 = .ok (.aload_n 0, 1) := by decide +kernel
theorem dX4_reach_109 : decode cX4_reach 109 = .ok (.getfield 19, 3) := by decide +kernel
theorem dX4_reach_112 : decode cX4_reach 112 = .ok (.iload_n 1, 1) := by decide +kernel
theorem dX4_reach_113 : decode cX4_reach 113 = .ok (.iaload, 1) := by decide +kernel
theorem dX4_reach_114 : decode cX4_reach 114 = .ok (.iload 5, 2) := by decide +kernel
theorem dX4_reach_116 : decode cX4_reach 116 = .ok (.invokestatic 103, 3) := by decide +kernel
theorem dX4_reach_119 : decode cX4_reach 119 = .ok (.iastore, 1) := by decide +kernel
theorem dX4_reach_120 : decode cX4_reach 120 = .ok (.iinc 2 (1), 3) := by decide +kernel
theorem dX4_reach_123 : decode cX4_reach 123 = .ok (.goto (-114), 3) := by decide +kernel
theorem dX4_reach_126 : decode cX4_reach 126 = .ok (.return_, 1) := by decide +kernel
theorem dX4_brackets_0 : decode cX4_brackets 0 = .ok (.aload_n 0, 1) := by decide +kernel
theorem dX4_brackets_1 : decode cX4_brackets 1 = .ok (.iload_n 2, 1) := by decide +kernel
theorem dX4_brackets_2 : decode cX4_brackets 2 = .ok (.invokestatic 89, 3) := by decide +kernel
theorem dX4_brackets_5 : decode cX4_brackets 5 = .ok (.ifCond .eq (19), 3) := by decide +kernel
theorem dX4_brackets_8 : decode cX4_brackets 8 = .ok (.aload_n 0, 1) := by decide +kernel
theorem dX4_brackets_9 : decode cX4_brackets 9 = .ok (.iload_n 3, 1) := by decide +kernel
theorem dX4_brackets_10 : decode cX4_brackets 10 = .ok (.invokevirtual 67, 3) := by decide +kernel
theorem dX4_brackets_13 : decode cX4_brackets 13 = .ok (.ifCond .eq (11), 3) := by decide +kernel
theorem dX4_brackets_16 : decode cX4_brackets 16 = .ok (.iload 4, 2) := by decide +kernel
theorem dX4_brackets_18 : decode cX4_brackets 18 = .ok (.invokestatic 89, 3) := by decide +kernel
theorem dX4_brackets_21 : decode cX4_brackets 21 = .ok (.ifCond .ne (7), 3) := by decide +kernel
theorem dX4_brackets_24 : decode cX4_brackets 24 = .ok (.iconst 1, 1) := by decide +kernel
theorem dX4_brackets_25 : decode cX4_brackets 25 = .ok (.goto (15), 3) := by decide +kernel
theorem dX4_brackets_28 : decode cX4_brackets 28 = .ok (.iload_n 1, 1) := by decide +kernel
theorem dX4_brackets_29 : decode cX4_brackets 29 = .ok (.invokestatic 121, 3) := by decide +kernel
theorem dX4_brackets_32 : decode cX4_brackets 32 = .ok (.ifCond .ne (7), 3) := by decide +kernel
theorem dX4_brackets_35 : decode cX4_brackets 35 = .ok (.iconst 2, 1) := by decide +kernel
theorem dX4_brackets_36 : decode cX4_brackets 36 = .ok (.goto (4), 3) := by decide +kernel
theorem dX4_brackets_39 : decode cX4_brackets 39 = .ok (.iconst 0, 1) := by decide +kernel
theorem dX4_brackets_40 : decode cX4_brackets 40 = .ok (.putfield 60, 3) := by decide +kernel
theorem dX4_brackets_43 : decode cX4_brackets 43 = .ok (.aload_n 0, 1) := by decide +kernel
theorem dX4_brackets_44 : decode cX4_brackets 44 = .ok (.getfield 60, 3) := by decide +kernel
theorem dX4_brackets_47 : decode cX4_brackets 47 = .ok (.ifCond .le (5), 3) := by decide +kernel
theorem dX4_brackets_50 : decode cX4_brackets 50 = .ok (.iconst 0, 1) := by decide +kernel
theorem dX4_brackets_51 : decode cX4_brackets 51 = .ok (.ireturn, 1) := by decide +kernel
theorem dX4_brackets_52 : decode cX4_brackets 52 = .ok (.aload_n 0, 1) := by decide +kernel
theorem dX4_brackets_53 : decode cX4_brackets 53 = .ok (.iload_n 1, 1) := by decide +kernel
theorem dX4_brackets_54 : decode cX4_brackets 54 = .ok (.invokevirtual 124, 3) := by decide +kernel
theorem dX4_brackets_57 : decode cX4_brackets 57 = .ok (.aload_n 0, 1) := by decide +kernel
theorem dX4_brackets_58 : decode cX4_brackets 58 = .ok (.getfield 16, 3) := by decide +kernel
theorem dX4_brackets_61 : decode cX4_brackets 61 = .ok (.iload_n 3, 1) := by decide +kernel
theorem dX4_brackets_62 : decode cX4_brackets 62 = .ok (.iaload, 1) := by decide +kernel
theorem dX4_brackets_63 : decode cX4_brackets 63 = .ok (.aload_n 0, 1) := by decide +kernel
theorem dX4_brackets_64 : decode cX4_brackets 64 = .ok (.iconst 0, 1) := by decide +kernel
theorem dX4_brackets_65 : decode cX4_brackets 65 = .ok (.invokevirtual 127, 3) := by decide +kernel
theorem dX4_brackets_68 : decode cX4_brackets 68 = .ok (.isub, 1) := by decide +kernel
theorem dX4_brackets_69 : decode cX4_brackets 69 = .ok (.aload_n 0, 1) := by decide +kernel
theorem dX4_brackets_70 : decode cX4_brackets 70 = .ok (.getfield 19, 3) := by decide +kernel
theorem dX4_brackets_73 : decode cX4_brackets 73 = .ok (.iload_n 3, 1) := by decide +kernel
theorem dX4_brackets_74 : decode cX4_brackets 74 = .ok (.iaload, 1) := by decide +kernel
theorem dX4_brackets_75 : decode cX4_brackets 75 = .ok (.aload_n 0, 1) := by decide +kernel
theorem dX4_brackets_76 : decode cX4_brackets 76 = .ok (.iconst 0, 1) := by decide +kernel
theorem dX4_brackets_77 : decode cX4_brackets 77 = .ok (.invokevirtual 127, 3) := by decide +kernel
theorem dX4_brackets_80 : decode cX4_brackets 80 = .ok (.iadd, 1) := by decide +kernel
theorem dX4_brackets_81 : decode cX4_brackets 81 = .ok (.invokestatic 103, 3) := by decide +kernel
theorem dX4_brackets_84 : decode cX4_brackets 84 = .ok (.istore 5, 2) := by decide +kernel
theorem dX4_brackets_86 : decode cX4_brackets 86 = .ok (.iconst 0, 1) := by decide +kernel
theorem dX4_brackets_87 : decode cX4_brackets 87 = .ok (.iload 5, 2) := by decide +kernel
theorem dX4_brackets_89 : decode cX4_brackets 89 = .ok (.sipush (500), 3) := by decide +kernel
theorem dX4_brackets_92 : decode cX4_brackets 92 = .ok (.idiv, 1) := by decide +kernel
theorem dX4_brackets_93 : decode cX4_brackets 93 = .ok (.sipush (901), 3) := by decide +kernel
theorem dX4_brackets_96 : decode cX4_brackets 96 = .ok (.imul, 1) := by decide +kernel
theorem dX4_brackets_97 : decode cX4_brackets 97 = .ok (.iconst 2, 1) := by decide +kernel
theorem dX4_brackets_98 : decode cX4_brackets 98 = .ok (.iload 5, 2) := by decide +kernel
theorem dX4_brackets_100 : decode cX4_brackets 100 = .ok (.imul, 1) := by decide +kernel
theorem dX4_brackets_101 : decode cX4_brackets 101 = .ok (.aload_n 0, 1) := by decide +kernel
theorem dX4_brackets_102 : decode cX4_brackets 102 = .ok (.getfield 79, 3) := by decide +kernel
theorem dX4_brackets_105 : decode cX4_brackets 105 = .ok (.isub, 1) := by decide +kernel
theorem dX4_brackets_106 : decode cX4_brackets 106 = .ok (.invokestatic 103, 3) := by decide +kernel
theorem dX4_brackets_109 : decode cX4_brackets 109 = .ok (.invokestatic 103, 3) := by decide +kernel
theorem dX4_brackets_112 : decode cX4_brackets 112 = .ok (.istore 6, 2) := by decide +kernel
theorem dX4_brackets_114 : decode cX4_brackets 114 = .ok (.aload_n 0, 1) := by decide +kernel
theorem dX4_brackets_115 : decode cX4_brackets 115 = .ok (.iload_n 2, 1) := by decide +kernel
theorem dX4_brackets_116 : decode cX4_brackets 116 = .ok (.iload 6, 2) := by decide +kernel
theorem dX4_brackets_118 : decode cX4_brackets 118 = .ok (.invokevirtual 107, 3) := by decide +kernel
theorem dX4_brackets_121 : decode cX4_brackets 121 = .ok (.istore 7, 2) := by decide +kernel
theorem dX4_brackets_123 : decode cX4_brackets 123 = .ok (.aload_n 0, 1) := by decide +kernel
theorem dX4_brackets_124 : decode cX4_brackets 124 = .ok (.iload 4, 2) := by decide +kernel
theorem dX4_brackets_126 : decode cX4_brackets 126 = .ok (.iload 6, 2) := by decide +kernel
theorem dX4_brackets_128 : decode cX4_brackets 128 = .ok (.invokevirtual 107, 3) := by decide +kernel
theorem dX4_brackets_131 : decode cX4_brackets 131 = .ok (.istore 8, 2) := by decide +kernel
theorem dX4_brackets_133 : decode cX4_brackets 133 = .ok (.iconst 1, 1) := by decide +kernel
theorem dX4_brackets_134 : decode cX4_brackets 134 = .ok (.iload 7, 2) := by decide +kernel
theorem dX4_brackets_136 : decode cX4_brackets 136 = .ok (.bipush (-3), 2) := by decide +kernel
theorem dX4_brackets_138 : decode cX4_brackets 138 = .ok (.if_icmp .ne (7), 3) := by decide +kernel
theorem dX4_brackets_141 : decode cX4_brackets 141 = .ok (.iconst 1, 1) := by decide +kernel
theorem dX4_brackets_142 : decode cX4_brackets 142 = .ok (.goto (4), 3) := by decide +kernel
theorem dX4_brackets_145 : decode cX4_brackets 145 = .ok (.iconst 0, 1) := by decide +kernel
theorem dX4_brackets_146 : decode cX4_brackets 146 = .ok (.iadd, 1) := by decide +kernel
theorem dX4_brackets_147 : decode cX4_brackets 147 = .ok (.iload 8, 2) := by decide +kernel
theorem dX4_brackets_149 : decode cX4_brackets 149 = .ok (.bipush (-3), 2) := by decide +kernel
theorem dX4_brackets_151 : decode cX4_brackets 151 = .ok (.if_icmp .ne (7), 3) := by decide +kernel
theorem dX4_brackets_154 : decode cX4_brackets 154 = .ok (.iconst 1, 1) := by decide +kernel
theorem dX4_brackets_155 : decode cX4_brackets 155 = .ok (.goto (4), 3) := by decide +kernel
theorem dX4_brackets_158 : decode cX4_brackets 158 = .ok (.iconst 0, 1) := by decide +kernel
theorem dX4_brackets_159 : decode cX4_brackets 159 = .ok (.iadd, 1) := by decide +kernel
theorem dX4_brackets_160 : decode cX4_brackets 160 = .ok (.istore 9, 2) := by decide +kernel
theorem dX4_brackets_162 : decode cX4_brackets 162 = .ok (.aload_n 0, 1) := by decide +kernel
theorem dX4_brackets_163 : decode cX4_brackets 163 = .ok (.iload 7, 2) := by decide +kernel
theorem dX4_brackets_165 : decode cX4_brackets 165 = .ok (.bipush (-2), 2) := by decide +kernel
theorem dX4_brackets_167 : decode cX4_brackets 167 = .ok (.if_icmp .eq (10), 3) := by decide +kernel
theorem dX4_brackets_170 : decode cX4_brackets 170 = .ok (.iload 8, 2) := by decide +kernel
theorem dX4_brackets_172 : decode cX4_brackets 172 = .ok (.bipush (-2), 2) := by decide +kernel
theorem dX4_brackets_174 : decode cX4_brackets 174 = .ok (.if_icmp .ne (7), 3) := by decide +kernel
theorem dX4_brackets_177 : decode cX4_brackets 177 = .ok (.iconst 3, 1) := by decide +kernel
theorem dX4_brackets_178 : decode cX4_brackets 178 = .ok (.goto (20), 3) := by decide +kernel
theorem dX4_brackets_181 : decode cX4_brackets 181 = .ok (.aload_n 0, 1) := by decide +kernel
theorem dX4_brackets_182 : decode cX4_brackets 182 = .ok (.getfield 56, 3) := by decide +kernel
theorem dX4_brackets_185 : decode cX4_brackets 185 = .ok (.iload 9, 2) := by decide +kernel
theorem dX4_brackets_187 : decode cX4_brackets 187 = .ok (.iadd, 1) := by decide +kernel
theorem dX4_brackets_188 : decode cX4_brackets 188 = .ok (.bipush (120), 2) := by decide +kernel
theorem dX4_brackets_190 : decode cX4_brackets 190 = .ok (.if_icmp .le (7), 3) := by decide +kernel
theorem dX4_brackets_193 : decode cX4_brackets 193 = .ok (.iconst 4, 1) := by decide +kernel
theorem dX4_brackets_194 : decode cX4_brackets 194 = .ok (.goto (4), 3) := by decide +kernel
theorem dX4_brackets_197 : decode cX4_brackets 197 = .ok (.iconst 0, 1) := by decide +kernel
theorem dX4_brackets_198 : decode cX4_brackets 198 = .ok (.putfield 60, 3) := by decide +kernel
theorem dX4_brackets_201 : decode cX4_brackets 201 = .ok (.aload_n 0, 1) := by decide +kernel
theorem dX4_brackets_202 : decode cX4_brackets 202 = .ok (.getfield 60, 3) := by decide +kernel
theorem dX4_brackets_205 : decode cX4_brackets 205 = .ok (.ifCond .le (5), 3) := by decide +kernel
theorem dX4_brackets_208 : decode cX4_brackets 208 = .ok (.iconst 0, 1) := by decide +kernel
theorem dX4_brackets_209 : decode cX4_brackets 209 = .ok (.ireturn, 1) := by decide +kernel
theorem dX4_brackets_210 : decode cX4_brackets 210 = .ok (.aload_n 0, 1) := by decide +kernel
theorem dX4_brackets_211 : decode cX4_brackets 211 = .ok (.iload_n 2, 1) := by decide +kernel
theorem dX4_brackets_212 : decode cX4_brackets 212 = .ok (.iload 6, 2) := by decide +kernel
theorem dX4_brackets_214 : decode cX4_brackets 214 = .ok (.invokevirtual 118, 3) := by decide +kernel
theorem dX4_brackets_217 : decode cX4_brackets 217 = .ok (.istore 10, 2) := by decide +kernel
theorem dX4_brackets_219 : decode cX4_brackets 219 = .ok (.aload_n 0, 1) := by decide +kernel
theorem dX4_brackets_220 : decode cX4_brackets 220 = .ok (.iload 4, 2) := by decide +kernel
theorem dX4_brackets_222 : decode cX4_brackets 222 = .ok (.iload 6, 2) := by decide +kernel
theorem dX4_brackets_224 : decode cX4_brackets 224 = .ok (.invokevirtual 118, 3) := by decide +kernel
theorem dX4_brackets_227 : decode cX4_brackets 227 = .ok (.istore 11, 2) := by decide +kernel
theorem dX4_brackets_229 : decode cX4_brackets 229 = .ok (.aload_n 0, 1) := by decide +kernel
theorem dX4_brackets_230 : decode cX4_brackets 230 = .ok (.aload_n 0, 1) := by decide +kernel
theorem dX4_brackets_231 : decode cX4_brackets 231 = .ok (.getfield 13, 3) := by decide +kernel
theorem dX4_brackets_234 : decode cX4_brackets 234 = .ok (.iload 10, 2) := by decide +kernel
theorem dX4_brackets_236 : decode cX4_brackets 236 = .ok (.iaload, 1) := by decide +kernel
theorem dX4_brackets_237 : decode cX4_brackets 237 = .ok (.aload_n 0, 1) := by decide +kernel
theorem dX4_brackets_238 : decode cX4_brackets 238 = .ok (.getfield 13, 3) := by decide +kernel
theorem dX4_brackets_241 : decode cX4_brackets 241 = .ok (.iload_n 3, 1) := by decide +kernel
theorem dX4_brackets_242 : decode cX4_brackets 242 = .ok (.iaload, 1) := by decide +kernel
theorem dX4_brackets_243 : decode cX4_brackets 243 = .ok (.iadd, 1) := by decide +kernel
theorem dX4_brackets_244 : decode cX4_brackets 244 = .ok (.aload_n 0, 1) := by decide +kernel
theorem dX4_brackets_245 : decode cX4_brackets 245 = .ok (.getfield 13, 3) := by decide +kernel
theorem dX4_brackets_248 : decode cX4_brackets 248 = .ok (.iload 11, 2) := by decide +kernel
theorem dX4_brackets_250 : decode cX4_brackets 250 = .ok (.iaload, 1) := by decide +kernel
theorem dX4_brackets_251 : decode cX4_brackets 251 = .ok (.iadd, 1) := by decide +kernel
theorem dX4_brackets_252 : decode cX4_brackets 252 = .ok (.iconst 0, 1) := by decide +kernel
theorem dX4_brackets_253 : decode cX4_brackets 253 = .ok (.iconst 0, 1) := by decide +kernel
theorem dX4_brackets_254 : decode cX4_brackets 254 = .ok (.invokevirtual 85, 3) := by decide +kernel
theorem dX4_brackets_257 : decode cX4_brackets 257 = .ok (.istore 12, 2) := by decide +kernel
theorem dX4_brackets_259 : decode cX4_brackets 259 = .ok (.aload_n 0, 1) := by decide +kernel
theorem dX4_brackets_260 : decode cX4_brackets 260 = .ok (.iload 10, 2) := by decide +kernel
theorem dX4_brackets_262 : decode cX4_brackets 262 = .ok (.iconst 0, 1) := by decide +kernel
theorem dX4_brackets_263 : decode cX4_brackets 263 = .ok (.aload_n 0, 1) := by decide +kernel
theorem dX4_brackets_264 : decode cX4_brackets 264 = .ok (.iconst 0, 1) := by decide +kernel
theorem dX4_brackets_265 : decode cX4_brackets 265 = .ok (.invokevirtual 127, 3) := by decide +kernel
theorem dX4_brackets_268 : decode cX4_brackets 268 = .ok (.aload_n 0, 1) := by decide +kernel
theorem dX4_brackets_269 : decode cX4_brackets 269 = .ok (.getfield 16, 3) := by decide +kernel
theorem dX4_brackets_272 : decode cX4_brackets 272 = .ok (.iload 10, 2) := by decide +kernel
theorem dX4_brackets_274 : decode cX4_brackets 274 = .ok (.iaload, 1) := by decide +kernel
theorem dX4_brackets_275 : decode cX4_brackets 275 = .ok (.aload_n 0, 1) := by decide +kernel
theorem dX4_brackets_276 : decode cX4_brackets 276 = .ok (.getfield 19, 3) := by decide +kernel
theorem dX4_brackets_279 : decode cX4_brackets 279 = .ok (.iload 10, 2) := by decide +kernel
theorem dX4_brackets_281 : decode cX4_brackets 281 = .ok (.iaload, 1) := by decide +kernel
theorem dX4_brackets_282 : decode cX4_brackets 282 = .ok (.isub, 1) := by decide +kernel
theorem dX4_brackets_283 : decode cX4_brackets 283 = .ok (.invokestatic 130, 3) := by decide +kernel
theorem dX4_brackets_286 : decode cX4_brackets 286 = .ok (.isub, 1) := by decide +kernel
theorem dX4_brackets_287 : decode cX4_brackets 287 = .ok (.invokevirtual 99, 3) := by decide +kernel
theorem dX4_brackets_290 : decode cX4_brackets 290 = .ok (.aload_n 0, 1) := by decide +kernel
theorem dX4_brackets_291 : decode cX4_brackets 291 = .ok (.iload_n 3, 1) := by decide +kernel
theorem dX4_brackets_292 : decode cX4_brackets 292 = .ok (.aload_n 0, 1) := by decide +kernel
theorem dX4_brackets_293 : decode cX4_brackets 293 = .ok (.getfield 13, 3) := by decide +kernel
theorem dX4_brackets_296 : decode cX4_brackets 296 = .ok (.iload 10, 2) := by decide +kernel
theorem dX4_brackets_298 : decode cX4_brackets 298 = .ok (.iaload, 1) := by decide +kernel
theorem dX4_brackets_299 : decode cX4_brackets 299 = .ok (.iconst 0, 1) := by decide +kernel
theorem dX4_brackets_300 : decode cX4_brackets 300 = .ok (.invokevirtual 99, 3) := by decide +kernel
theorem dX4_brackets_303 : decode cX4_brackets 303 = .ok (.aload_n 0, 1) := by decide +kernel
theorem dX4_brackets_304 : decode cX4_brackets 304 = .ok (.iload 11, 2) := by decide +kernel
theorem dX4_brackets_306 : decode cX4_brackets 306 = .ok (.aload_n 0, 1) := by decide +kernel
theorem dX4_brackets_307 : decode cX4_brackets 307 = .ok (.getfield 13, 3) := by decide +kernel
theorem dX4_brackets_310 : decode cX4_brackets 310 = .ok (.iload 10, 2) := by decide +kernel
theorem dX4_brackets_312 : decode cX4_brackets 312 = .ok (.iaload, 1) := by decide +kernel
theorem dX4_brackets_313 : decode cX4_brackets 313 = .ok (.aload_n 0, 1) := by decide +kernel
theorem dX4_brackets_314 : decode cX4_brackets 314 = .ok (.getfield 13, 3) := by decide +kernel
theorem dX4_brackets_317 : decode cX4_brackets 317 = .ok (.iload_n 3, 1) := by decide +kernel
theorem dX4_brackets_318 : decode cX4_brackets 318 = .ok (.iaload, 1) := by decide +kernel
theorem dX4_brackets_319 : decode cX4_brackets 319 = .ok (.iadd, 1) := by decide +kernel
theorem dX4_brackets_320 : decode cX4_brackets 320 = .ok (.aload_n 0, 1) := by decide +kernel
theorem dX4_brackets_321 : decode cX4_brackets 321 = .ok (.iconst 0, 1) := by decide +kernel
theorem dX4_brackets_322 : decode cX4_brackets 322 = .ok (.invokevirtual 127, 3) := by decide +kernel
theorem dX4_brackets_325 : decode cX4_brackets 325 = .ok (.aload_n 0, 1) := by decide +kernel
theorem dX4_brackets_326 : decode cX4_brackets 326 = .ok (.getfield 16, 3) := by decide +kernel
theorem dX4_brackets_329 : decode cX4_brackets 329 = .ok (.iload 11, 2) := by decide +kernel
theorem dX4_brackets_331 : decode cX4_brackets 331 = .ok (.iaload, 1) := by decide +kernel
theorem dX4_brackets_332 : decode cX4_brackets 332 = .ok (.aload_n 0, 1) := by decide +kernel
theorem dX4_brackets_333 : decode cX4_brackets 333 = .ok (.getfield 19, 3) := by decide +kernel
theorem dX4_brackets_336 : decode cX4_brackets 336 = .ok (.iload 11, 2) := by decide +kernel
theorem dX4_brackets_338 : decode cX4_brackets 338 = .ok (.iaload, 1) := by decide +kernel
theorem dX4_brackets_339 : decode cX4_brackets 339 = .ok (.isub, 1) := by decide +kernel
theorem dX4_brackets_340 : decode cX4_brackets 340 = .ok (.invokestatic 130, 3) := by decide +kernel
theorem dX4_brackets_343 : decode cX4_brackets 343 = .ok (.isub, 1) := by decide +kernel
theorem dX4_brackets_344 : decode cX4_brackets 344 = .ok (.invokevirtual 99, 3) := by decide +kernel
theorem dX4_brackets_347 : decode cX4_brackets 347 = .ok (.aload_n 0, 1) := by decide +kernel
theorem dX4_brackets_348 : decode cX4_brackets 348 = .ok (.invokevirtual 136, 3) := by decide +kernel
theorem dX4_brackets_351 : decode cX4_brackets 351 = .ok (.iload 12, 2) := by decide +kernel
theorem dX4_brackets_353 : decode cX4_brackets 353 = .ok (.ireturn, 1) := by decide +kernel
theorem dX4_row_0 : decode cX4_row 0 = .ok (.aload_n 0, 1) := by decide +kernel
theorem dX4_row_1 : decode cX4_row 1 = .ok (.aload_n 0, 1) := by decide +kernel
theorem dX4_row_2 : decode cX4_row 2 = .ok (.iload_n 1, 1) := by decide +kernel
theorem dX4_row_3 : decode cX4_row 3 = .ok (.invokevirtual 67, 3) := by decide +kernel
theorem dX4_row_6 : decode cX4_row 6 = .ok (.ifCond .eq (11), 3) := by decide +kernel
theorem dX4_row_9 : decode cX4_row 9 = .ok (.aload_n 0, 1) := by decide +kernel
theorem dX4_row_10 : decode cX4_row 10 = .ok (.iload_n 3, 1) := by decide +kernel
theorem dX4_row_11 : decode cX4_row 11 = .ok (.invokevirtual 67, 3) := by decide +kernel
theorem dX4_row_14 : decode cX4_row 14 = .ok (.ifCond .ne (7), 3) := by decide +kernel
theorem dX4_row_17 : decode cX4_row 17 = .ok (.iconst 1, 1) := by decide +kernel
theorem dX4_row_18 : decode cX4_row 18 = .ok (.goto (32), 3) := by decide +kernel
theorem dX4_row_21 : decode cX4_row 21 = .ok (.iload_n 2, 1) := by decide +kernel
theorem dX4_row_22 : decode cX4_row 22 = .ok (.ldc 74, 2) := by decide +kernel
theorem dX4_row_24 : decode cX4_row 24 = .ok (.ldc 75, 2) := by decide +kernel
theorem dX4_row_26 : decode cX4_row 26 = .ok (.invokestatic 63, 3) := by decide +kernel
theorem dX4_row_29 : decode cX4_row 29 = .ok (.ifCond .ne (7), 3) := by decide +kernel
theorem dX4_row_32 : decode cX4_row 32 = .ok (.iconst 2, 1) := by decide +kernel
theorem dX4_row_33 : decode cX4_row 33 = .ok (.goto (17), 3) := by decide +kernel
theorem dX4_row_36 : decode cX4_row 36 = .ok (.aload_n 0, 1) := by decide +kernel
theorem dX4_row_37 : decode cX4_row 37 = .ok (.getfield 56, 3) := by decide +kernel
theorem dX4_row_40 : decode cX4_row 40 = .ok (.bipush (120), 2) := by decide +kernel
theorem dX4_row_42 : decode cX4_row 42 = .ok (.if_icmp .ne (7), 3) := by decide +kernel
theorem dX4_row_45 : decode cX4_row 45 = .ok (.iconst 3, 1) := by decide +kernel
theorem dX4_row_46 : decode cX4_row 46 = .ok (.goto (4), 3) := by decide +kernel
theorem dX4_row_49 : decode cX4_row 49 = .ok (.iconst 0, 1) := by decide +kernel
theorem dX4_row_50 : decode cX4_row 50 = .ok (.putfield 60, 3) := by decide +kernel
theorem dX4_row_53 : decode cX4_row 53 = .ok (.aload_n 0, 1) := by decide +kernel
theorem dX4_row_54 : decode cX4_row 54 = .ok (.getfield 60, 3) := by decide +kernel
theorem dX4_row_57 : decode cX4_row 57 = .ok (.ifCond .le (5), 3) := by decide +kernel
theorem dX4_row_60 : decode cX4_row 60 = .ok (.iconst 0, 1) := by decide +kernel
theorem dX4_row_61 : decode cX4_row 61 = .ok (.ireturn, 1) := by decide +kernel
theorem dX4_row_62 : decode cX4_row 62 = .ok (.aload_n 0, 1) := by decide +kernel
theorem dX4_row_63 : decode cX4_row 63 = .ok (.aload_n 0, 1) := by decide +kernel
theorem dX4_row_64 : decode cX4_row 64 = .ok (.getfield 13, 3) := by decide +kernel
theorem dX4_row_67 : decode cX4_row 67 = .ok (.iload_n 1, 1) := by decide +kernel
theorem dX4_row_68 : decode cX4_row 68 = .ok (.iaload, 1) := by decide +kernel
theorem dX4_row_69 : decode cX4_row 69 = .ok (.iload_n 2, 1) := by decide +kernel
theorem dX4_row_70 : decode cX4_row 70 = .ok (.iadd, 1) := by decide +kernel
theorem dX4_row_71 : decode cX4_row 71 = .ok (.aload_n 0, 1) := by decide +kernel
theorem dX4_row_72 : decode cX4_row 72 = .ok (.getfield 13, 3) := by decide +kernel
theorem dX4_row_75 : decode cX4_row 75 = .ok (.iload_n 3, 1) := by decide +kernel
theorem dX4_row_76 : decode cX4_row 76 = .ok (.iaload, 1) := by decide +kernel
theorem dX4_row_77 : decode cX4_row 77 = .ok (.iadd, 1) := by decide +kernel
theorem dX4_row_78 : decode cX4_row 78 = .ok (.iconst 0, 1) := by decide +kernel
theorem dX4_row_79 : decode cX4_row 79 = .ok (.iconst 0, 1) := by decide +kernel
theorem dX4_row_80 : decode cX4_row 80 = .ok (.invokevirtual 85, 3) := by decide +kernel
theorem dX4_row_83 : decode cX4_row 83 = .ok (.istore 4, 2) := by decide +kernel
theorem dX4_row_85 : decode cX4_row 85 = .ok (.aload_n 0, 1) := by decide +kernel
theorem dX4_row_86 : decode cX4_row 86 = .ok (.iload_n 1, 1) := by decide +kernel
theorem dX4_row_87 : decode cX4_row 87 = .ok (.iconst 0, 1) := by decide +kernel
theorem dX4_row_88 : decode cX4_row 88 = .ok (.iconst 0, 1) := by decide +kernel
theorem dX4_row_89 : decode cX4_row 89 = .ok (.invokevirtual 99, 3) := by decide +kernel
theorem dX4_row_92 : decode cX4_row 92 = .ok (.aload_n 0, 1) := by decide +kernel
theorem dX4_row_93 : decode cX4_row 93 = .ok (.iload_n 3, 1) := by decide +kernel
theorem dX4_row_94 : decode cX4_row 94 = .ok (.aload_n 0, 1) := by decide +kernel
theorem dX4_row_95 : decode cX4_row 95 = .ok (.getfield 13, 3) := by decide +kernel
theorem dX4_row_98 : decode cX4_row 98 = .ok (.iload_n 1, 1) := by decide +kernel
theorem dX4_row_99 : decode cX4_row 99 = .ok (.iaload, 1) := by decide +kernel
theorem dX4_row_100 : decode cX4_row 100 = .ok (.iload_n 2, 1) := by decide +kernel
theorem dX4_row_101 : decode cX4_row 101 = .ok (.iadd, 1) := by decide +kernel
theorem dX4_row_102 : decode cX4_row 102 = .ok (.iconst 0, 1) := by decide +kernel
theorem dX4_row_103 : decode cX4_row 103 = .ok (.invokevirtual 99, 3) := by decide +kernel
theorem dX4_row_106 : decode cX4_row 106 = .ok (.aload_n 0, 1) := by decide +kernel
theorem dX4_row_107 : decode cX4_row 107 = .ok (.invokevirtual 136, 3) := by decide +kernel
theorem dX4_row_110 : decode cX4_row 110 = .ok (.iload 4, 2) := by decide +kernel
theorem dX4_row_112 : decode cX4_row 112 = .ok (.ireturn, 1) := by decide +kernel
theorem dX4_centre_0 : decode cX4_centre 0 = .ok (.aload_n 0, 1) := by decide +kernel
theorem dX4_centre_1 : decode cX4_centre 1 = .ok (.aload_n 0, 1) := by decide +kernel
theorem dX4_centre_2 : decode cX4_centre 2 = .ok (.iload_n 2, 1) := by decide +kernel
theorem dX4_centre_3 : decode cX4_centre 3 = .ok (.invokevirtual 67, 3) := by decide +kernel
theorem dX4_centre_6 : decode cX4_centre 6 = .ok (.ifCond .ne (7), 3) := by decide +kernel
theorem dX4_centre_9 : decode cX4_centre 9 = .ok (.iconst 1, 1) := by decide +kernel
theorem dX4_centre_10 : decode cX4_centre 10 = .ok (.goto (28), 3) := by decide +kernel
theorem dX4_centre_13 : decode cX4_centre 13 = .ok (.iload_n 1, 1) := by decide +kernel
theorem dX4_centre_14 : decode cX4_centre 14 = .ok (.invokestatic 121, 3) := by decide +kernel
theorem dX4_centre_17 : decode cX4_centre 17 = .ok (.ifCond .ne (7), 3) := by decide +kernel
theorem dX4_centre_20 : decode cX4_centre 20 = .ok (.iconst 2, 1) := by decide +kernel
theorem dX4_centre_21 : decode cX4_centre 21 = .ok (.goto (17), 3) := by decide +kernel
theorem dX4_centre_24 : decode cX4_centre 24 = .ok (.aload_n 0, 1) := by decide +kernel
theorem dX4_centre_25 : decode cX4_centre 25 = .ok (.getfield 56, 3) := by decide +kernel
theorem dX4_centre_28 : decode cX4_centre 28 = .ok (.bipush (120), 2) := by decide +kernel
theorem dX4_centre_30 : decode cX4_centre 30 = .ok (.if_icmp .ne (7), 3) := by decide +kernel
theorem dX4_centre_33 : decode cX4_centre 33 = .ok (.iconst 3, 1) := by decide +kernel
theorem dX4_centre_34 : decode cX4_centre 34 = .ok (.goto (4), 3) := by decide +kernel
theorem dX4_centre_37 : decode cX4_centre 37 = .ok (.iconst 0, 1) := by decide +kernel
theorem dX4_centre_38 : decode cX4_centre 38 = .ok (.putfield 60, 3) := by decide +kernel
theorem dX4_centre_41 : decode cX4_centre 41 = .ok (.aload_n 0, 1) := by decide +kernel
theorem dX4_centre_42 : decode cX4_centre 42 = .ok (.getfield 60, 3) := by decide +kernel
theorem dX4_centre_45 : decode cX4_centre 45 = .ok (.ifCond .le (5), 3) := by decide +kernel
theorem dX4_centre_48 : decode cX4_centre 48 = .ok (.iconst 0, 1) := by decide +kernel
theorem dX4_centre_49 : decode cX4_centre 49 = .ok (.ireturn, 1) := by decide +kernel
theorem dX4_centre_50 : decode cX4_centre 50 = .ok (.aload_n 0, 1) := by decide +kernel
theorem dX4_centre_51 : decode cX4_centre 51 = .ok (.iload_n 1, 1) := by decide +kernel
theorem dX4_centre_52 : decode cX4_centre 52 = .ok (.invokevirtual 124, 3) := by decide +kernel
theorem dX4_centre_55 : decode cX4_centre 55 = .ok (.aload_n 0, 1) := by decide +kernel
theorem dX4_centre_56 : decode cX4_centre 56 = .ok (.aload_n 0, 1) := by decide +kernel
theorem dX4_centre_57 : decode cX4_centre 57 = .ok (.getfield 13, 3) := by decide +kernel
theorem dX4_centre_60 : decode cX4_centre 60 = .ok (.iload_n 2, 1) := by decide +kernel
theorem dX4_centre_61 : decode cX4_centre 61 = .ok (.iaload, 1) := by decide +kernel
theorem dX4_centre_62 : decode cX4_centre 62 = .ok (.iconst 0, 1) := by decide +kernel
theorem dX4_centre_63 : decode cX4_centre 63 = .ok (.iconst 0, 1) := by decide +kernel
theorem dX4_centre_64 : decode cX4_centre 64 = .ok (.invokevirtual 85, 3) := by decide +kernel
theorem dX4_centre_67 : decode cX4_centre 67 = .ok (.istore_n 3, 1) := by decide +kernel
theorem dX4_centre_68 : decode cX4_centre 68 = .ok (.aload_n 0, 1) := by decide +kernel
theorem dX4_centre_69 : decode cX4_centre 69 = .ok (.iload_n 2, 1) := by decide +kernel
theorem dX4_centre_70 : decode cX4_centre 70 = .ok (.iconst 0, 1) := by decide +kernel
theorem dX4_centre_71 : decode cX4_centre 71 = .ok (.aload_n 0, 1) := by decide +kernel
theorem dX4_centre_72 : decode cX4_centre 72 = .ok (.iconst 0, 1) := by decide +kernel
theorem dX4_centre_73 : decode cX4_centre 73 = .ok (.invokevirtual 127, 3) := by decide +kernel
theorem dX4_centre_76 : decode cX4_centre 76 = .ok (.aload_n 0, 1) := by decide +kernel
theorem dX4_centre_77 : decode cX4_centre 77 = .ok (.getfield 16, 3) := by decide +kernel
theorem dX4_centre_80 : decode cX4_centre 80 = .ok (.iload_n 2, 1) := by decide +kernel
theorem dX4_centre_81 : decode cX4_centre 81 = .ok (.iaload, 1) := by decide +kernel
theorem dX4_centre_82 : decode cX4_centre 82 = .ok (.aload_n 0, 1) := by decide +kernel
theorem dX4_centre_83 : decode cX4_centre 83 = .ok (.getfield 19, 3) := by decide +kernel
theorem dX4_centre_86 : decode cX4_centre 86 = .ok (.iload_n 2, 1) := by decide +kernel
theorem dX4_centre_87 : decode cX4_centre 87 = .ok (.iaload, 1) := by decide +kernel
theorem dX4_centre_88 : decode cX4_centre 88 = .ok (.isub, 1) := by decide +kernel
theorem dX4_centre_89 : decode cX4_centre 89 = .ok (.invokestatic 130, 3) := by decide +kernel
theorem dX4_centre_92 : decode cX4_centre 92 = .ok (.isub, 1) := by decide +kernel
theorem dX4_centre_93 : decode cX4_centre 93 = .ok (.invokevirtual 99, 3) := by decide +kernel
theorem dX4_centre_96 : decode cX4_centre 96 = .ok (.aload_n 0, 1) := by decide +kernel
theorem dX4_centre_97 : decode cX4_centre 97 = .ok (.invokevirtual 136, 3) := by decide +kernel
theorem dX4_centre_100 : decode cX4_centre 100 = .ok (.iload_n 3, 1) := by decide +kernel
theorem dX4_centre_101 : decode cX4_centre 101 = .ok (.ireturn, 1) := by decide +kernel
theorem dX4_told_0 : decode cX4_told 0 = .ok (.aload_n 0, 1) := by decide +kernel
theorem dX4_told_1 : decode cX4_told 1 = .ok (.aload_n 0, 1) := by decide +kernel
theorem dX4_told_2 : decode cX4_told 2 = .ok (.iload_n 1, 1) := by decide +kernel
theorem dX4_told_3 : decode cX4_told 3 = .ok (.invokevirtual 67, 3) := by decide +kernel
theorem dX4_told_6 : decode cX4_told 6 = .ok (.ifCond .eq (16), 3) := by decide +kernel
theorem dX4_told_9 : decode cX4_told 9 = .ok (.iload_n 2, 1) := by decide +kernel
theorem dX4_told_10 : decode cX4_told 10 = .ok (.iconst 0, 1) := by decide +kernel
theorem dX4_told_11 : decode cX4_told 11 = .ok (.iconst 3, 1) := by decide +kernel
theorem dX4_told_12 : decode cX4_told 12 = .ok (.invokestatic 63, 3) := by decide +kernel
theorem dX4_told_15 : decode cX4_told 15 = .ok (.ifCond .eq (7), 3) := by decide +kernel
theorem dX4_told_18 : decode cX4_told 18 = .ok (.iconst 0, 1) := by decide +kernel
theorem dX4_told_19 : decode cX4_told 19 = .ok (.goto (4), 3) := by decide +kernel
theorem dX4_told_22 : decode cX4_told 22 = .ok (.iconst 1, 1) := by decide +kernel
theorem dX4_told_23 : decode cX4_told 23 = .ok (.putfield 60, 3) := by decide +kernel
theorem dX4_told_26 : decode cX4_told 26 = .ok (.aload_n 0, 1) := by decide +kernel
theorem dX4_told_27 : decode cX4_told 27 = .ok (.getfield 60, 3) := by decide +kernel
theorem dX4_told_30 : decode cX4_told 30 = .ok (.ifCond .le (5), 3) := by decide +kernel
theorem dX4_told_33 : decode cX4_told 33 = .ok (.iconst 0, 1) := by decide +kernel
theorem dX4_told_34 : decode cX4_told 34 = .ok (.ireturn, 1) := by decide +kernel
theorem dX4_told_35 : decode cX4_told 35 = .ok (.iload_n 2, 1) := by decide +kernel
theorem dX4_told_36 : decode cX4_told 36 = .ok (.ifCond .ne (12), 3) := by decide +kernel
theorem dX4_told_39 : decode cX4_told 39 = .ok (.aload_n 0, 1) := by decide +kernel
theorem dX4_told_40 : decode cX4_told 40 = .ok (.getfield 13, 3) := by decide +kernel
theorem dX4_told_43 : decode cX4_told 43 = .ok (.iload_n 1, 1) := by decide +kernel
theorem dX4_told_44 : decode cX4_told 44 = .ok (.iaload, 1) := by decide +kernel
theorem dX4_told_45 : decode cX4_told 45 = .ok (.goto (37), 3) := by decide +kernel
theorem dX4_told_48 : decode cX4_told 48 = .ok (.iload_n 2, 1) := by decide +kernel
theorem dX4_told_49 : decode cX4_told 49 = .ok (.iconst 1, 1) := by decide +kernel
theorem dX4_told_50 : decode cX4_told 50 = .ok (.if_icmp .ne (12), 3) := by decide +kernel
theorem dX4_told_53 : decode cX4_told 53 = .ok (.aload_n 0, 1) := by decide +kernel
theorem dX4_told_54 : decode cX4_told 54 = .ok (.getfield 16, 3) := by decide +kernel
theorem dX4_told_57 : decode cX4_told 57 = .ok (.iload_n 1, 1) := by decide +kernel
theorem dX4_told_58 : decode cX4_told 58 = .ok (.iaload, 1) := by decide +kernel
theorem dX4_told_59 : decode cX4_told 59 = .ok (.goto (23), 3) := by decide +kernel
theorem dX4_told_62 : decode cX4_told 62 = .ok (.iload_n 2, 1) := by decide +kernel
theorem dX4_told_63 : decode cX4_told 63 = .ok (.iconst 2, 1) := by decide +kernel
theorem dX4_told_64 : decode cX4_told 64 = .ok (.if_icmp .ne (12), 3) := by decide +kernel
theorem dX4_told_67 : decode cX4_told 67 = .ok (.aload_n 0, 1) := by decide +kernel
theorem dX4_told_68 : decode cX4_told 68 = .ok (.getfield 19, 3) := by decide +kernel
theorem dX4_told_71 : decode cX4_told 71 = .ok (.iload_n 1, 1) := by decide +kernel
theorem dX4_told_72 : decode cX4_told 72 = .ok (.iaload, 1) := by decide +kernel
theorem dX4_told_73 : decode cX4_told 73 = .ok (.goto (9), 3) := by decide +kernel
theorem dX4_told_76 : decode cX4_told 76 = .ok (.aload_n 0, 1) := by decide +kernel
theorem dX4_told_77 : decode cX4_told 77 = .ok (.getfield 25, 3) := by decide +kernel
theorem dX4_told_80 : decode cX4_told 80 = .ok (.iload_n 1, 1) := by decide +kernel
theorem dX4_told_81 : decode cX4_told 81 = .ok (.iaload, 1) := by decide +kernel
theorem dX4_told_82 : decode cX4_told 82 = .ok (.ireturn, 1) := by decide +kernel
theorem dX4_part_0 : decode cX4_part 0 = .ok (.aload_n 0, 1) := by decide +kernel
theorem dX4_part_1 : decode cX4_part 1 = .ok (.aload_n 0, 1) := by decide +kernel
theorem dX4_part_2 : decode cX4_part 2 = .ok (.iload_n 1, 1) := by decide +kernel
theorem dX4_part_3 : decode cX4_part 3 = .ok (.invokevirtual 67, 3) := by decide +kernel
theorem dX4_part_6 : decode cX4_part 6 = .ok (.ifCond .eq (16), 3) := by decide +kernel
theorem dX4_part_9 : decode cX4_part 9 = .ok (.iload_n 3, 1) := by decide +kernel
theorem dX4_part_10 : decode cX4_part 10 = .ok (.iconst 0, 1) := by decide +kernel
theorem dX4_part_11 : decode cX4_part 11 = .ok (.iconst 5, 1) := by decide +kernel
theorem dX4_part_12 : decode cX4_part 12 = .ok (.invokestatic 63, 3) := by decide +kernel
theorem dX4_part_15 : decode cX4_part 15 = .ok (.ifCond .eq (7), 3) := by decide +kernel
theorem dX4_part_18 : decode cX4_part 18 = .ok (.iconst 0, 1) := by decide +kernel
theorem dX4_part_19 : decode cX4_part 19 = .ok (.goto (4), 3) := by decide +kernel
theorem dX4_part_22 : decode cX4_part 22 = .ok (.iconst 1, 1) := by decide +kernel
theorem dX4_part_23 : decode cX4_part 23 = .ok (.putfield 60, 3) := by decide +kernel
theorem dX4_part_26 : decode cX4_part 26 = .ok (.aload_n 0, 1) := by decide +kernel
theorem dX4_part_27 : decode cX4_part 27 = .ok (.aload_n 0, 1) := by decide +kernel
theorem dX4_part_28 : decode cX4_part 28 = .ok (.getfield 60, 3) := by decide +kernel
theorem dX4_part_31 : decode cX4_part 31 = .ok (.ifCond .ne (23), 3) := by decide +kernel
theorem dX4_part_34 : decode cX4_part 34 = .ok (.iload_n 2, 1) := by decide +kernel
theorem dX4_part_35 : decode cX4_part 35 = .ok (.iconst 0, 1) := by decide +kernel
theorem dX4_part_36 : decode cX4_part 36 = .ok (.aload_n 0, 1) := by decide +kernel
theorem dX4_part_37 : decode cX4_part 37 = .ok (.getfield 25, 3) := by decide +kernel
theorem dX4_part_40 : decode cX4_part 40 = .ok (.iload_n 1, 1) := by decide +kernel
theorem dX4_part_41 : decode cX4_part 41 = .ok (.iaload, 1) := by decide +kernel
theorem dX4_part_42 : decode cX4_part 42 = .ok (.iconst 1, 1) := by decide +kernel
theorem dX4_part_43 : decode cX4_part 43 = .ok (.isub, 1) := by decide +kernel
theorem dX4_part_44 : decode cX4_part 44 = .ok (.invokestatic 63, 3) := by decide +kernel
theorem dX4_part_47 : decode cX4_part 47 = .ok (.ifCond .eq (7), 3) := by decide +kernel
theorem dX4_part_50 : decode cX4_part 50 = .ok (.iconst 0, 1) := by decide +kernel
theorem dX4_part_51 : decode cX4_part 51 = .ok (.goto (4), 3) := by decide +kernel
theorem dX4_part_54 : decode cX4_part 54 = .ok (.iconst 1, 1) := by decide +kernel
theorem dX4_part_55 : decode cX4_part 55 = .ok (.putfield 60, 3) := by decide +kernel
theorem dX4_part_58 : decode cX4_part 58 = .ok (.aload_n 0, 1) := by decide +kernel
theorem dX4_part_59 : decode cX4_part 59 = .ok (.getfield 60, 3) := by decide +kernel
theorem dX4_part_62 : decode cX4_part 62 = .ok (.ifCond .le (5), 3) := by decide +kernel
theorem dX4_part_65 : decode cX4_part 65 = .ok (.iconst 0, 1) := by decide +kernel
theorem dX4_part_66 : decode cX4_part 66 = .ok (.ireturn, 1) := by decide +kernel
theorem dX4_part_67 : decode cX4_part 67 = .ok (.aload_n 0, 1) := by decide +kernel
theorem dX4_part_68 : decode cX4_part 68 = .ok (.getfield 22, 3) := by decide +kernel
theorem dX4_part_71 : decode cX4_part 71 = .ok (.iload_n 1, 1) := by decide +kernel
theorem dX4_part_72 : decode cX4_part 72 = .ok (.iaload, 1) := by decide +kernel
theorem dX4_part_73 : decode cX4_part 73 = .ok (.iload_n 2, 1) := by decide +kernel
theorem dX4_part_74 : decode cX4_part 74 = .ok (.iadd, 1) := by decide +kernel
theorem dX4_part_75 : decode cX4_part 75 = .ok (.istore 4, 2) := by decide +kernel
theorem dX4_part_77 : decode cX4_part 77 = .ok (.aload_n 0, 1) := by decide +kernel
theorem dX4_part_78 : decode cX4_part 78 = .ok (.getfield 34, 3) := by decide +kernel
theorem dX4_part_81 : decode cX4_part 81 = .ok (.iload 4, 2) := by decide +kernel
theorem dX4_part_83 : decode cX4_part 83 = .ok (.iaload, 1) := by decide +kernel
theorem dX4_part_84 : decode cX4_part 84 = .ok (.istore 5, 2) := by decide +kernel
theorem dX4_part_86 : decode cX4_part 86 = .ok (.iload_n 3, 1) := by decide +kernel
theorem dX4_part_87 : decode cX4_part 87 = .ok (.iconst 3, 1) := by decide +kernel
theorem dX4_part_88 : decode cX4_part 88 = .ok (.if_icmp .ge (35), 3) := by decide +kernel
theorem dX4_part_91 : decode cX4_part 91 = .ok (.iload_n 3, 1) := by decide +kernel
theorem dX4_part_92 : decode cX4_part 92 = .ok (.ifCond .ne (8), 3) := by decide +kernel
theorem dX4_part_95 : decode cX4_part 95 = .ok (.iload 5, 2) := by decide +kernel
theorem dX4_part_97 : decode cX4_part 97 = .ok (.goto (25), 3) := by decide +kernel
theorem dX4_part_100 : decode cX4_part 100 = .ok (.iload_n 3, 1) := by decide +kernel
theorem dX4_part_101 : decode cX4_part 101 = .ok (.iconst 1, 1) := by decide +kernel
theorem dX4_part_102 : decode cX4_part 102 = .ok (.if_icmp .ne (13), 3) := by decide +kernel
theorem dX4_part_105 : decode cX4_part 105 = .ok (.aload_n 0, 1) := by decide +kernel
theorem dX4_part_106 : decode cX4_part 106 = .ok (.getfield 37, 3) := by decide +kernel
theorem dX4_part_109 : decode cX4_part 109 = .ok (.iload 4, 2) := by decide +kernel
theorem dX4_part_111 : decode cX4_part 111 = .ok (.iaload, 1) := by decide +kernel
theorem dX4_part_112 : decode cX4_part 112 = .ok (.goto (10), 3) := by decide +kernel
theorem dX4_part_115 : decode cX4_part 115 = .ok (.aload_n 0, 1) := by decide +kernel
theorem dX4_part_116 : decode cX4_part 116 = .ok (.getfield 40, 3) := by decide +kernel
theorem dX4_part_119 : decode cX4_part 119 = .ok (.iload 4, 2) := by decide +kernel
theorem dX4_part_121 : decode cX4_part 121 = .ok (.iaload, 1) := by decide +kernel
theorem dX4_part_122 : decode cX4_part 122 = .ok (.ireturn, 1) := by decide +kernel
theorem dX4_part_123 : decode cX4_part 123 = .ok (.iload 5, 2) := by decide +kernel
theorem dX4_part_125 : decode cX4_part 125 = .ok (.iconst (-1), 1) := by decide +kernel
theorem dX4_part_126 : decode cX4_part 126 = .ok (.if_icmp .ne (33), 3) := by decide +kernel
theorem dX4_part_129 : decode cX4_part 129 = .ok (.iload_n 3, 1) := by decide +kernel
theorem dX4_part_130 : decode cX4_part 130 = .ok (.iconst 3, 1) := by decide +kernel
theorem dX4_part_131 : decode cX4_part 131 = .ok (.if_icmp .ne (12), 3) := by decide +kernel
theorem dX4_part_134 : decode cX4_part 134 = .ok (.aload_n 0, 1) := by decide +kernel
theorem dX4_part_135 : decode cX4_part 135 = .ok (.getfield 28, 3) := by decide +kernel
theorem dX4_part_138 : decode cX4_part 138 = .ok (.iload_n 1, 1) := by decide +kernel
theorem dX4_part_139 : decode cX4_part 139 = .ok (.iaload, 1) := by decide +kernel
theorem dX4_part_140 : decode cX4_part 140 = .ok (.goto (18), 3) := by decide +kernel
theorem dX4_part_143 : decode cX4_part 143 = .ok (.iload_n 3, 1) := by decide +kernel
theorem dX4_part_144 : decode cX4_part 144 = .ok (.iconst 4, 1) := by decide +kernel
theorem dX4_part_145 : decode cX4_part 145 = .ok (.if_icmp .ne (12), 3) := by decide +kernel
theorem dX4_part_148 : decode cX4_part 148 = .ok (.aload_n 0, 1) := by decide +kernel
theorem dX4_part_149 : decode cX4_part 149 = .ok (.getfield 31, 3) := by decide +kernel
theorem dX4_part_152 : decode cX4_part 152 = .ok (.iload_n 1, 1) := by decide +kernel
theorem dX4_part_153 : decode cX4_part 153 = .ok (.iaload, 1) := by decide +kernel
theorem dX4_part_154 : decode cX4_part 154 = .ok (.goto (4), 3) := by decide +kernel
theorem dX4_part_157 : decode cX4_part 157 = .ok (.iconst 0, 1) := by decide +kernel
theorem dX4_part_158 : decode cX4_part 158 = .ok (.ireturn, 1) := by decide +kernel
theorem dX4_part_159 : decode cX4_part 159 = .ok (.iload_n 3, 1) := by decide +kernel
theorem dX4_part_160 : decode cX4_part 160 = .ok (.iconst 3, 1) := by decide +kernel
theorem dX4_part_161 : decode cX4_part 161 = .ok (.if_icmp .ne (13), 3) := by decide +kernel
theorem dX4_part_164 : decode cX4_part 164 = .ok (.aload_n 0, 1) := by decide +kernel
theorem dX4_part_165 : decode cX4_part 165 = .ok (.getfield 13, 3) := by decide +kernel
theorem dX4_part_168 : decode cX4_part 168 = .ok (.iload 5, 2) := by decide +kernel
theorem dX4_part_170 : decode cX4_part 170 = .ok (.iaload, 1) := by decide +kernel
theorem dX4_part_171 : decode cX4_part 171 = .ok (.goto (25), 3) := by decide +kernel
theorem dX4_part_174 : decode cX4_part 174 = .ok (.iload_n 3, 1) := by decide +kernel
theorem dX4_part_175 : decode cX4_part 175 = .ok (.iconst 4, 1) := by decide +kernel
theorem dX4_part_176 : decode cX4_part 176 = .ok (.if_icmp .ne (13), 3) := by decide +kernel
theorem dX4_part_179 : decode cX4_part 179 = .ok (.aload_n 0, 1) := by decide +kernel
theorem dX4_part_180 : decode cX4_part 180 = .ok (.getfield 16, 3) := by decide +kernel
theorem dX4_part_183 : decode cX4_part 183 = .ok (.iload 5, 2) := by decide +kernel
theorem dX4_part_185 : decode cX4_part 185 = .ok (.iaload, 1) := by decide +kernel
theorem dX4_part_186 : decode cX4_part 186 = .ok (.goto (10), 3) := by decide +kernel
theorem dX4_part_189 : decode cX4_part 189 = .ok (.aload_n 0, 1) := by decide +kernel
theorem dX4_part_190 : decode cX4_part 190 = .ok (.getfield 19, 3) := by decide +kernel
theorem dX4_part_193 : decode cX4_part 193 = .ok (.iload 5, 2) := by decide +kernel
theorem dX4_part_195 : decode cX4_part 195 = .ok (.iaload, 1) := by decide +kernel
theorem dX4_part_196 : decode cX4_part 196 = .ok (.ireturn, 1) := by decide +kernel
theorem dX4_boxes_0 : decode cX4_boxes 0 = .ok (.aload_n 0, 1) := by decide +kernel
theorem dX4_boxes_1 : decode cX4_boxes 1 = .ok (.iconst 0, 1) := by decide +kernel
theorem dX4_boxes_2 : decode cX4_boxes 2 = .ok (.putfield 60, 3) := by decide +kernel
theorem dX4_boxes_5 : decode cX4_boxes 5 = .ok (.aload_n 0, 1) := by decide +kernel
theorem dX4_boxes_6 : decode cX4_boxes 6 = .ok (.getfield 56, 3) := by decide +kernel
theorem dX4_boxes_9 : decode cX4_boxes 9 = .ok (.ireturn, 1) := by decide +kernel
