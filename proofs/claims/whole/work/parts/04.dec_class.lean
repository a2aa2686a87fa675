theorem dX3_init_0 : decode cX3_init 0 = .ok (.aload_n 0, 1) := by decide +kernel
theorem dX3_init_1 : decode cX3_init 1 = .ok (.invokespecial 1, 3) := by decide +kernel
theorem dX3_init_4 : decode cX3_init 4 = .ok (.aload_n 0, 1) := by decide +kernel
theorem dX3_init_5 : decode cX3_init 5 = .ok (.bipush (120), 2) := by decide +kernel
theorem dX3_init_7 : decode cX3_init 7 = .ok (.anewarray 9, 3) := by decide +kernel
theorem dX3_init_10 : decode cX3_init 10 = .ok (.putfield 11, 3) := by decide +kernel
theorem dX3_init_13 : decode cX3_init 13 = .ok (.aload_n 0, 1) := by decide +kernel
theorem dX3_init_14 : decode cX3_init 14 = .ok (.bipush (8), 2) := by decide +kernel
theorem dX3_init_16 : decode cX3_init 16 = .ok (.anewarray 15, 3) := by decide +kernel
theorem dX3_init_19 : decode cX3_init 19 = .ok (.putfield 17, 3) := by decide +kernel
theorem dX3_init_22 : decode cX3_init 22 = .ok (.iconst 0, 1) := by decide +kernel
theorem dX3_init_23 : decode cX3_init 23 = .ok (.istore_n 1, 1) := by decide +kernel
theorem dX3_init_24 : decode cX3_init 24 = .ok (.iload_n 1, 1) := by decide +kernel
theorem dX3_init_25 : decode cX3_init 25 = .ok (.bipush (8), 2) := by decide +kernel
theorem dX3_init_27 : decode cX3_init 27 = .ok (.if_icmp .ge (22), 3) := by decide +kernel
theorem dX3_init_30 : decode cX3_init 30 = .ok (.aload_n 0, 1) := by decide +kernel
theorem dX3_init_31 : decode cX3_init 31 = .ok (.getfield 17, 3) := by decide +kernel
theorem dX3_init_34 : decode cX3_init 34 = .ok (.iload_n 1, 1) := by decide +kernel
theorem dX3_init_35 : decode cX3_init 35 = .ok (.new 15, 3) := by decide +kernel
theorem dX3_init_38 : decode cX3_init 38 = .ok (.dup, 1) := by decide +kernel
theorem dX3_init_39 : decode cX3_init 39 = .ok (.invokespecial 21, 3) := by decide +kernel
theorem dX3_init_42 : decode cX3_init 42 = .ok (.aastore, 1) := by decide +kernel
theorem dX3_init_43 : decode cX3_init 43 = .ok (.iinc 1 (1), 3) := by decide +kernel
theorem dX3_init_46 : decode cX3_init 46 = .ok (.goto (-22), 3) := by decide +kernel
theorem dX3_init_49 : decode cX3_init 49 = .ok (.aload_n 0, 1) := by decide +kernel
theorem dX3_init_50 : decode cX3_init 50 = .ok (.bipush (63), 2) := by decide +kernel
theorem dX3_init_52 : decode cX3_init 52 = .ok (.newarray .int, 2) := by decide +kernel
theorem dX3_init_54 : decode cX3_init 54 = .ok (.putfield 22, 3) := by decide +kernel
theorem dX3_init_57 : decode cX3_init 57 = .ok (.return_, 1) := by decide +kernel
theorem dX3_parameter_0 : decode cX3_parameter 0 = .ok (.iload_n 1, 1) := by decide +kernel
theorem dX3_parameter_1 : decode cX3_parameter 1 = .ok (.ifCond .lt (8), 3) := by decide +kernel
theorem dX3_parameter_4 : decode cX3_parameter 4 = .ok (.iload_n 1, 1) := by decide +kernel
theorem dX3_parameter_5 : decode cX3_parameter 5 = .ok (.iconst 3, 1) := by decide +kernel
theorem dX3_parameter_6 : decode cX3_parameter 6 = .ok (.if_icmp .lt (13), 3) := by decide +kernel
theorem dX3_parameter_9 : decode cX3_parameter 9 = .ok (.new 26, 3) := by decide +kernel
theorem dX3_parameter_12 : decode cX3_parameter 12 = .ok (.dup, 1) := by decide +kernel
theorem dX3_parameter_13 : decode cX3_parameter 13 = .ok (.ldc 28, 2) := by decide +kernel
theorem dX3_parameter_15 : decode cX3_parameter 15 = .ok (.invokespecial 30, 3) := by decide +kernel
theorem dX3_parameter_18 : decode cX3_parameter 18 = .ok (.athrow, 1) := by decide +kernel
theorem dX3_parameter_19 : decode cX3_parameter 19 = .ok (.iload_n 2, 1) := by decide +kernel
theorem dX3_parameter_20 : decode cX3_parameter 20 = .ok (.ifCond .lt (9), 3) := by decide +kernel
theorem dX3_parameter_23 : decode cX3_parameter 23 = .ok (.iload_n 2, 1) := by decide +kernel
theorem dX3_parameter_24 : decode cX3_parameter 24 = .ok (.bipush (21), 2) := by decide +kernel
theorem dX3_parameter_26 : decode cX3_parameter 26 = .ok (.if_icmp .lt (13), 3) := by decide +kernel
theorem dX3_parameter_29 : decode cX3_parameter 29 = .ok (.new 26, 3) := by decide +kernel
theorem dX3_parameter_32 : decode cX3_parameter 32 = .ok (.dup, 1) := by decide +kernel
theorem dX3_parameter_33 : decode cX3_parameter 33 = .ok (.ldc 33, 2) := by decide +kernel
theorem dX3_parameter_35 : decode cX3_parameter 35 = .ok (.invokespecial 30, 3) := by decide +kernel
theorem dX3_parameter_38 : decode cX3_parameter 38 = .ok (.athrow, 1) := by decide +kernel
theorem dX3_parameter_39 : decode cX3_parameter 39 = .ok (.iload_n 3, 1) := by decide +kernel
theorem dX3_parameter_40 : decode cX3_parameter 40 = .ok (.ldc 35, 2) := by decide +kernel
theorem dX3_parameter_42 : decode cX3_parameter 42 = .ok (.ldc 36, 2) := by decide +kernel
theorem dX3_parameter_44 : decode cX3_parameter 44 = .ok (.invokestatic 37, 3) := by decide +kernel
theorem dX3_parameter_47 : decode cX3_parameter 47 = .ok (.iload_n 1, 1) := by decide +kernel
theorem dX3_parameter_48 : decode cX3_parameter 48 = .ok (.bipush (21), 2) := by decide +kernel
theorem dX3_parameter_50 : decode cX3_parameter 50 = .ok (.imul, 1) := by decide +kernel
theorem dX3_parameter_51 : decode cX3_parameter 51 = .ok (.iload_n 2, 1) := by decide +kernel
theorem dX3_parameter_52 : decode cX3_parameter 52 = .ok (.iadd, 1) := by decide +kernel
theorem dX3_parameter_53 : decode cX3_parameter 53 = .ok (.istore 4, 2) := by decide +kernel
theorem dX3_parameter_55 : decode cX3_parameter 55 = .ok (.aload_n 0, 1) := by decide +kernel
theorem dX3_parameter_56 : decode cX3_parameter 56 = .ok (.getfield 22, 3) := by decide +kernel
theorem dX3_parameter_59 : decode cX3_parameter 59 = .ok (.iload 4, 2) := by decide +kernel
theorem dX3_parameter_61 : decode cX3_parameter 61 = .ok (.iaload, 1) := by decide +kernel
theorem dX3_parameter_62 : decode cX3_parameter 62 = .ok (.istore 5, 2) := by decide +kernel
theorem dX3_parameter_64 : decode cX3_parameter 64 = .ok (.aload_n 0, 1) := by decide +kernel
theorem dX3_parameter_65 : decode cX3_parameter 65 = .ok (.getfield 22, 3) := by decide +kernel
theorem dX3_parameter_68 : decode cX3_parameter 68 = .ok (.iload 4, 2) := by decide +kernel
theorem dX3_parameter_70 : decode cX3_parameter 70 = .ok (.iload_n 3, 1) := by decide +kernel
theorem dX3_parameter_71 : decode cX3_parameter 71 = .ok (.iastore, 1) := by decide +kernel
theorem dX3_parameter_72 : decode cX3_parameter 72 = .ok (.iload 5, 2) := by decide +kernel
theorem dX3_parameter_74 : decode cX3_parameter 74 = .ok (.ireturn, 1) := by decide +kernel
theorem dX3_set_0 : decode cX3_set 0 = .ok (.iload_n 1, 1) := by decide +kernel
theorem dX3_set_1 : decode cX3_set 1 = .ok (.ifCond .eq (18), 3) := by decide +kernel
theorem dX3_set_4 : decode cX3_set 4 = .ok (.iload_n 1, 1) := by decide +kernel
theorem dX3_set_5 : decode cX3_set 5 = .ok (.iconst 1, 1) := by decide +kernel
theorem dX3_set_6 : decode cX3_set 6 = .ok (.if_icmp .eq (13), 3) := by decide +kernel
theorem dX3_set_9 : decode cX3_set 9 = .ok (.new 26, 3) := by decide +kernel
theorem dX3_set_12 : decode cX3_set 12 = .ok (.dup, 1) := by decide +kernel
theorem dX3_set_13 : decode cX3_set 13 = .ok (.ldc 41, 2) := by decide +kernel
theorem dX3_set_15 : decode cX3_set 15 = .ok (.invokespecial 30, 3) := by decide +kernel
theorem dX3_set_18 : decode cX3_set 18 = .ok (.athrow, 1) := by decide +kernel
theorem dX3_set_19 : decode cX3_set 19 = .ok (.iload_n 2, 1) := by decide +kernel
theorem dX3_set_20 : decode cX3_set 20 = .ok (.iconst 0, 1) := by decide +kernel
theorem dX3_set_21 : decode cX3_set 21 = .ok (.ldc 36, 2) := by decide +kernel
theorem dX3_set_23 : decode cX3_set 23 = .ok (.invokestatic 37, 3) := by decide +kernel
theorem dX3_set_26 : decode cX3_set 26 = .ok (.iload_n 1, 1) := by decide +kernel
theorem dX3_set_27 : decode cX3_set 27 = .ok (.ifCond .ne (15), 3) := by decide +kernel
theorem dX3_set_30 : decode cX3_set 30 = .ok (.aload_n 0, 1) := by decide +kernel
theorem dX3_set_31 : decode cX3_set 31 = .ok (.getfield 43, 3) := by decide +kernel
theorem dX3_set_34 : decode cX3_set 34 = .ok (.istore_n 3, 1) := by decide +kernel
theorem dX3_set_35 : decode cX3_set 35 = .ok (.aload_n 0, 1) := by decide +kernel
theorem dX3_set_36 : decode cX3_set 36 = .ok (.iload_n 2, 1) := by decide +kernel
theorem dX3_set_37 : decode cX3_set 37 = .ok (.putfield 43, 3) := by decide +kernel
theorem dX3_set_40 : decode cX3_set 40 = .ok (.iload_n 3, 1) := by decide +kernel
theorem dX3_set_41 : decode cX3_set 41 = .ok (.ireturn, 1) := by decide +kernel
theorem dX3_set_42 : decode cX3_set 42 = .ok (.aload_n 0, 1) := by decide +kernel
theorem dX3_set_43 : decode cX3_set 43 = .ok (.getfield 47, 3) := by decide +kernel
theorem dX3_set_46 : decode cX3_set 46 = .ok (.istore_n 3, 1) := by decide +kernel
theorem dX3_set_47 : decode cX3_set 47 = .ok (.aload_n 0, 1) := by decide +kernel
theorem dX3_set_48 : decode cX3_set 48 = .ok (.iload_n 2, 1) := by decide +kernel
theorem dX3_set_49 : decode cX3_set 49 = .ok (.putfield 47, 3) := by decide +kernel
theorem dX3_set_52 : decode cX3_set 52 = .ok (.iload_n 3, 1) := by decide +kernel
theorem dX3_set_53 : decode cX3_set 53 = .ok (.ireturn, 1) := by decide +kernel
theorem dX3_box_0 : decode cX3_box 0 = .ok (.iload_n 1, 1) := by decide +kernel
theorem dX3_box_1 : decode cX3_box 1 = .ok (.iconst 0, 1) := by decide +kernel
theorem dX3_box_2 : decode cX3_box 2 = .ok (.ldc 36, 2) := by decide +kernel
theorem dX3_box_4 : decode cX3_box 4 = .ok (.invokestatic 37, 3) := by decide +kernel
theorem dX3_box_7 : decode cX3_box 7 = .ok (.iload_n 2, 1) := by decide +kernel
theorem dX3_box_8 : decode cX3_box 8 = .ok (.ldc 35, 2) := by decide +kernel
theorem dX3_box_10 : decode cX3_box 10 = .ok (.ldc 36, 2) := by decide +kernel
theorem dX3_box_12 : decode cX3_box 12 = .ok (.invokestatic 37, 3) := by decide +kernel
theorem dX3_box_15 : decode cX3_box 15 = .ok (.iload_n 3, 1) := by decide +kernel
theorem dX3_box_16 : decode cX3_box 16 = .ok (.ldc 35, 2) := by decide +kernel
theorem dX3_box_18 : decode cX3_box 18 = .ok (.ldc 36, 2) := by decide +kernel
theorem dX3_box_20 : decode cX3_box 20 = .ok (.invokestatic 37, 3) := by decide +kernel
theorem dX3_box_23 : decode cX3_box 23 = .ok (.aload_n 0, 1) := by decide +kernel
theorem dX3_box_24 : decode cX3_box 24 = .ok (.iconst 1, 1) := by decide +kernel
theorem dX3_box_25 : decode cX3_box 25 = .ok (.invokevirtual 50, 3) := by decide +kernel
theorem dX3_box_28 : decode cX3_box 28 = .ok (.aload_n 0, 1) := by decide +kernel
theorem dX3_box_29 : decode cX3_box 29 = .ok (.new 9, 3) := by decide +kernel
theorem dX3_box_32 : decode cX3_box 32 = .ok (.dup, 1) := by decide +kernel
theorem dX3_box_33 : decode cX3_box 33 = .ok (.iload_n 1, 1) := by decide +kernel
theorem dX3_box_34 : decode cX3_box 34 = .ok (.iload_n 2, 1) := by decide +kernel
theorem dX3_box_35 : decode cX3_box 35 = .ok (.iload_n 3, 1) := by decide +kernel
theorem dX3_box_36 : decode cX3_box 36 = .ok (.getstatic 54, 3) := by decide +kernel
theorem dX3_box_39 : decode cX3_box 39 = .ok (.invokespecial 57, 3) := by decide +kernel
theorem dX3_box_42 : decode cX3_box 42 = .ok (.invokevirtual 60, 3) := by decide +kernel
theorem dX3_box_45 : decode cX3_box 45 = .ok (.ireturn, 1) := by decide +kernel
theorem dX3_sign_0 : decode cX3_sign 0 = .ok (.iload_n 1, 1) := by decide +kernel
theorem dX3_sign_1 : decode cX3_sign 1 = .ok (.invokestatic 64, 3) := by decide +kernel
theorem dX3_sign_4 : decode cX3_sign 4 = .ok (.aload_n 0, 1) := by decide +kernel
theorem dX3_sign_5 : decode cX3_sign 5 = .ok (.iload_n 2, 1) := by decide +kernel
theorem dX3_sign_6 : decode cX3_sign 6 = .ok (.invokevirtual 67, 3) := by decide +kernel
theorem dX3_sign_9 : decode cX3_sign 9 = .ok (.aload_n 0, 1) := by decide +kernel
theorem dX3_sign_10 : decode cX3_sign 10 = .ok (.getfield 17, 3) := by decide +kernel
theorem dX3_sign_13 : decode cX3_sign 13 = .ok (.iload_n 1, 1) := by decide +kernel
theorem dX3_sign_14 : decode cX3_sign 14 = .ok (.aaload, 1) := by decide +kernel
theorem dX3_sign_15 : decode cX3_sign 15 = .ok (.astore_n 3, 1) := by decide +kernel
theorem dX3_sign_16 : decode cX3_sign 16 = .ok (.aload_n 3, 1) := by decide +kernel
theorem dX3_sign_17 : decode cX3_sign 17 = .ok (.getfield 70, 3) := by decide +kernel
theorem dX3_sign_20 : decode cX3_sign 20 = .ok (.iconst 4, 1) := by decide +kernel
theorem dX3_sign_21 : decode cX3_sign 21 = .ok (.if_icmp .lt (13), 3) := by decide +kernel
theorem dX3_sign_24 : decode cX3_sign 24 = .ok (.new 73, 3) := by decide +kernel
theorem dX3_sign_27 : decode cX3_sign 27 = .ok (.dup, 1) := by decide +kernel
theorem dX3_sign_28 : decode cX3_sign 28 = .ok (.ldc 75, 2) := by decide +kernel
theorem dX3_sign_30 : decode cX3_sign 30 = .ok (.invokespecial 77, 3) := by decide +kernel
theorem dX3_sign_33 : decode cX3_sign 33 = .ok (.athrow, 1) := by decide +kernel
theorem dX3_sign_34 : decode cX3_sign 34 = .ok (.aload_n 3, 1) := by decide +kernel
theorem dX3_sign_35 : decode cX3_sign 35 = .ok (.getfield 78, 3) := by decide +kernel
theorem dX3_sign_38 : decode cX3_sign 38 = .ok (.aload_n 3, 1) := by decide +kernel
theorem dX3_sign_39 : decode cX3_sign 39 = .ok (.getfield 70, 3) := by decide +kernel
theorem dX3_sign_42 : decode cX3_sign 42 = .ok (.iload_n 2, 1) := by decide +kernel
theorem dX3_sign_43 : decode cX3_sign 43 = .ok (.iastore, 1) := by decide +kernel
theorem dX3_sign_44 : decode cX3_sign 44 = .ok (.aload_n 3, 1) := by decide +kernel
theorem dX3_sign_45 : decode cX3_sign 45 = .ok (.dup, 1) := by decide +kernel
theorem dX3_sign_46 : decode cX3_sign 46 = .ok (.getfield 70, 3) := by decide +kernel
theorem dX3_sign_49 : decode cX3_sign 49 = .ok (.iconst 1, 1) := by decide +kernel
theorem dX3_sign_50 : decode cX3_sign 50 = .ok (.iadd, 1) := by decide +kernel
theorem dX3_sign_51 : decode cX3_sign 51 = .ok (.putfield 70, 3) := by decide +kernel
theorem dX3_sign_54 : decode cX3_sign 54 = .ok (.aload_n 3, 1) := by decide +kernel
theorem dX3_sign_55 : decode cX3_sign 55 = .ok (.getfield 70, 3) := by decide +kernel
theorem dX3_sign_58 : decode cX3_sign 58 = .ok (.ireturn, 1) := by decide +kernel
theorem dX3_pieces_0 : decode cX3_pieces 0 = .ok (.iload_n 1, 1) := by decide +kernel
theorem dX3_pieces_1 : decode cX3_pieces 1 = .ok (.invokestatic 64, 3) := by decide +kernel
theorem dX3_pieces_4 : decode cX3_pieces 4 = .ok (.aload_n 0, 1) := by decide +kernel
theorem dX3_pieces_5 : decode cX3_pieces 5 = .ok (.iload_n 2, 1) := by decide +kernel
theorem dX3_pieces_6 : decode cX3_pieces 6 = .ok (.invokevirtual 81, 3) := by decide +kernel
theorem dX3_pieces_9 : decode cX3_pieces 9 = .ok (.aload_n 0, 1) := by decide +kernel
theorem dX3_pieces_10 : decode cX3_pieces 10 = .ok (.iload_n 3, 1) := by decide +kernel
theorem dX3_pieces_11 : decode cX3_pieces 11 = .ok (.invokevirtual 81, 3) := by decide +kernel
theorem dX3_pieces_14 : decode cX3_pieces 14 = .ok (.aload_n 0, 1) := by decide +kernel
theorem dX3_pieces_15 : decode cX3_pieces 15 = .ok (.iload 4, 2) := by decide +kernel
theorem dX3_pieces_17 : decode cX3_pieces 17 = .ok (.invokevirtual 81, 3) := by decide +kernel
theorem dX3_pieces_20 : decode cX3_pieces 20 = .ok (.aload_n 0, 1) := by decide +kernel
theorem dX3_pieces_21 : decode cX3_pieces 21 = .ok (.iload 5, 2) := by decide +kernel
theorem dX3_pieces_23 : decode cX3_pieces 23 = .ok (.invokevirtual 67, 3) := by decide +kernel
theorem dX3_pieces_26 : decode cX3_pieces 26 = .ok (.aload_n 0, 1) := by decide +kernel
theorem dX3_pieces_27 : decode cX3_pieces 27 = .ok (.iload 5, 2) := by decide +kernel
theorem dX3_pieces_29 : decode cX3_pieces 29 = .ok (.invokevirtual 84, 3) := by decide +kernel
theorem dX3_pieces_32 : decode cX3_pieces 32 = .ok (.ifCond .gt (13), 3) := by decide +kernel
theorem dX3_pieces_35 : decode cX3_pieces 35 = .ok (.new 88, 3) := by decide +kernel
theorem dX3_pieces_38 : decode cX3_pieces 38 = .ok (.dup, 1) := by decide +kernel
theorem dX3_pieces_39 : decode cX3_pieces 39 = .ok (.ldc 90, 2) := by decide +kernel
theorem dX3_pieces_41 : decode cX3_pieces 41 = .ok (.invokespecial 92, 3) := by decide +kernel
theorem dX3_pieces_44 : decode cX3_pieces 44 = .ok (.athrow, 1) := by decide +kernel
theorem dX3_pieces_45 : decode cX3_pieces 45 = .ok (.aload_n 0, 1) := by decide +kernel
theorem dX3_pieces_46 : decode cX3_pieces 46 = .ok (.getfield 17, 3) := by decide +kernel
theorem dX3_pieces_49 : decode cX3_pieces 49 = .ok (.iload_n 1, 1) := by decide +kernel
theorem dX3_pieces_50 : decode cX3_pieces 50 = .ok (.aaload, 1) := by decide +kernel
theorem dX3_pieces_51 : decode cX3_pieces 51 = .ok (.astore 6, 2) := by decide +kernel
theorem dX3_pieces_53 : decode cX3_pieces 53 = .ok (.aload 6, 2) := by decide +kernel
theorem dX3_pieces_55 : decode cX3_pieces 55 = .ok (.iload_n 2, 1) := by decide +kernel
theorem dX3_pieces_56 : decode cX3_pieces 56 = .ok (.putfield 93, 3) := by decide +kernel
theorem dX3_pieces_59 : decode cX3_pieces 59 = .ok (.aload 6, 2) := by decide +kernel
theorem dX3_pieces_61 : decode cX3_pieces 61 = .ok (.iload_n 3, 1) := by decide +kernel
theorem dX3_pieces_62 : decode cX3_pieces 62 = .ok (.putfield 96, 3) := by decide +kernel
theorem dX3_pieces_65 : decode cX3_pieces 65 = .ok (.aload 6, 2) := by decide +kernel
theorem dX3_pieces_67 : decode cX3_pieces 67 = .ok (.iload 4, 2) := by decide +kernel
theorem dX3_pieces_69 : decode cX3_pieces 69 = .ok (.putfield 99, 3) := by decide +kernel
theorem dX3_pieces_72 : decode cX3_pieces 72 = .ok (.aload 6, 2) := by decide +kernel
theorem dX3_pieces_74 : decode cX3_pieces 74 = .ok (.iload 5, 2) := by decide +kernel
theorem dX3_pieces_76 : decode cX3_pieces 76 = .ok (.putfield 102, 3) := by decide +kernel
theorem dX3_pieces_79 : decode cX3_pieces 79 = .ok (.return_, 1) := by decide +kernel
theorem dX3_signOf_0 : decode cX3_signOf 0 = .ok (.iload_n 1, 1) := by decide +kernel
theorem dX3_signOf_1 : decode cX3_signOf 1 = .ok (.invokestatic 64, 3) := by decide +kernel
theorem dX3_signOf_4 : decode cX3_signOf 4 = .ok (.iload_n 2, 1) := by decide +kernel
theorem dX3_signOf_5 : decode cX3_signOf 5 = .ok (.iconst 0, 1) := by decide +kernel
theorem dX3_signOf_6 : decode cX3_signOf 6 = .ok (.ldc 105, 2) := by decide +kernel
theorem dX3_signOf_8 : decode cX3_signOf 8 = .ok (.invokestatic 37, 3) := by decide +kernel
theorem dX3_signOf_11 : decode cX3_signOf 11 = .ok (.aload_n 0, 1) := by decide +kernel
theorem dX3_signOf_12 : decode cX3_signOf 12 = .ok (.getfield 17, 3) := by decide +kernel
theorem dX3_signOf_15 : decode cX3_signOf 15 = .ok (.iload_n 1, 1) := by decide +kernel
theorem dX3_signOf_16 : decode cX3_signOf 16 = .ok (.aaload, 1) := by decide +kernel
theorem dX3_signOf_17 : decode cX3_signOf 17 = .ok (.astore_n 3, 1) := by decide +kernel
theorem dX3_signOf_18 : decode cX3_signOf 18 = .ok (.aload_n 3, 1) := by decide +kernel
theorem dX3_signOf_19 : decode cX3_signOf 19 = .ok (.invokestatic 106, 3) := by decide +kernel
theorem dX3_signOf_22 : decode cX3_signOf 22 = .ok (.aload_n 0, 1) := by decide +kernel
theorem dX3_signOf_23 : decode cX3_signOf 23 = .ok (.aload_n 3, 1) := by decide +kernel
theorem dX3_signOf_24 : decode cX3_signOf 24 = .ok (.iload_n 2, 1) := by decide +kernel
theorem dX3_signOf_25 : decode cX3_signOf 25 = .ok (.invokevirtual 110, 3) := by decide +kernel
theorem dX3_signOf_28 : decode cX3_signOf 28 = .ok (.istore 4, 2) := by decide +kernel
theorem dX3_signOf_30 : decode cX3_signOf 30 = .ok (.aload_n 0, 1) := by decide +kernel
theorem dX3_signOf_31 : decode cX3_signOf 31 = .ok (.iload 4, 2) := by decide +kernel
theorem dX3_signOf_33 : decode cX3_signOf 33 = .ok (.invokestatic 114, 3) := by decide +kernel
theorem dX3_signOf_36 : decode cX3_signOf 36 = .ok (.invokevirtual 50, 3) := by decide +kernel
theorem dX3_signOf_39 : decode cX3_signOf 39 = .ok (.aload_n 0, 1) := by decide +kernel
theorem dX3_signOf_40 : decode cX3_signOf 40 = .ok (.aload_n 3, 1) := by decide +kernel
theorem dX3_signOf_41 : decode cX3_signOf 41 = .ok (.iload 4, 2) := by decide +kernel
theorem dX3_signOf_43 : decode cX3_signOf 43 = .ok (.iload_n 2, 1) := by decide +kernel
theorem dX3_signOf_44 : decode cX3_signOf 44 = .ok (.invokevirtual 117, 3) := by decide +kernel
theorem dX3_signOf_47 : decode cX3_signOf 47 = .ok (.ireturn, 1) := by decide +kernel
theorem dX3_fraction_0 : decode cX3_fraction 0 = .ok (.aload_n 0, 1) := by decide +kernel
theorem dX3_fraction_1 : decode cX3_fraction 1 = .ok (.iload_n 2, 1) := by decide +kernel
theorem dX3_fraction_2 : decode cX3_fraction 2 = .ok (.invokevirtual 67, 3) := by decide +kernel
theorem dX3_fraction_5 : decode cX3_fraction 5 = .ok (.aload_n 0, 1) := by decide +kernel
theorem dX3_fraction_6 : decode cX3_fraction 6 = .ok (.iload_n 3, 1) := by decide +kernel
theorem dX3_fraction_7 : decode cX3_fraction 7 = .ok (.invokevirtual 67, 3) := by decide +kernel
theorem dX3_fraction_10 : decode cX3_fraction 10 = .ok (.iload_n 1, 1) := by decide +kernel
theorem dX3_fraction_11 : decode cX3_fraction 11 = .ok (.invokestatic 121, 3) := by decide +kernel
theorem dX3_fraction_14 : decode cX3_fraction 14 = .ok (.iload 4, 2) := by decide +kernel
theorem dX3_fraction_16 : decode cX3_fraction 16 = .ok (.iconst 0, 1) := by decide +kernel
theorem dX3_fraction_17 : decode cX3_fraction 17 = .ok (.ldc 36, 2) := by decide +kernel
theorem dX3_fraction_19 : decode cX3_fraction 19 = .ok (.invokestatic 37, 3) := by decide +kernel
theorem dX3_fraction_22 : decode cX3_fraction 22 = .ok (.aload_n 0, 1) := by decide +kernel
theorem dX3_fraction_23 : decode cX3_fraction 23 = .ok (.iconst 1, 1) := by decide +kernel
theorem dX3_fraction_24 : decode cX3_fraction 24 = .ok (.invokevirtual 50, 3) := by decide +kernel
theorem dX3_fraction_27 : decode cX3_fraction 27 = .ok (.aload_n 0, 1) := by decide +kernel
theorem dX3_fraction_28 : decode cX3_fraction 28 = .ok (.iload 4, 2) := by decide +kernel
theorem dX3_fraction_30 : decode cX3_fraction 30 = .ok (.ifCond .le (15), 3) := by decide +kernel
theorem dX3_fraction_33 : decode cX3_fraction 33 = .ok (.aload_n 0, 1) := by decide +kernel
theorem dX3_fraction_34 : decode cX3_fraction 34 = .ok (.iload_n 1, 1) := by decide +kernel
theorem dX3_fraction_35 : decode cX3_fraction 35 = .ok (.iload_n 2, 1) := by decide +kernel
theorem dX3_fraction_36 : decode cX3_fraction 36 = .ok (.iload_n 3, 1) := by decide +kernel
theorem dX3_fraction_37 : decode cX3_fraction 37 = .ok (.iload 4, 2) := by decide +kernel
theorem dX3_fraction_39 : decode cX3_fraction 39 = .ok (.invokevirtual 124, 3) := by decide +kernel
theorem dX3_fraction_42 : decode cX3_fraction 42 = .ok (.goto (10), 3) := by decide +kernel
theorem dX3_fraction_45 : decode cX3_fraction 45 = .ok (.aload_n 0, 1) := by decide +kernel
theorem dX3_fraction_46 : decode cX3_fraction 46 = .ok (.iload_n 1, 1) := by decide +kernel
theorem dX3_fraction_47 : decode cX3_fraction 47 = .ok (.iload_n 2, 1) := by decide +kernel
theorem dX3_fraction_48 : decode cX3_fraction 48 = .ok (.iload_n 3, 1) := by decide +kernel
theorem dX3_fraction_49 : decode cX3_fraction 49 = .ok (.invokevirtual 128, 3) := by decide +kernel
theorem dX3_fraction_52 : decode cX3_fraction 52 = .ok (.invokevirtual 60, 3) := by decide +kernel
theorem dX3_fraction_55 : decode cX3_fraction 55 = .ok (.ireturn, 1) := by decide +kernel
theorem dX3_root_0 : decode cX3_root 0 = .ok (.aload_n 0, 1) := by decide +kernel
theorem dX3_root_1 : decode cX3_root 1 = .ok (.iload_n 2, 1) := by decide +kernel
theorem dX3_root_2 : decode cX3_root 2 = .ok (.invokevirtual 67, 3) := by decide +kernel
theorem dX3_root_5 : decode cX3_root 5 = .ok (.iload_n 3, 1) := by decide +kernel
theorem dX3_root_6 : decode cX3_root 6 = .ok (.invokestatic 64, 3) := by decide +kernel
theorem dX3_root_9 : decode cX3_root 9 = .ok (.iload_n 1, 1) := by decide +kernel
theorem dX3_root_10 : decode cX3_root 10 = .ok (.invokestatic 121, 3) := by decide +kernel
theorem dX3_root_13 : decode cX3_root 13 = .ok (.aload_n 0, 1) := by decide +kernel
theorem dX3_root_14 : decode cX3_root 14 = .ok (.getfield 17, 3) := by decide +kernel
theorem dX3_root_17 : decode cX3_root 17 = .ok (.iload_n 3, 1) := by decide +kernel
theorem dX3_root_18 : decode cX3_root 18 = .ok (.aaload, 1) := by decide +kernel
theorem dX3_root_19 : decode cX3_root 19 = .ok (.astore 4, 2) := by decide +kernel
theorem dX3_root_21 : decode cX3_root 21 = .ok (.aload 4, 2) := by decide +kernel
theorem dX3_root_23 : decode cX3_root 23 = .ok (.invokestatic 106, 3) := by decide +kernel
theorem dX3_root_26 : decode cX3_root 26 = .ok (.aload_n 0, 1) := by decide +kernel
theorem dX3_root_27 : decode cX3_root 27 = .ok (.iload_n 1, 1) := by decide +kernel
theorem dX3_root_28 : decode cX3_root 28 = .ok (.invokevirtual 132, 3) := by decide +kernel
theorem dX3_root_31 : decode cX3_root 31 = .ok (.istore 5, 2) := by decide +kernel
theorem dX3_root_33 : decode cX3_root 33 = .ok (.iconst 0, 1) := by decide +kernel
theorem dX3_root_34 : decode cX3_root 34 = .ok (.aload_n 0, 1) := by decide +kernel
theorem dX3_root_35 : decode cX3_root 35 = .ok (.iload_n 2, 1) := by decide +kernel
theorem dX3_root_36 : decode cX3_root 36 = .ok (.invokevirtual 84, 3) := by decide +kernel
theorem dX3_root_39 : decode cX3_root 39 = .ok (.iload 5, 2) := by decide +kernel
theorem dX3_root_41 : decode cX3_root 41 = .ok (.iadd, 1) := by decide +kernel
theorem dX3_root_42 : decode cX3_root 42 = .ok (.aload_n 0, 1) := by decide +kernel
theorem dX3_root_43 : decode cX3_root 43 = .ok (.iload_n 1, 1) := by decide +kernel
theorem dX3_root_44 : decode cX3_root 44 = .ok (.bipush (13), 2) := by decide +kernel
theorem dX3_root_46 : decode cX3_root 46 = .ok (.invokevirtual 135, 3) := by decide +kernel
theorem dX3_root_49 : decode cX3_root 49 = .ok (.iadd, 1) := by decide +kernel
theorem dX3_root_50 : decode cX3_root 50 = .ok (.invokestatic 139, 3) := by decide +kernel
theorem dX3_root_53 : decode cX3_root 53 = .ok (.istore 6, 2) := by decide +kernel
theorem dX3_root_55 : decode cX3_root 55 = .ok (.aload_n 0, 1) := by decide +kernel
theorem dX3_root_56 : decode cX3_root 56 = .ok (.aload 4, 2) := by decide +kernel
theorem dX3_root_58 : decode cX3_root 58 = .ok (.iload 6, 2) := by decide +kernel
theorem dX3_root_60 : decode cX3_root 60 = .ok (.invokevirtual 110, 3) := by decide +kernel
theorem dX3_root_63 : decode cX3_root 63 = .ok (.istore 7, 2) := by decide +kernel
theorem dX3_root_65 : decode cX3_root 65 = .ok (.aload_n 0, 1) := by decide +kernel
theorem dX3_root_66 : decode cX3_root 66 = .ok (.iload 7, 2) := by decide +kernel
theorem dX3_root_68 : decode cX3_root 68 = .ok (.invokestatic 114, 3) := by decide +kernel
theorem dX3_root_71 : decode cX3_root 71 = .ok (.iconst 1, 1) := by decide +kernel
theorem dX3_root_72 : decode cX3_root 72 = .ok (.iadd, 1) := by decide +kernel
theorem dX3_root_73 : decode cX3_root 73 = .ok (.invokevirtual 50, 3) := by decide +kernel
theorem dX3_root_76 : decode cX3_root 76 = .ok (.aload_n 0, 1) := by decide +kernel
theorem dX3_root_77 : decode cX3_root 77 = .ok (.aload 4, 2) := by decide +kernel
theorem dX3_root_79 : decode cX3_root 79 = .ok (.iload 7, 2) := by decide +kernel
theorem dX3_root_81 : decode cX3_root 81 = .ok (.iload 6, 2) := by decide +kernel
theorem dX3_root_83 : decode cX3_root 83 = .ok (.invokevirtual 117, 3) := by decide +kernel
theorem dX3_root_86 : decode cX3_root 86 = .ok (.istore 8, 2) := by decide +kernel
theorem dX3_root_88 : decode cX3_root 88 = .ok (.aload_n 0, 1) := by decide +kernel
theorem dX3_root_89 : decode cX3_root 89 = .ok (.aload_n 0, 1) := by decide +kernel
theorem dX3_root_90 : decode cX3_root 90 = .ok (.iload_n 2, 1) := by decide +kernel
theorem dX3_root_91 : decode cX3_root 91 = .ok (.iload 8, 2) := by decide +kernel
theorem dX3_root_93 : decode cX3_root 93 = .ok (.iload 5, 2) := by decide +kernel
theorem dX3_root_95 : decode cX3_root 95 = .ok (.iload 7, 2) := by decide +kernel
theorem dX3_root_97 : decode cX3_root 97 = .ok (.iconst (-1), 1) := by decide +kernel
theorem dX3_root_98 : decode cX3_root 98 = .ok (.if_icmp .ne (7), 3) := by decide +kernel
theorem dX3_root_101 : decode cX3_root 101 = .ok (.iconst 1, 1) := by decide +kernel
theorem dX3_root_102 : decode cX3_root 102 = .ok (.goto (4), 3) := by decide +kernel
theorem dX3_root_105 : decode cX3_root 105 = .ok (.iconst 0, 1) := by decide +kernel
theorem dX3_root_106 : decode cX3_root 106 = .ok (.invokevirtual 144, 3) := by decide +kernel
theorem dX3_root_109 : decode cX3_root 109 = .ok (.invokevirtual 60, 3) := by decide +kernel
theorem dX3_root_112 : decode cX3_root 112 = .ok (.ireturn, 1) := by decide +kernel
theorem dX3_signs_0 : decode cX3_signs 0 = .ok (.aload_n 0, 1) := by decide +kernel
theorem dX3_signs_1 : decode cX3_signs 1 = .ok (.iload_n 3, 1) := by decide +kernel
theorem dX3_signs_2 : decode cX3_signs 2 = .ok (.invokevirtual 67, 3) := by decide +kernel
theorem dX3_signs_5 : decode cX3_signs 5 = .ok (.aload_n 0, 1) := by decide +kernel
theorem dX3_signs_6 : decode cX3_signs 6 = .ok (.iload 5, 2) := by decide +kernel
theorem dX3_signs_8 : decode cX3_signs 8 = .ok (.invokevirtual 81, 3) := by decide +kernel
theorem dX3_signs_11 : decode cX3_signs 11 = .ok (.aload_n 0, 1) := by decide +kernel
theorem dX3_signs_12 : decode cX3_signs 12 = .ok (.iload 6, 2) := by decide +kernel
theorem dX3_signs_14 : decode cX3_signs 14 = .ok (.invokevirtual 81, 3) := by decide +kernel
theorem dX3_signs_17 : decode cX3_signs 17 = .ok (.iload_n 1, 1) := by decide +kernel
theorem dX3_signs_18 : decode cX3_signs 18 = .ok (.invokestatic 121, 3) := by decide +kernel
theorem dX3_signs_21 : decode cX3_signs 21 = .ok (.iload 5, 2) := by decide +kernel
theorem dX3_signs_23 : decode cX3_signs 23 = .ok (.iload 6, 2) := by decide +kernel
theorem dX3_signs_25 : decode cX3_signs 25 = .ok (.invokestatic 148, 3) := by decide +kernel
theorem dX3_signs_28 : decode cX3_signs 28 = .ok (.aload_n 0, 1) := by decide +kernel
theorem dX3_signs_29 : decode cX3_signs 29 = .ok (.iconst 1, 1) := by decide +kernel
theorem dX3_signs_30 : decode cX3_signs 30 = .ok (.invokevirtual 50, 3) := by decide +kernel
theorem dX3_signs_33 : decode cX3_signs 33 = .ok (.iload_n 1, 1) := by decide +kernel
theorem dX3_signs_34 : decode cX3_signs 34 = .ok (.ifCond .eq (8), 3) := by decide +kernel
theorem dX3_signs_37 : decode cX3_signs 37 = .ok (.iload_n 1, 1) := by decide +kernel
theorem dX3_signs_38 : decode cX3_signs 38 = .ok (.iconst 1, 1) := by decide +kernel
theorem dX3_signs_39 : decode cX3_signs 39 = .ok (.if_icmp .ne (7), 3) := by decide +kernel
theorem dX3_signs_42 : decode cX3_signs 42 = .ok (.iconst 2, 1) := by decide +kernel
theorem dX3_signs_43 : decode cX3_signs 43 = .ok (.goto (4), 3) := by decide +kernel
theorem dX3_signs_46 : decode cX3_signs 46 = .ok (.iconst 3, 1) := by decide +kernel
theorem dX3_signs_47 : decode cX3_signs 47 = .ok (.istore 7, 2) := by decide +kernel
theorem dX3_signs_49 : decode cX3_signs 49 = .ok (.iload 4, 2) := by decide +kernel
theorem dX3_signs_51 : decode cX3_signs 51 = .ok (.ifCond .eq (7), 3) := by decide +kernel
theorem dX3_signs_54 : decode cX3_signs 54 = .ok (.iconst 0, 1) := by decide +kernel
theorem dX3_signs_55 : decode cX3_signs 55 = .ok (.goto (17), 3) := by decide +kernel
theorem dX3_signs_58 : decode cX3_signs 58 = .ok (.aload_n 0, 1) := by decide +kernel
theorem dX3_signs_59 : decode cX3_signs 59 = .ok (.iload_n 3, 1) := by decide +kernel
theorem dX3_signs_60 : decode cX3_signs 60 = .ok (.invokevirtual 152, 3) := by decide +kernel
theorem dX3_signs_63 : decode cX3_signs 63 = .ok (.aload_n 0, 1) := by decide +kernel
theorem dX3_signs_64 : decode cX3_signs 64 = .ok (.iload 7, 2) := by decide +kernel
theorem dX3_signs_66 : decode cX3_signs 66 = .ok (.bipush (11), 2) := by decide +kernel
theorem dX3_signs_68 : decode cX3_signs 68 = .ok (.invokevirtual 135, 3) := by decide +kernel
theorem dX3_signs_71 : decode cX3_signs 71 = .ok (.isub, 1) := by decide +kernel
theorem dX3_signs_72 : decode cX3_signs 72 = .ok (.istore 8, 2) := by decide +kernel
theorem dX3_signs_74 : decode cX3_signs 74 = .ok (.iload 4, 2) := by decide +kernel
theorem dX3_signs_76 : decode cX3_signs 76 = .ok (.ifCond .eq (7), 3) := by decide +kernel
theorem dX3_signs_79 : decode cX3_signs 79 = .ok (.iconst 0, 1) := by decide +kernel
theorem dX3_signs_80 : decode cX3_signs 80 = .ok (.goto (17), 3) := by decide +kernel
theorem dX3_signs_83 : decode cX3_signs 83 = .ok (.aload_n 0, 1) := by decide +kernel
theorem dX3_signs_84 : decode cX3_signs 84 = .ok (.iload_n 3, 1) := by decide +kernel
theorem dX3_signs_85 : decode cX3_signs 85 = .ok (.invokevirtual 155, 3) := by decide +kernel
theorem dX3_signs_88 : decode cX3_signs 88 = .ok (.aload_n 0, 1) := by decide +kernel
theorem dX3_signs_89 : decode cX3_signs 89 = .ok (.iload 7, 2) := by decide +kernel
theorem dX3_signs_91 : decode cX3_signs 91 = .ok (.bipush (12), 2) := by decide +kernel
theorem dX3_signs_93 : decode cX3_signs 93 = .ok (.invokevirtual 135, 3) := by decide +kernel
theorem dX3_signs_96 : decode cX3_signs 96 = .ok (.iadd, 1) := by decide +kernel
theorem dX3_signs_97 : decode cX3_signs 97 = .ok (.istore 9, 2) := by decide +kernel
theorem dX3_signs_99 : decode cX3_signs 99 = .ok (.iload 5, 2) := by decide +kernel
theorem dX3_signs_101 : decode cX3_signs 101 = .ok (.iconst (-1), 1) := by decide +kernel
theorem dX3_signs_102 : decode cX3_signs 102 = .ok (.if_icmp .ne (75), 3) := by decide +kernel
theorem dX3_signs_105 : decode cX3_signs 105 = .ok (.aload_n 0, 1) := by decide +kernel
theorem dX3_signs_106 : decode cX3_signs 106 = .ok (.iload_n 1, 1) := by decide +kernel
theorem dX3_signs_107 : decode cX3_signs 107 = .ok (.iload 9, 2) := by decide +kernel
theorem dX3_signs_109 : decode cX3_signs 109 = .ok (.iload 6, 2) := by decide +kernel
theorem dX3_signs_111 : decode cX3_signs 111 = .ok (.invokevirtual 158, 3) := by decide +kernel
theorem dX3_signs_114 : decode cX3_signs 114 = .ok (.istore 9, 2) := by decide +kernel
theorem dX3_signs_116 : decode cX3_signs 116 = .ok (.aload_n 0, 1) := by decide +kernel
theorem dX3_signs_117 : decode cX3_signs 117 = .ok (.aload_n 0, 1) := by decide +kernel
theorem dX3_signs_118 : decode cX3_signs 118 = .ok (.aload_n 0, 1) := by decide +kernel
theorem dX3_signs_119 : decode cX3_signs 119 = .ok (.iload_n 3, 1) := by decide +kernel
theorem dX3_signs_120 : decode cX3_signs 120 = .ok (.invokevirtual 162, 3) := by decide +kernel
theorem dX3_signs_123 : decode cX3_signs 123 = .ok (.aload_n 0, 1) := by decide +kernel
theorem dX3_signs_124 : decode cX3_signs 124 = .ok (.iload 6, 2) := by decide +kernel
theorem dX3_signs_126 : decode cX3_signs 126 = .ok (.invokevirtual 162, 3) := by decide +kernel
theorem dX3_signs_129 : decode cX3_signs 129 = .ok (.iadd, 1) := by decide +kernel
theorem dX3_signs_130 : decode cX3_signs 130 = .ok (.aload_n 0, 1) := by decide +kernel
theorem dX3_signs_131 : decode cX3_signs 131 = .ok (.getfield 43, 3) := by decide +kernel
theorem dX3_signs_134 : decode cX3_signs 134 = .ok (.iadd, 1) := by decide +kernel
theorem dX3_signs_135 : decode cX3_signs 135 = .ok (.bipush (6), 2) := by decide +kernel
theorem dX3_signs_137 : decode cX3_signs 137 = .ok (.newarray .int, 2) := by decide +kernel
theorem dX3_signs_139 : decode cX3_signs 139 = .ok (.dup, 1) := by decide +kernel
theorem dX3_signs_140 : decode cX3_signs 140 = .ok (.iconst 0, 1) := by decide +kernel
theorem dX3_signs_141 : decode cX3_signs 141 = .ok (.iload_n 3, 1) := by decide +kernel
theorem dX3_signs_142 : decode cX3_signs 142 = .ok (.iastore, 1) := by decide +kernel
theorem dX3_signs_143 : decode cX3_signs 143 = .ok (.dup, 1) := by decide +kernel
theorem dX3_signs_144 : decode cX3_signs 144 = .ok (.iconst 1, 1) := by decide +kernel
theorem dX3_signs_145 : decode cX3_signs 145 = .ok (.iconst 0, 1) := by decide +kernel
theorem dX3_signs_146 : decode cX3_signs 146 = .ok (.iastore, 1) := by decide +kernel
theorem dX3_signs_147 : decode cX3_signs 147 = .ok (.dup, 1) := by decide +kernel
theorem dX3_signs_148 : decode cX3_signs 148 = .ok (.iconst 2, 1) := by decide +kernel
theorem dX3_signs_149 : decode cX3_signs 149 = .ok (.iconst 0, 1) := by decide +kernel
theorem dX3_signs_150 : decode cX3_signs 150 = .ok (.iastore, 1) := by decide +kernel
theorem dX3_signs_151 : decode cX3_signs 151 = .ok (.dup, 1) := by decide +kernel
theorem dX3_signs_152 : decode cX3_signs 152 = .ok (.iconst 3, 1) := by decide +kernel
theorem dX3_signs_153 : decode cX3_signs 153 = .ok (.iload 6, 2) := by decide +kernel
theorem dX3_signs_155 : decode cX3_signs 155 = .ok (.iastore, 1) := by decide +kernel
theorem dX3_signs_156 : decode cX3_signs 156 = .ok (.dup, 1) := by decide +kernel
theorem dX3_signs_157 : decode cX3_signs 157 = .ok (.iconst 4, 1) := by decide +kernel
theorem dX3_signs_158 : decode cX3_signs 158 = .ok (.aload_n 0, 1) := by decide +kernel
theorem dX3_signs_159 : decode cX3_signs 159 = .ok (.iload_n 3, 1) := by decide +kernel
theorem dX3_signs_160 : decode cX3_signs 160 = .ok (.invokevirtual 162, 3) := by decide +kernel
theorem dX3_signs_163 : decode cX3_signs 163 = .ok (.iastore, 1) := by decide +kernel
theorem dX3_signs_164 : decode cX3_signs 164 = .ok (.dup, 1) := by decide +kernel
theorem dX3_signs_165 : decode cX3_signs 165 = .ok (.iconst 5, 1) := by decide +kernel
theorem dX3_signs_166 : decode cX3_signs 166 = .ok (.iload 9, 2) := by decide +kernel
theorem dX3_signs_168 : decode cX3_signs 168 = .ok (.ineg, 1) := by decide +kernel
theorem dX3_signs_169 : decode cX3_signs 169 = .ok (.iastore, 1) := by decide +kernel
theorem dX3_signs_170 : decode cX3_signs 170 = .ok (.invokevirtual 165, 3) := by decide +kernel
theorem dX3_signs_173 : decode cX3_signs 173 = .ok (.invokevirtual 60, 3) := by decide +kernel
theorem dX3_signs_176 : decode cX3_signs 176 = .ok (.ireturn, 1) := by decide +kernel
theorem dX3_signs_177 : decode cX3_signs 177 = .ok (.aload_n 0, 1) := by decide +kernel
theorem dX3_signs_178 : decode cX3_signs 178 = .ok (.iload_n 1, 1) := by decide +kernel
theorem dX3_signs_179 : decode cX3_signs 179 = .ok (.iload_n 2, 1) := by decide +kernel
theorem dX3_signs_180 : decode cX3_signs 180 = .ok (.iload 8, 2) := by decide +kernel
theorem dX3_signs_182 : decode cX3_signs 182 = .ok (.iload 5, 2) := by decide +kernel
theorem dX3_signs_184 : decode cX3_signs 184 = .ok (.invokevirtual 169, 3) := by decide +kernel
theorem dX3_signs_187 : decode cX3_signs 187 = .ok (.istore 8, 2) := by decide +kernel
theorem dX3_signs_189 : decode cX3_signs 189 = .ok (.iload 6, 2) := by decide +kernel
theorem dX3_signs_191 : decode cX3_signs 191 = .ok (.iconst (-1), 1) := by decide +kernel
theorem dX3_signs_192 : decode cX3_signs 192 = .ok (.if_icmp .ne (63), 3) := by decide +kernel
theorem dX3_signs_195 : decode cX3_signs 195 = .ok (.aload_n 0, 1) := by decide +kernel
theorem dX3_signs_196 : decode cX3_signs 196 = .ok (.aload_n 0, 1) := by decide +kernel
theorem dX3_signs_197 : decode cX3_signs 197 = .ok (.aload_n 0, 1) := by decide +kernel
theorem dX3_signs_198 : decode cX3_signs 198 = .ok (.iload_n 3, 1) := by decide +kernel
theorem dX3_signs_199 : decode cX3_signs 199 = .ok (.invokevirtual 162, 3) := by decide +kernel
theorem dX3_signs_202 : decode cX3_signs 202 = .ok (.aload_n 0, 1) := by decide +kernel
theorem dX3_signs_203 : decode cX3_signs 203 = .ok (.iload 5, 2) := by decide +kernel
theorem dX3_signs_205 : decode cX3_signs 205 = .ok (.invokevirtual 162, 3) := by decide +kernel
theorem dX3_signs_208 : decode cX3_signs 208 = .ok (.iadd, 1) := by decide +kernel
theorem dX3_signs_209 : decode cX3_signs 209 = .ok (.aload_n 0, 1) := by decide +kernel
theorem dX3_signs_210 : decode cX3_signs 210 = .ok (.getfield 43, 3) := by decide +kernel
theorem dX3_signs_213 : decode cX3_signs 213 = .ok (.iadd, 1) := by decide +kernel
theorem dX3_signs_214 : decode cX3_signs 214 = .ok (.bipush (6), 2) := by decide +kernel
theorem dX3_signs_216 : decode cX3_signs 216 = .ok (.newarray .int, 2) := by decide +kernel
theorem dX3_signs_218 : decode cX3_signs 218 = .ok (.dup, 1) := by decide +kernel
theorem dX3_signs_219 : decode cX3_signs 219 = .ok (.iconst 0, 1) := by decide +kernel
theorem dX3_signs_220 : decode cX3_signs 220 = .ok (.iload_n 3, 1) := by decide +kernel
theorem dX3_signs_221 : decode cX3_signs 221 = .ok (.iastore, 1) := by decide +kernel
theorem dX3_signs_222 : decode cX3_signs 222 = .ok (.dup, 1) := by decide +kernel
theorem dX3_signs_223 : decode cX3_signs 223 = .ok (.iconst 1, 1) := by decide +kernel
theorem dX3_signs_224 : decode cX3_signs 224 = .ok (.iconst 0, 1) := by decide +kernel
theorem dX3_signs_225 : decode cX3_signs 225 = .ok (.iastore, 1) := by decide +kernel
theorem dX3_signs_226 : decode cX3_signs 226 = .ok (.dup, 1) := by decide +kernel
theorem dX3_signs_227 : decode cX3_signs 227 = .ok (.iconst 2, 1) := by decide +kernel
theorem dX3_signs_228 : decode cX3_signs 228 = .ok (.iconst 0, 1) := by decide +kernel
theorem dX3_signs_229 : decode cX3_signs 229 = .ok (.iastore, 1) := by decide +kernel
theorem dX3_signs_230 : decode cX3_signs 230 = .ok (.dup, 1) := by decide +kernel
theorem dX3_signs_231 : decode cX3_signs 231 = .ok (.iconst 3, 1) := by decide +kernel
theorem dX3_signs_232 : decode cX3_signs 232 = .ok (.iload 5, 2) := by decide +kernel
theorem dX3_signs_234 : decode cX3_signs 234 = .ok (.iastore, 1) := by decide +kernel
theorem dX3_signs_235 : decode cX3_signs 235 = .ok (.dup, 1) := by decide +kernel
theorem dX3_signs_236 : decode cX3_signs 236 = .ok (.iconst 4, 1) := by decide +kernel
theorem dX3_signs_237 : decode cX3_signs 237 = .ok (.aload_n 0, 1) := by decide +kernel
theorem dX3_signs_238 : decode cX3_signs 238 = .ok (.iload_n 3, 1) := by decide +kernel
theorem dX3_signs_239 : decode cX3_signs 239 = .ok (.invokevirtual 162, 3) := by decide +kernel
theorem dX3_signs_242 : decode cX3_signs 242 = .ok (.iastore, 1) := by decide +kernel
theorem dX3_signs_243 : decode cX3_signs 243 = .ok (.dup, 1) := by decide +kernel
theorem dX3_signs_244 : decode cX3_signs 244 = .ok (.iconst 5, 1) := by decide +kernel
theorem dX3_signs_245 : decode cX3_signs 245 = .ok (.iload 8, 2) := by decide +kernel
theorem dX3_signs_247 : decode cX3_signs 247 = .ok (.iastore, 1) := by decide +kernel
theorem dX3_signs_248 : decode cX3_signs 248 = .ok (.invokevirtual 165, 3) := by decide +kernel
theorem dX3_signs_251 : decode cX3_signs 251 = .ok (.invokevirtual 60, 3) := by decide +kernel
theorem dX3_signs_254 : decode cX3_signs 254 = .ok (.ireturn, 1) := by decide +kernel
theorem dX3_signs_255 : decode cX3_signs 255 = .ok (.aload_n 0, 1) := by decide +kernel
theorem dX3_signs_256 : decode cX3_signs 256 = .ok (.aload_n 0, 1) := by decide +kernel
theorem dX3_signs_257 : decode cX3_signs 257 = .ok (.iload_n 1, 1) := by decide +kernel
theorem dX3_signs_258 : decode cX3_signs 258 = .ok (.iload 8, 2) := by decide +kernel
theorem dX3_signs_260 : decode cX3_signs 260 = .ok (.iload 9, 2) := by decide +kernel
theorem dX3_signs_262 : decode cX3_signs 262 = .ok (.iload_n 3, 1) := by decide +kernel
theorem dX3_signs_263 : decode cX3_signs 263 = .ok (.iload 5, 2) := by decide +kernel
theorem dX3_signs_265 : decode cX3_signs 265 = .ok (.iload 6, 2) := by decide +kernel
theorem dX3_signs_267 : decode cX3_signs 267 = .ok (.invokevirtual 173, 3) := by decide +kernel
theorem dX3_signs_270 : decode cX3_signs 270 = .ok (.invokevirtual 60, 3) := by decide +kernel
theorem dX3_signs_273 : decode cX3_signs 273 = .ok (.ireturn, 1) := by decide +kernel
theorem dX3_limits_0 : decode cX3_limits 0 = .ok (.aload_n 0, 1) := by decide +kernel
theorem dX3_limits_1 : decode cX3_limits 1 = .ok (.iload_n 2, 1) := by decide +kernel
theorem dX3_limits_2 : decode cX3_limits 2 = .ok (.invokevirtual 67, 3) := by decide +kernel
theorem dX3_limits_5 : decode cX3_limits 5 = .ok (.aload_n 0, 1) := by decide +kernel
theorem dX3_limits_6 : decode cX3_limits 6 = .ok (.iload_n 3, 1) := by decide +kernel
theorem dX3_limits_7 : decode cX3_limits 7 = .ok (.invokevirtual 81, 3) := by decide +kernel
theorem dX3_limits_10 : decode cX3_limits 10 = .ok (.aload_n 0, 1) := by decide +kernel
theorem dX3_limits_11 : decode cX3_limits 11 = .ok (.iload 4, 2) := by decide +kernel
theorem dX3_limits_13 : decode cX3_limits 13 = .ok (.invokevirtual 81, 3) := by decide +kernel
theorem dX3_limits_16 : decode cX3_limits 16 = .ok (.iload_n 1, 1) := by decide +kernel
theorem dX3_limits_17 : decode cX3_limits 17 = .ok (.invokestatic 121, 3) := by decide +kernel
theorem dX3_limits_20 : decode cX3_limits 20 = .ok (.iload_n 3, 1) := by decide +kernel
theorem dX3_limits_21 : decode cX3_limits 21 = .ok (.iload 4, 2) := by decide +kernel
theorem dX3_limits_23 : decode cX3_limits 23 = .ok (.invokestatic 148, 3) := by decide +kernel
theorem dX3_limits_26 : decode cX3_limits 26 = .ok (.aload_n 0, 1) := by decide +kernel
theorem dX3_limits_27 : decode cX3_limits 27 = .ok (.iconst 1, 1) := by decide +kernel
theorem dX3_limits_28 : decode cX3_limits 28 = .ok (.invokevirtual 50, 3) := by decide +kernel
theorem dX3_limits_31 : decode cX3_limits 31 = .ok (.aload_n 0, 1) := by decide +kernel
theorem dX3_limits_32 : decode cX3_limits 32 = .ok (.aload_n 0, 1) := by decide +kernel
theorem dX3_limits_33 : decode cX3_limits 33 = .ok (.iload_n 1, 1) := by decide +kernel
theorem dX3_limits_34 : decode cX3_limits 34 = .ok (.iload_n 2, 1) := by decide +kernel
theorem dX3_limits_35 : decode cX3_limits 35 = .ok (.iload_n 3, 1) := by decide +kernel
theorem dX3_limits_36 : decode cX3_limits 36 = .ok (.iload 4, 2) := by decide +kernel
theorem dX3_limits_38 : decode cX3_limits 38 = .ok (.invokevirtual 177, 3) := by decide +kernel
theorem dX3_limits_41 : decode cX3_limits 41 = .ok (.invokevirtual 60, 3) := by decide +kernel
theorem dX3_limits_44 : decode cX3_limits 44 = .ok (.ireturn, 1) := by decide +kernel
theorem dX3_brackets_0 : decode cX3_brackets 0 = .ok (.iload_n 2, 1) := by decide +kernel
theorem dX3_brackets_1 : decode cX3_brackets 1 = .ok (.invokestatic 64, 3) := by decide +kernel
theorem dX3_brackets_4 : decode cX3_brackets 4 = .ok (.aload_n 0, 1) := by decide +kernel
theorem dX3_brackets_5 : decode cX3_brackets 5 = .ok (.iload_n 3, 1) := by decide +kernel
theorem dX3_brackets_6 : decode cX3_brackets 6 = .ok (.invokevirtual 67, 3) := by decide +kernel
theorem dX3_brackets_9 : decode cX3_brackets 9 = .ok (.iload 4, 2) := by decide +kernel
theorem dX3_brackets_11 : decode cX3_brackets 11 = .ok (.invokestatic 64, 3) := by decide +kernel
theorem dX3_brackets_14 : decode cX3_brackets 14 = .ok (.iload_n 1, 1) := by decide +kernel
theorem dX3_brackets_15 : decode cX3_brackets 15 = .ok (.invokestatic 121, 3) := by decide +kernel
theorem dX3_brackets_18 : decode cX3_brackets 18 = .ok (.aload_n 0, 1) := by decide +kernel
theorem dX3_brackets_19 : decode cX3_brackets 19 = .ok (.getfield 17, 3) := by decide +kernel
theorem dX3_brackets_22 : decode cX3_brackets 22 = .ok (.iload_n 2, 1) := by decide +kernel
theorem dX3_brackets_23 : decode cX3_brackets 23 = .ok (.aaload, 1) := by decide +kernel
theorem dX3_brackets_24 : decode cX3_brackets 24 = .ok (.astore 5, 2) := by decide +kernel
theorem dX3_brackets_26 : decode cX3_brackets 26 = .ok (.aload_n 0, 1) := by decide +kernel
theorem dX3_brackets_27 : decode cX3_brackets 27 = .ok (.getfield 17, 3) := by decide +kernel
theorem dX3_brackets_30 : decode cX3_brackets 30 = .ok (.iload 4, 2) := by decide +kernel
theorem dX3_brackets_32 : decode cX3_brackets 32 = .ok (.aaload, 1) := by decide +kernel
theorem dX3_brackets_33 : decode cX3_brackets 33 = .ok (.astore 6, 2) := by decide +kernel
theorem dX3_brackets_35 : decode cX3_brackets 35 = .ok (.aload 5, 2) := by decide +kernel
theorem dX3_brackets_37 : decode cX3_brackets 37 = .ok (.invokestatic 106, 3) := by decide +kernel
theorem dX3_brackets_40 : decode cX3_brackets 40 = .ok (.aload 6, 2) := by decide +kernel
theorem dX3_brackets_42 : decode cX3_brackets 42 = .ok (.invokestatic 106, 3) := by decide +kernel
theorem dX3_brackets_45 : decode cX3_brackets 45 = .ok (.aload_n 0, 1) := by decide +kernel
theorem dX3_brackets_46 : decode cX3_brackets 46 = .ok (.iload_n 1, 1) := by decide +kernel
theorem dX3_brackets_47 : decode cX3_brackets 47 = .ok (.iload_n 3, 1) := by decide +kernel
theorem dX3_brackets_48 : decode cX3_brackets 48 = .ok (.invokevirtual 180, 3) := by decide +kernel
theorem dX3_brackets_51 : decode cX3_brackets 51 = .ok (.istore 7, 2) := by decide +kernel
theorem dX3_brackets_53 : decode cX3_brackets 53 = .ok (.aload_n 0, 1) := by decide +kernel
theorem dX3_brackets_54 : decode cX3_brackets 54 = .ok (.aload 5, 2) := by decide +kernel
theorem dX3_brackets_56 : decode cX3_brackets 56 = .ok (.iload 7, 2) := by decide +kernel
theorem dX3_brackets_58 : decode cX3_brackets 58 = .ok (.invokevirtual 110, 3) := by decide +kernel
theorem dX3_brackets_61 : decode cX3_brackets 61 = .ok (.istore 8, 2) := by decide +kernel
theorem dX3_brackets_63 : decode cX3_brackets 63 = .ok (.aload_n 0, 1) := by decide +kernel
theorem dX3_brackets_64 : decode cX3_brackets 64 = .ok (.aload 6, 2) := by decide +kernel
theorem dX3_brackets_66 : decode cX3_brackets 66 = .ok (.iload 7, 2) := by decide +kernel
theorem dX3_brackets_68 : decode cX3_brackets 68 = .ok (.invokevirtual 110, 3) := by decide +kernel
theorem dX3_brackets_71 : decode cX3_brackets 71 = .ok (.istore 9, 2) := by decide +kernel
theorem dX3_brackets_73 : decode cX3_brackets 73 = .ok (.aload_n 0, 1) := by decide +kernel
theorem dX3_brackets_74 : decode cX3_brackets 74 = .ok (.iload 8, 2) := by decide +kernel
theorem dX3_brackets_76 : decode cX3_brackets 76 = .ok (.invokestatic 114, 3) := by decide +kernel
theorem dX3_brackets_79 : decode cX3_brackets 79 = .ok (.iload 9, 2) := by decide +kernel
theorem dX3_brackets_81 : decode cX3_brackets 81 = .ok (.invokestatic 114, 3) := by decide +kernel
theorem dX3_brackets_84 : decode cX3_brackets 84 = .ok (.iadd, 1) := by decide +kernel
theorem dX3_brackets_85 : decode cX3_brackets 85 = .ok (.iconst 1, 1) := by decide +kernel
theorem dX3_brackets_86 : decode cX3_brackets 86 = .ok (.iadd, 1) := by decide +kernel
theorem dX3_brackets_87 : decode cX3_brackets 87 = .ok (.invokevirtual 50, 3) := by decide +kernel
theorem dX3_brackets_90 : decode cX3_brackets 90 = .ok (.aload_n 0, 1) := by decide +kernel
theorem dX3_brackets_91 : decode cX3_brackets 91 = .ok (.aload 5, 2) := by decide +kernel
theorem dX3_brackets_93 : decode cX3_brackets 93 = .ok (.iload 8, 2) := by decide +kernel
theorem dX3_brackets_95 : decode cX3_brackets 95 = .ok (.iload 7, 2) := by decide +kernel
theorem dX3_brackets_97 : decode cX3_brackets 97 = .ok (.invokevirtual 117, 3) := by decide +kernel
theorem dX3_brackets_100 : decode cX3_brackets 100 = .ok (.istore 10, 2) := by decide +kernel
theorem dX3_brackets_102 : decode cX3_brackets 102 = .ok (.aload_n 0, 1) := by decide +kernel
theorem dX3_brackets_103 : decode cX3_brackets 103 = .ok (.aload 6, 2) := by decide +kernel
theorem dX3_brackets_105 : decode cX3_brackets 105 = .ok (.iload 9, 2) := by decide +kernel
theorem dX3_brackets_107 : decode cX3_brackets 107 = .ok (.iload 7, 2) := by decide +kernel
theorem dX3_brackets_109 : decode cX3_brackets 109 = .ok (.invokevirtual 117, 3) := by decide +kernel
theorem dX3_brackets_112 : decode cX3_brackets 112 = .ok (.istore 11, 2) := by decide +kernel
theorem dX3_brackets_114 : decode cX3_brackets 114 = .ok (.aload_n 0, 1) := by decide +kernel
theorem dX3_brackets_115 : decode cX3_brackets 115 = .ok (.iload 10, 2) := by decide +kernel
theorem dX3_brackets_117 : decode cX3_brackets 117 = .ok (.invokevirtual 162, 3) := by decide +kernel
theorem dX3_brackets_120 : decode cX3_brackets 120 = .ok (.istore 12, 2) := by decide +kernel
theorem dX3_brackets_122 : decode cX3_brackets 122 = .ok (.iload 12, 2) := by decide +kernel
theorem dX3_brackets_124 : decode cX3_brackets 124 = .ok (.aload_n 0, 1) := by decide +kernel
theorem dX3_brackets_125 : decode cX3_brackets 125 = .ok (.iload_n 3, 1) := by decide +kernel
theorem dX3_brackets_126 : decode cX3_brackets 126 = .ok (.invokevirtual 162, 3) := by decide +kernel
theorem dX3_brackets_129 : decode cX3_brackets 129 = .ok (.iadd, 1) := by decide +kernel
theorem dX3_brackets_130 : decode cX3_brackets 130 = .ok (.istore 13, 2) := by decide +kernel
theorem dX3_brackets_132 : decode cX3_brackets 132 = .ok (.aload_n 0, 1) := by decide +kernel
theorem dX3_brackets_133 : decode cX3_brackets 133 = .ok (.aload_n 0, 1) := by decide +kernel
theorem dX3_brackets_134 : decode cX3_brackets 134 = .ok (.iload 13, 2) := by decide +kernel
theorem dX3_brackets_136 : decode cX3_brackets 136 = .ok (.aload_n 0, 1) := by decide +kernel
theorem dX3_brackets_137 : decode cX3_brackets 137 = .ok (.iload 11, 2) := by decide +kernel
theorem dX3_brackets_139 : decode cX3_brackets 139 = .ok (.invokevirtual 162, 3) := by decide +kernel
theorem dX3_brackets_142 : decode cX3_brackets 142 = .ok (.iadd, 1) := by decide +kernel
theorem dX3_brackets_143 : decode cX3_brackets 143 = .ok (.bipush (9), 2) := by decide +kernel
theorem dX3_brackets_145 : decode cX3_brackets 145 = .ok (.newarray .int, 2) := by decide +kernel
theorem dX3_brackets_147 : decode cX3_brackets 147 = .ok (.dup, 1) := by decide +kernel
theorem dX3_brackets_148 : decode cX3_brackets 148 = .ok (.iconst 0, 1) := by decide +kernel
theorem dX3_brackets_149 : decode cX3_brackets 149 = .ok (.iload 10, 2) := by decide +kernel
theorem dX3_brackets_151 : decode cX3_brackets 151 = .ok (.iastore, 1) := by decide +kernel
theorem dX3_brackets_152 : decode cX3_brackets 152 = .ok (.dup, 1) := by decide +kernel
theorem dX3_brackets_153 : decode cX3_brackets 153 = .ok (.iconst 1, 1) := by decide +kernel
theorem dX3_brackets_154 : decode cX3_brackets 154 = .ok (.iconst 0, 1) := by decide +kernel
theorem dX3_brackets_155 : decode cX3_brackets 155 = .ok (.iastore, 1) := by decide +kernel
theorem dX3_brackets_156 : decode cX3_brackets 156 = .ok (.dup, 1) := by decide +kernel
theorem dX3_brackets_157 : decode cX3_brackets 157 = .ok (.iconst 2, 1) := by decide +kernel
theorem dX3_brackets_158 : decode cX3_brackets 158 = .ok (.aload_n 0, 1) := by decide +kernel
theorem dX3_brackets_159 : decode cX3_brackets 159 = .ok (.iload_n 1, 1) := by decide +kernel
theorem dX3_brackets_160 : decode cX3_brackets 160 = .ok (.iload 10, 2) := by decide +kernel
theorem dX3_brackets_162 : decode cX3_brackets 162 = .ok (.invokevirtual 183, 3) := by decide +kernel
theorem dX3_brackets_165 : decode cX3_brackets 165 = .ok (.iastore, 1) := by decide +kernel
theorem dX3_brackets_166 : decode cX3_brackets 166 = .ok (.dup, 1) := by decide +kernel
theorem dX3_brackets_167 : decode cX3_brackets 167 = .ok (.iconst 3, 1) := by decide +kernel
theorem dX3_brackets_168 : decode cX3_brackets 168 = .ok (.iload_n 3, 1) := by decide +kernel
theorem dX3_brackets_169 : decode cX3_brackets 169 = .ok (.iastore, 1) := by decide +kernel
theorem dX3_brackets_170 : decode cX3_brackets 170 = .ok (.dup, 1) := by decide +kernel
theorem dX3_brackets_171 : decode cX3_brackets 171 = .ok (.iconst 4, 1) := by decide +kernel
theorem dX3_brackets_172 : decode cX3_brackets 172 = .ok (.iload 12, 2) := by decide +kernel
theorem dX3_brackets_174 : decode cX3_brackets 174 = .ok (.iastore, 1) := by decide +kernel
theorem dX3_brackets_175 : decode cX3_brackets 175 = .ok (.dup, 1) := by decide +kernel
theorem dX3_brackets_176 : decode cX3_brackets 176 = .ok (.iconst 5, 1) := by decide +kernel
theorem dX3_brackets_177 : decode cX3_brackets 177 = .ok (.iconst 0, 1) := by decide +kernel
theorem dX3_brackets_178 : decode cX3_brackets 178 = .ok (.iastore, 1) := by decide +kernel
theorem dX3_brackets_179 : decode cX3_brackets 179 = .ok (.dup, 1) := by decide +kernel
theorem dX3_brackets_180 : decode cX3_brackets 180 = .ok (.bipush (6), 2) := by decide +kernel
theorem dX3_brackets_182 : decode cX3_brackets 182 = .ok (.iload 11, 2) := by decide +kernel
theorem dX3_brackets_184 : decode cX3_brackets 184 = .ok (.iastore, 1) := by decide +kernel
theorem dX3_brackets_185 : decode cX3_brackets 185 = .ok (.dup, 1) := by decide +kernel
theorem dX3_brackets_186 : decode cX3_brackets 186 = .ok (.bipush (7), 2) := by decide +kernel
theorem dX3_brackets_188 : decode cX3_brackets 188 = .ok (.iload 13, 2) := by decide +kernel
theorem dX3_brackets_190 : decode cX3_brackets 190 = .ok (.iastore, 1) := by decide +kernel
theorem dX3_brackets_191 : decode cX3_brackets 191 = .ok (.dup, 1) := by decide +kernel
theorem dX3_brackets_192 : decode cX3_brackets 192 = .ok (.bipush (8), 2) := by decide +kernel
theorem dX3_brackets_194 : decode cX3_brackets 194 = .ok (.aload_n 0, 1) := by decide +kernel
theorem dX3_brackets_195 : decode cX3_brackets 195 = .ok (.iload_n 1, 1) := by decide +kernel
theorem dX3_brackets_196 : decode cX3_brackets 196 = .ok (.iload 11, 2) := by decide +kernel
theorem dX3_brackets_198 : decode cX3_brackets 198 = .ok (.invokevirtual 183, 3) := by decide +kernel
theorem dX3_brackets_201 : decode cX3_brackets 201 = .ok (.iastore, 1) := by decide +kernel
theorem dX3_brackets_202 : decode cX3_brackets 202 = .ok (.invokevirtual 165, 3) := by decide +kernel
theorem dX3_brackets_205 : decode cX3_brackets 205 = .ok (.invokevirtual 60, 3) := by decide +kernel
theorem dX3_brackets_208 : decode cX3_brackets 208 = .ok (.ireturn, 1) := by decide +kernel
theorem dX3_row_0 : decode cX3_row 0 = .ok (.aload_n 0, 1) := by decide +kernel
theorem dX3_row_1 : decode cX3_row 1 = .ok (.iload_n 1, 1) := by decide +kernel
theorem dX3_row_2 : decode cX3_row 2 = .ok (.invokevirtual 67, 3) := by decide +kernel
theorem dX3_row_5 : decode cX3_row 5 = .ok (.aload_n 0, 1) := by decide +kernel
theorem dX3_row_6 : decode cX3_row 6 = .ok (.iload_n 3, 1) := by decide +kernel
theorem dX3_row_7 : decode cX3_row 7 = .ok (.invokevirtual 67, 3) := by decide +kernel
theorem dX3_row_10 : decode cX3_row 10 = .ok (.iload_n 2, 1) := by decide +kernel
theorem dX3_row_11 : decode cX3_row 11 = .ok (.ldc 35, 2) := by decide +kernel
theorem dX3_row_13 : decode cX3_row 13 = .ok (.ldc 36, 2) := by decide +kernel
theorem dX3_row_15 : decode cX3_row 15 = .ok (.invokestatic 37, 3) := by decide +kernel
theorem dX3_row_18 : decode cX3_row 18 = .ok (.aload_n 0, 1) := by decide +kernel
theorem dX3_row_19 : decode cX3_row 19 = .ok (.iconst 1, 1) := by decide +kernel
theorem dX3_row_20 : decode cX3_row 20 = .ok (.invokevirtual 50, 3) := by decide +kernel
theorem dX3_row_23 : decode cX3_row 23 = .ok (.aload_n 0, 1) := by decide +kernel
theorem dX3_row_24 : decode cX3_row 24 = .ok (.iload_n 1, 1) := by decide +kernel
theorem dX3_row_25 : decode cX3_row 25 = .ok (.invokevirtual 162, 3) := by decide +kernel
theorem dX3_row_28 : decode cX3_row 28 = .ok (.iload_n 2, 1) := by decide +kernel
theorem dX3_row_29 : decode cX3_row 29 = .ok (.iadd, 1) := by decide +kernel
theorem dX3_row_30 : decode cX3_row 30 = .ok (.istore 4, 2) := by decide +kernel
theorem dX3_row_32 : decode cX3_row 32 = .ok (.aload_n 0, 1) := by decide +kernel
theorem dX3_row_33 : decode cX3_row 33 = .ok (.aload_n 0, 1) := by decide +kernel
theorem dX3_row_34 : decode cX3_row 34 = .ok (.iload 4, 2) := by decide +kernel
theorem dX3_row_36 : decode cX3_row 36 = .ok (.aload_n 0, 1) := by decide +kernel
theorem dX3_row_37 : decode cX3_row 37 = .ok (.iload_n 3, 1) := by decide +kernel
theorem dX3_row_38 : decode cX3_row 38 = .ok (.invokevirtual 162, 3) := by decide +kernel
theorem dX3_row_41 : decode cX3_row 41 = .ok (.iadd, 1) := by decide +kernel
theorem dX3_row_42 : decode cX3_row 42 = .ok (.bipush (6), 2) := by decide +kernel
theorem dX3_row_44 : decode cX3_row 44 = .ok (.newarray .int, 2) := by decide +kernel
theorem dX3_row_46 : decode cX3_row 46 = .ok (.dup, 1) := by decide +kernel
theorem dX3_row_47 : decode cX3_row 47 = .ok (.iconst 0, 1) := by decide +kernel
theorem dX3_row_48 : decode cX3_row 48 = .ok (.iload_n 1, 1) := by decide +kernel
theorem dX3_row_49 : decode cX3_row 49 = .ok (.iastore, 1) := by decide +kernel
theorem dX3_row_50 : decode cX3_row 50 = .ok (.dup, 1) := by decide +kernel
theorem dX3_row_51 : decode cX3_row 51 = .ok (.iconst 1, 1) := by decide +kernel
theorem dX3_row_52 : decode cX3_row 52 = .ok (.iconst 0, 1) := by decide +kernel
theorem dX3_row_53 : decode cX3_row 53 = .ok (.iastore, 1) := by decide +kernel
theorem dX3_row_54 : decode cX3_row 54 = .ok (.dup, 1) := by decide +kernel
theorem dX3_row_55 : decode cX3_row 55 = .ok (.iconst 2, 1) := by decide +kernel
theorem dX3_row_56 : decode cX3_row 56 = .ok (.iconst 0, 1) := by decide +kernel
theorem dX3_row_57 : decode cX3_row 57 = .ok (.iastore, 1) := by decide +kernel
theorem dX3_row_58 : decode cX3_row 58 = .ok (.dup, 1) := by decide +kernel
theorem dX3_row_59 : decode cX3_row 59 = .ok (.iconst 3, 1) := by decide +kernel
theorem dX3_row_60 : decode cX3_row 60 = .ok (.iload_n 3, 1) := by decide +kernel
theorem dX3_row_61 : decode cX3_row 61 = .ok (.iastore, 1) := by decide +kernel
theorem dX3_row_62 : decode cX3_row 62 = .ok (.dup, 1) := by decide +kernel
theorem dX3_row_63 : decode cX3_row 63 = .ok (.iconst 4, 1) := by decide +kernel
theorem dX3_row_64 : decode cX3_row 64 = .ok (.iload 4, 2) := by decide +kernel
theorem dX3_row_66 : decode cX3_row 66 = .ok (.iastore, 1) := by decide +kernel
theorem dX3_row_67 : decode cX3_row 67 = .ok (.dup, 1) := by decide +kernel
theorem dX3_row_68 : decode cX3_row 68 = .ok (.iconst 5, 1) := by decide +kernel
theorem dX3_row_69 : decode cX3_row 69 = .ok (.iconst 0, 1) := by decide +kernel
theorem dX3_row_70 : decode cX3_row 70 = .ok (.iastore, 1) := by decide +kernel
theorem dX3_row_71 : decode cX3_row 71 = .ok (.invokevirtual 165, 3) := by decide +kernel
theorem dX3_row_74 : decode cX3_row 74 = .ok (.invokevirtual 60, 3) := by decide +kernel
theorem dX3_row_77 : decode cX3_row 77 = .ok (.ireturn, 1) := by decide +kernel
theorem dX3_centre_0 : decode cX3_centre 0 = .ok (.aload_n 0, 1) := by decide +kernel
theorem dX3_centre_1 : decode cX3_centre 1 = .ok (.iload_n 2, 1) := by decide +kernel
theorem dX3_centre_2 : decode cX3_centre 2 = .ok (.invokevirtual 67, 3) := by decide +kernel
theorem dX3_centre_5 : decode cX3_centre 5 = .ok (.iload_n 1, 1) := by decide +kernel
theorem dX3_centre_6 : decode cX3_centre 6 = .ok (.invokestatic 121, 3) := by decide +kernel
theorem dX3_centre_9 : decode cX3_centre 9 = .ok (.aload_n 0, 1) := by decide +kernel
theorem dX3_centre_10 : decode cX3_centre 10 = .ok (.iconst 1, 1) := by decide +kernel
theorem dX3_centre_11 : decode cX3_centre 11 = .ok (.invokevirtual 50, 3) := by decide +kernel
theorem dX3_centre_14 : decode cX3_centre 14 = .ok (.aload_n 0, 1) := by decide +kernel
theorem dX3_centre_15 : decode cX3_centre 15 = .ok (.aload_n 0, 1) := by decide +kernel
theorem dX3_centre_16 : decode cX3_centre 16 = .ok (.aload_n 0, 1) := by decide +kernel
theorem dX3_centre_17 : decode cX3_centre 17 = .ok (.iload_n 2, 1) := by decide +kernel
theorem dX3_centre_18 : decode cX3_centre 18 = .ok (.invokevirtual 162, 3) := by decide +kernel
theorem dX3_centre_21 : decode cX3_centre 21 = .ok (.iconst 3, 1) := by decide +kernel
theorem dX3_centre_22 : decode cX3_centre 22 = .ok (.newarray .int, 2) := by decide +kernel
theorem dX3_centre_24 : decode cX3_centre 24 = .ok (.dup, 1) := by decide +kernel
theorem dX3_centre_25 : decode cX3_centre 25 = .ok (.iconst 0, 1) := by decide +kernel
theorem dX3_centre_26 : decode cX3_centre 26 = .ok (.iload_n 2, 1) := by decide +kernel
theorem dX3_centre_27 : decode cX3_centre 27 = .ok (.iastore, 1) := by decide +kernel
theorem dX3_centre_28 : decode cX3_centre 28 = .ok (.dup, 1) := by decide +kernel
theorem dX3_centre_29 : decode cX3_centre 29 = .ok (.iconst 1, 1) := by decide +kernel
theorem dX3_centre_30 : decode cX3_centre 30 = .ok (.iconst 0, 1) := by decide +kernel
theorem dX3_centre_31 : decode cX3_centre 31 = .ok (.iastore, 1) := by decide +kernel
theorem dX3_centre_32 : decode cX3_centre 32 = .ok (.dup, 1) := by decide +kernel
theorem dX3_centre_33 : decode cX3_centre 33 = .ok (.iconst 2, 1) := by decide +kernel
theorem dX3_centre_34 : decode cX3_centre 34 = .ok (.aload_n 0, 1) := by decide +kernel
theorem dX3_centre_35 : decode cX3_centre 35 = .ok (.iload_n 1, 1) := by decide +kernel
theorem dX3_centre_36 : decode cX3_centre 36 = .ok (.iload_n 2, 1) := by decide +kernel
theorem dX3_centre_37 : decode cX3_centre 37 = .ok (.invokevirtual 183, 3) := by decide +kernel
theorem dX3_centre_40 : decode cX3_centre 40 = .ok (.iastore, 1) := by decide +kernel
theorem dX3_centre_41 : decode cX3_centre 41 = .ok (.invokevirtual 165, 3) := by decide +kernel
theorem dX3_centre_44 : decode cX3_centre 44 = .ok (.invokevirtual 60, 3) := by decide +kernel
theorem dX3_centre_47 : decode cX3_centre 47 = .ok (.ireturn, 1) := by decide +kernel
theorem dX3_told_0 : decode cX3_told 0 = .ok (.aload_n 0, 1) := by decide +kernel
theorem dX3_told_1 : decode cX3_told 1 = .ok (.iload_n 1, 1) := by decide +kernel
theorem dX3_told_2 : decode cX3_told 2 = .ok (.invokevirtual 67, 3) := by decide +kernel
theorem dX3_told_5 : decode cX3_told 5 = .ok (.iload_n 2, 1) := by decide +kernel
theorem dX3_told_6 : decode cX3_told 6 = .ok (.tableswitch (61) (0) (3) #[30, 36, 42, 48], 30) := by decide +kernel
theorem dX3_told_36 : decode cX3_told 36 = .ok (.aload_n 0, 1) := by decide +kernel
theorem dX3_told_37 : decode cX3_told 37 = .ok (.iload_n 1, 1) := by decide +kernel
theorem dX3_told_38 : decode cX3_told 38 = .ok (.invokevirtual 162, 3) := by decide +kernel
theorem dX3_told_41 : decode cX3_told 41 = .ok (.ireturn, 1) := by decide +kernel
theorem dX3_told_42 : decode cX3_told 42 = .ok (.aload_n 0, 1) := by decide +kernel
theorem dX3_told_43 : decode cX3_told 43 = .ok (.iload_n 1, 1) := by decide +kernel
theorem dX3_told_44 : decode cX3_told 44 = .ok (.invokevirtual 152, 3) := by decide +kernel
theorem dX3_told_47 : decode cX3_told 47 = .ok (.ireturn, 1) := by decide +kernel
theorem dX3_told_48 : decode cX3_told 48 = .ok (.aload_n 0, 1) := by decide +kernel
theorem dX3_told_49 : decode cX3_told 49 = .ok (.iload_n 1, 1) := by decide +kernel
theorem dX3_told_50 : decode cX3_told 50 = .ok (.invokevirtual 155, 3) := by decide +kernel
theorem dX3_told_53 : decode cX3_told 53 = .ok (.ireturn, 1) := by decide +kernel
theorem dX3_told_54 : decode cX3_told 54 = .ok (.aload_n 0, 1) := by decide +kernel
theorem dX3_told_55 : decode cX3_told 55 = .ok (.getfield 11, 3) := by decide +kernel
theorem dX3_told_58 : decode cX3_told 58 = .ok (.iload_n 1, 1) := by decide +kernel
theorem dX3_told_59 : decode cX3_told 59 = .ok (.aaload, 1) := by decide +kernel
theorem dX3_told_60 : decode cX3_told 60 = .ok (.getfield 186, 3) := by decide +kernel
theorem dX3_told_63 : decode cX3_told 63 = .ok (.arraylength, 1) := by decide +kernel
theorem dX3_told_64 : decode cX3_told 64 = .ok (.iconst 3, 1) := by decide +kernel
theorem dX3_told_65 : decode cX3_told 65 = .ok (.idiv, 1) := by decide +kernel
theorem dX3_told_66 : decode cX3_told 66 = .ok (.ireturn, 1) := by decide +kernel
theorem dX3_told_67 : decode cX3_told 67 = .ok (.new 26, 3) := by decide +kernel
theorem dX3_told_70 : decode cX3_told 70 = .ok (.dup, 1) := by decide +kernel
theorem dX3_told_71 : decode cX3_told 71 = .ok (.ldc 189, 2) := by decide +kernel
theorem dX3_told_73 : decode cX3_told 73 = .ok (.invokespecial 30, 3) := by decide +kernel
theorem dX3_told_76 : decode cX3_told 76 = .ok (.athrow, 1) := by decide +kernel
theorem dX3_part_0 : decode cX3_part 0 = .ok (.aload_n 0, 1) := by decide +kernel
theorem dX3_part_1 : decode cX3_part 1 = .ok (.iload_n 1, 1) := by decide +kernel
theorem dX3_part_2 : decode cX3_part 2 = .ok (.invokevirtual 67, 3) := by decide +kernel
theorem dX3_part_5 : decode cX3_part 5 = .ok (.aload_n 0, 1) := by decide +kernel
theorem dX3_part_6 : decode cX3_part 6 = .ok (.getfield 11, 3) := by decide +kernel
theorem dX3_part_9 : decode cX3_part 9 = .ok (.iload_n 1, 1) := by decide +kernel
theorem dX3_part_10 : decode cX3_part 10 = .ok (.aaload, 1) := by decide +kernel
theorem dX3_part_11 : decode cX3_part 11 = .ok (.astore 4, 2) := by decide +kernel
theorem dX3_part_13 : decode cX3_part 13 = .ok (.iload_n 2, 1) := by decide +kernel
theorem dX3_part_14 : decode cX3_part 14 = .ok (.ifCond .lt (15), 3) := by decide +kernel
theorem dX3_part_17 : decode cX3_part 17 = .ok (.iload_n 2, 1) := by decide +kernel
theorem dX3_part_18 : decode cX3_part 18 = .ok (.aload 4, 2) := by decide +kernel
theorem dX3_part_20 : decode cX3_part 20 = .ok (.getfield 186, 3) := by decide +kernel
theorem dX3_part_23 : decode cX3_part 23 = .ok (.arraylength, 1) := by decide +kernel
theorem dX3_part_24 : decode cX3_part 24 = .ok (.iconst 3, 1) := by decide +kernel
theorem dX3_part_25 : decode cX3_part 25 = .ok (.idiv, 1) := by decide +kernel
theorem dX3_part_26 : decode cX3_part 26 = .ok (.if_icmp .lt (13), 3) := by decide +kernel
theorem dX3_part_29 : decode cX3_part 29 = .ok (.new 26, 3) := by decide +kernel
theorem dX3_part_32 : decode cX3_part 32 = .ok (.dup, 1) := by decide +kernel
theorem dX3_part_33 : decode cX3_part 33 = .ok (.ldc 191, 2) := by decide +kernel
theorem dX3_part_35 : decode cX3_part 35 = .ok (.invokespecial 30, 3) := by decide +kernel
theorem dX3_part_38 : decode cX3_part 38 = .ok (.athrow, 1) := by decide +kernel
theorem dX3_part_39 : decode cX3_part 39 = .ok (.iload_n 3, 1) := by decide +kernel
theorem dX3_part_40 : decode cX3_part 40 = .ok (.ifCond .lt (8), 3) := by decide +kernel
theorem dX3_part_43 : decode cX3_part 43 = .ok (.iload_n 3, 1) := by decide +kernel
theorem dX3_part_44 : decode cX3_part 44 = .ok (.iconst 5, 1) := by decide +kernel
theorem dX3_part_45 : decode cX3_part 45 = .ok (.if_icmp .le (13), 3) := by decide +kernel
theorem dX3_part_48 : decode cX3_part 48 = .ok (.new 26, 3) := by decide +kernel
theorem dX3_part_51 : decode cX3_part 51 = .ok (.dup, 1) := by decide +kernel
theorem dX3_part_52 : decode cX3_part 52 = .ok (.ldc 193, 2) := by decide +kernel
theorem dX3_part_54 : decode cX3_part 54 = .ok (.invokespecial 30, 3) := by decide +kernel
theorem dX3_part_57 : decode cX3_part 57 = .ok (.athrow, 1) := by decide +kernel
theorem dX3_part_58 : decode cX3_part 58 = .ok (.iload_n 3, 1) := by decide +kernel
theorem dX3_part_59 : decode cX3_part 59 = .ok (.iconst 3, 1) := by decide +kernel
theorem dX3_part_60 : decode cX3_part 60 = .ok (.if_icmp .ge (15), 3) := by decide +kernel
theorem dX3_part_63 : decode cX3_part 63 = .ok (.aload 4, 2) := by decide +kernel
theorem dX3_part_65 : decode cX3_part 65 = .ok (.getfield 186, 3) := by decide +kernel
theorem dX3_part_68 : decode cX3_part 68 = .ok (.iload_n 2, 1) := by decide +kernel
theorem dX3_part_69 : decode cX3_part 69 = .ok (.iconst 3, 1) := by decide +kernel
theorem dX3_part_70 : decode cX3_part 70 = .ok (.imul, 1) := by decide +kernel
theorem dX3_part_71 : decode cX3_part 71 = .ok (.iload_n 3, 1) := by decide +kernel
theorem dX3_part_72 : decode cX3_part 72 = .ok (.iadd, 1) := by decide +kernel
theorem dX3_part_73 : decode cX3_part 73 = .ok (.iaload, 1) := by decide +kernel
theorem dX3_part_74 : decode cX3_part 74 = .ok (.ireturn, 1) := by decide +kernel
theorem dX3_part_75 : decode cX3_part 75 = .ok (.aload 4, 2) := by decide +kernel
theorem dX3_part_77 : decode cX3_part 77 = .ok (.getfield 186, 3) := by decide +kernel
theorem dX3_part_80 : decode cX3_part 80 = .ok (.iload_n 2, 1) := by decide +kernel
theorem dX3_part_81 : decode cX3_part 81 = .ok (.iconst 3, 1) := by decide +kernel
theorem dX3_part_82 : decode cX3_part 82 = .ok (.imul, 1) := by decide +kernel
theorem dX3_part_83 : decode cX3_part 83 = .ok (.iaload, 1) := by decide +kernel
theorem dX3_part_84 : decode cX3_part 84 = .ok (.istore 5, 2) := by decide +kernel
theorem dX3_part_86 : decode cX3_part 86 = .ok (.iload 5, 2) := by decide +kernel
theorem dX3_part_88 : decode cX3_part 88 = .ok (.iconst (-1), 1) := by decide +kernel
theorem dX3_part_89 : decode cX3_part 89 = .ok (.if_icmp .ne (31), 3) := by decide +kernel
theorem dX3_part_92 : decode cX3_part 92 = .ok (.iload_n 3, 1) := by decide +kernel
theorem dX3_part_93 : decode cX3_part 93 = .ok (.iconst 3, 1) := by decide +kernel
theorem dX3_part_94 : decode cX3_part 94 = .ok (.if_icmp .ne (11), 3) := by decide +kernel
theorem dX3_part_97 : decode cX3_part 97 = .ok (.aload 4, 2) := by decide +kernel
theorem dX3_part_99 : decode cX3_part 99 = .ok (.getfield 195, 3) := by decide +kernel
theorem dX3_part_102 : decode cX3_part 102 = .ok (.goto (17), 3) := by decide +kernel
theorem dX3_part_105 : decode cX3_part 105 = .ok (.iload_n 3, 1) := by decide +kernel
theorem dX3_part_106 : decode cX3_part 106 = .ok (.iconst 4, 1) := by decide +kernel
theorem dX3_part_107 : decode cX3_part 107 = .ok (.if_icmp .ne (11), 3) := by decide +kernel
theorem dX3_part_110 : decode cX3_part 110 = .ok (.aload 4, 2) := by decide +kernel
theorem dX3_part_112 : decode cX3_part 112 = .ok (.getfield 198, 3) := by decide +kernel
theorem dX3_part_115 : decode cX3_part 115 = .ok (.goto (4), 3) := by decide +kernel
theorem dX3_part_118 : decode cX3_part 118 = .ok (.iconst 0, 1) := by decide +kernel
theorem dX3_part_119 : decode cX3_part 119 = .ok (.ireturn, 1) := by decide +kernel
theorem dX3_part_120 : decode cX3_part 120 = .ok (.iload_n 3, 1) := by decide +kernel
theorem dX3_part_121 : decode cX3_part 121 = .ok (.iconst 3, 1) := by decide +kernel
theorem dX3_part_122 : decode cX3_part 122 = .ok (.if_icmp .ne (12), 3) := by decide +kernel
theorem dX3_part_125 : decode cX3_part 125 = .ok (.aload_n 0, 1) := by decide +kernel
theorem dX3_part_126 : decode cX3_part 126 = .ok (.iload 5, 2) := by decide +kernel
theorem dX3_part_128 : decode cX3_part 128 = .ok (.invokevirtual 162, 3) := by decide +kernel
theorem dX3_part_131 : decode cX3_part 131 = .ok (.goto (23), 3) := by decide +kernel
theorem dX3_part_134 : decode cX3_part 134 = .ok (.iload_n 3, 1) := by decide +kernel
theorem dX3_part_135 : decode cX3_part 135 = .ok (.iconst 4, 1) := by decide +kernel
theorem dX3_part_136 : decode cX3_part 136 = .ok (.if_icmp .ne (12), 3) := by decide +kernel
theorem dX3_part_139 : decode cX3_part 139 = .ok (.aload_n 0, 1) := by decide +kernel
theorem dX3_part_140 : decode cX3_part 140 = .ok (.iload 5, 2) := by decide +kernel
theorem dX3_part_142 : decode cX3_part 142 = .ok (.invokevirtual 152, 3) := by decide +kernel
theorem dX3_part_145 : decode cX3_part 145 = .ok (.goto (9), 3) := by decide +kernel
theorem dX3_part_148 : decode cX3_part 148 = .ok (.aload_n 0, 1) := by decide +kernel
theorem dX3_part_149 : decode cX3_part 149 = .ok (.iload 5, 2) := by decide +kernel
theorem dX3_part_151 : decode cX3_part 151 = .ok (.invokevirtual 155, 3) := by decide +kernel
theorem dX3_part_154 : decode cX3_part 154 = .ok (.ireturn, 1) := by decide +kernel
theorem dX3_boxes_0 : decode cX3_boxes 0 = .ok (.aload_n 0, 1) := by decide +kernel
theorem dX3_boxes_1 : decode cX3_boxes 1 = .ok (.getfield 201, 3) := by decide +kernel
theorem dX3_boxes_4 : decode cX3_boxes 4 = .ok (.ireturn, 1) := by decide +kernel
theorem dX3_needBox_0 : decode cX3_needBox 0 = .ok (.iload_n 1, 1) := by decide +kernel
theorem dX3_needBox_1 : decode cX3_needBox 1 = .ok (.ifCond .lt (11), 3) := by decide +kernel
theorem dX3_needBox_4 : decode cX3_needBox 4 = .ok (.iload_n 1, 1) := by decide +kernel
theorem dX3_needBox_5 : decode cX3_needBox 5 = .ok (.aload_n 0, 1) := by decide +kernel
theorem dX3_needBox_6 : decode cX3_needBox 6 = .ok (.getfield 201, 3) := by decide +kernel
theorem dX3_needBox_9 : decode cX3_needBox 9 = .ok (.if_icmp .lt (13), 3) := by decide +kernel
theorem dX3_needBox_12 : decode cX3_needBox 12 = .ok (.new 26, 3) := by decide +kernel
theorem dX3_needBox_15 : decode cX3_needBox 15 = .ok (.dup, 1) := by decide +kernel
theorem dX3_needBox_16 : decode cX3_needBox 16 = .ok (.ldc 202, 2) := by decide +kernel
theorem dX3_needBox_18 : decode cX3_needBox 18 = .ok (.invokespecial 30, 3) := by decide +kernel
theorem dX3_needBox_21 : decode cX3_needBox 21 = .ok (.athrow, 1) := by decide +kernel
theorem dX3_needBox_22 : decode cX3_needBox 22 = .ok (.return_, 1) := by decide +kernel
theorem dX3_needBoxOrNone_0 : decode cX3_needBoxOrNone 0 = .ok (.iload_n 1, 1) := by decide +kernel
theorem dX3_needBoxOrNone_1 : decode cX3_needBoxOrNone 1 = .ok (.iconst (-1), 1) := by decide +kernel
theorem dX3_needBoxOrNone_2 : decode cX3_needBoxOrNone 2 = .ok (.if_icmp .eq (8), 3) := by decide +kernel
theorem dX3_needBoxOrNone_5 : decode cX3_needBoxOrNone 5 = .ok (.aload_n 0, 1) := by decide +kernel
theorem dX3_needBoxOrNone_6 : decode cX3_needBoxOrNone 6 = .ok (.iload_n 1, 1) := by decide +kernel
theorem dX3_needBoxOrNone_7 : decode cX3_needBoxOrNone 7 = .ok (.invokevirtual 67, 3) := by decide +kernel
theorem dX3_needBoxOrNone_10 : decode cX3_needBoxOrNone 10 = .ok (.return_, 1) := by decide +kernel
theorem dX3_needFamily_0 : decode cX3_needFamily 0 = .ok (.iload_n 0, 1) := by decide +kernel
theorem dX3_needFamily_1 : decode cX3_needFamily 1 = .ok (.ifCond .lt (9), 3) := by decide +kernel
theorem dX3_needFamily_4 : decode cX3_needFamily 4 = .ok (.iload_n 0, 1) := by decide +kernel
theorem dX3_needFamily_5 : decode cX3_needFamily 5 = .ok (.bipush (8), 2) := by decide +kernel
theorem dX3_needFamily_7 : decode cX3_needFamily 7 = .ok (.if_icmp .lt (13), 3) := by decide +kernel
theorem dX3_needFamily_10 : decode cX3_needFamily 10 = .ok (.new 26, 3) := by decide +kernel
theorem dX3_needFamily_13 : decode cX3_needFamily 13 = .ok (.dup, 1) := by decide +kernel
theorem dX3_needFamily_14 : decode cX3_needFamily 14 = .ok (.ldc 204, 2) := by decide +kernel
theorem dX3_needFamily_16 : decode cX3_needFamily 16 = .ok (.invokespecial 30, 3) := by decide +kernel
theorem dX3_needFamily_19 : decode cX3_needFamily 19 = .ok (.athrow, 1) := by decide +kernel
theorem dX3_needFamily_20 : decode cX3_needFamily 20 = .ok (.return_, 1) := by decide +kernel
theorem dX3_needStyle_0 : decode cX3_needStyle 0 = .ok (.iload_n 0, 1) := by decide +kernel
theorem dX3_needStyle_1 : decode cX3_needStyle 1 = .ok (.ifCond .lt (8), 3) := by decide +kernel
theorem dX3_needStyle_4 : decode cX3_needStyle 4 = .ok (.iload_n 0, 1) := by decide +kernel
theorem dX3_needStyle_5 : decode cX3_needStyle 5 = .ok (.iconst 3, 1) := by decide +kernel
theorem dX3_needStyle_6 : decode cX3_needStyle 6 = .ok (.if_icmp .le (13), 3) := by decide +kernel
theorem dX3_needStyle_9 : decode cX3_needStyle 9 = .ok (.new 88, 3) := by decide +kernel
theorem dX3_needStyle_12 : decode cX3_needStyle 12 = .ok (.dup, 1) := by decide +kernel
theorem dX3_needStyle_13 : decode cX3_needStyle 13 = .ok (.ldc 206, 2) := by decide +kernel
theorem dX3_needStyle_15 : decode cX3_needStyle 15 = .ok (.invokespecial 92, 3) := by decide +kernel
theorem dX3_needStyle_18 : decode cX3_needStyle 18 = .ok (.athrow, 1) := by decide +kernel
theorem dX3_needStyle_19 : decode cX3_needStyle 19 = .ok (.return_, 1) := by decide +kernel
theorem dX3_needWithin_0 : decode cX3_needWithin 0 = .ok (.iload_n 0, 1) := by decide +kernel
theorem dX3_needWithin_1 : decode cX3_needWithin 1 = .ok (.iload_n 1, 1) := by decide +kernel
theorem dX3_needWithin_2 : decode cX3_needWithin 2 = .ok (.if_icmp .lt (8), 3) := by decide +kernel
theorem dX3_needWithin_5 : decode cX3_needWithin 5 = .ok (.iload_n 0, 1) := by decide +kernel
theorem dX3_needWithin_6 : decode cX3_needWithin 6 = .ok (.iload_n 2, 1) := by decide +kernel
theorem dX3_needWithin_7 : decode cX3_needWithin 7 = .ok (.if_icmp .le (13), 3) := by decide +kernel
theorem dX3_needWithin_10 : decode cX3_needWithin 10 = .ok (.new 88, 3) := by decide +kernel
theorem dX3_needWithin_13 : decode cX3_needWithin 13 = .ok (.dup, 1) := by decide +kernel
theorem dX3_needWithin_14 : decode cX3_needWithin 14 = .ok (.ldc 208, 2) := by decide +kernel
theorem dX3_needWithin_16 : decode cX3_needWithin 16 = .ok (.invokespecial 92, 3) := by decide +kernel
theorem dX3_needWithin_19 : decode cX3_needWithin 19 = .ok (.athrow, 1) := by decide +kernel
theorem dX3_needWithin_20 : decode cX3_needWithin 20 = .ok (.return_, 1) := by decide +kernel
theorem dX3_needOneOf_0 : decode cX3_needOneOf 0 = .ok (.iload_n 0, 1) := by decide +kernel
theorem dX3_needOneOf_1 : decode cX3_needOneOf 1 = .ok (.iconst (-1), 1) := by decide +kernel
theorem dX3_needOneOf_2 : decode cX3_needOneOf 2 = .ok (.if_icmp .ne (18), 3) := by decide +kernel
theorem dX3_needOneOf_5 : decode cX3_needOneOf 5 = .ok (.iload_n 1, 1) := by decide +kernel
theorem dX3_needOneOf_6 : decode cX3_needOneOf 6 = .ok (.iconst (-1), 1) := by decide +kernel
theorem dX3_needOneOf_7 : decode cX3_needOneOf 7 = .ok (.if_icmp .ne (13), 3) := by decide +kernel
theorem dX3_needOneOf_10 : decode cX3_needOneOf 10 = .ok (.new 88, 3) := by decide +kernel
theorem dX3_needOneOf_13 : decode cX3_needOneOf 13 = .ok (.dup, 1) := by decide +kernel
theorem dX3_needOneOf_14 : decode cX3_needOneOf 14 = .ok (.ldc 210, 2) := by decide +kernel
theorem dX3_needOneOf_16 : decode cX3_needOneOf 16 = .ok (.invokespecial 92, 3) := by decide +kernel
theorem dX3_needOneOf_19 : decode cX3_needOneOf 19 = .ok (.athrow, 1) := by decide +kernel
theorem dX3_needOneOf_20 : decode cX3_needOneOf 20 = .ok (.return_, 1) := by decide +kernel
theorem dX3_needSign_0 : decode cX3_needSign 0 = .ok (.aload_n 0, 1) := by decide +kernel
theorem dX3_needSign_1 : decode cX3_needSign 1 = .ok (.getfield 70, 3) := by decide +kernel
theorem dX3_needSign_4 : decode cX3_needSign 4 = .ok (.ifCond .ne (21), 3) := by decide +kernel
theorem dX3_needSign_7 : decode cX3_needSign 7 = .ok (.aload_n 0, 1) := by decide +kernel
theorem dX3_needSign_8 : decode cX3_needSign 8 = .ok (.getfield 102, 3) := by decide +kernel
theorem dX3_needSign_11 : decode cX3_needSign 11 = .ok (.iconst (-1), 1) := by decide +kernel
theorem dX3_needSign_12 : decode cX3_needSign 12 = .ok (.if_icmp .ne (13), 3) := by decide +kernel
theorem dX3_needSign_15 : decode cX3_needSign 15 = .ok (.new 212, 3) := by decide +kernel
theorem dX3_needSign_18 : decode cX3_needSign 18 = .ok (.dup, 1) := by decide +kernel
theorem dX3_needSign_19 : decode cX3_needSign 19 = .ok (.ldc 214, 2) := by decide +kernel
theorem dX3_needSign_21 : decode cX3_needSign 21 = .ok (.invokespecial 216, 3) := by decide +kernel
theorem dX3_needSign_24 : decode cX3_needSign 24 = .ok (.athrow, 1) := by decide +kernel
theorem dX3_needSign_25 : decode cX3_needSign 25 = .ok (.return_, 1) := by decide +kernel
theorem dX3_needRoom_0 : decode cX3_needRoom 0 = .ok (.aload_n 0, 1) := by decide +kernel
theorem dX3_needRoom_1 : decode cX3_needRoom 1 = .ok (.getfield 201, 3) := by decide +kernel
theorem dX3_needRoom_4 : decode cX3_needRoom 4 = .ok (.iload_n 1, 1) := by decide +kernel
theorem dX3_needRoom_5 : decode cX3_needRoom 5 = .ok (.iadd, 1) := by decide +kernel
theorem dX3_needRoom_6 : decode cX3_needRoom 6 = .ok (.bipush (120), 2) := by decide +kernel
theorem dX3_needRoom_8 : decode cX3_needRoom 8 = .ok (.if_icmp .le (13), 3) := by decide +kernel
theorem dX3_needRoom_11 : decode cX3_needRoom 11 = .ok (.new 73, 3) := by decide +kernel
theorem dX3_needRoom_14 : decode cX3_needRoom 14 = .ok (.dup, 1) := by decide +kernel
theorem dX3_needRoom_15 : decode cX3_needRoom 15 = .ok (.ldc 217, 2) := by decide +kernel
theorem dX3_needRoom_17 : decode cX3_needRoom 17 = .ok (.invokespecial 77, 3) := by decide +kernel
theorem dX3_needRoom_20 : decode cX3_needRoom 20 = .ok (.athrow, 1) := by decide +kernel
theorem dX3_needRoom_21 : decode cX3_needRoom 21 = .ok (.return_, 1) := by decide +kernel
theorem dX3_keep_0 : decode cX3_keep 0 = .ok (.aload_n 0, 1) := by decide +kernel
theorem dX3_keep_1 : decode cX3_keep 1 = .ok (.getfield 201, 3) := by decide +kernel
theorem dX3_keep_4 : decode cX3_keep 4 = .ok (.istore_n 2, 1) := by decide +kernel
theorem dX3_keep_5 : decode cX3_keep 5 = .ok (.aload_n 0, 1) := by decide +kernel
theorem dX3_keep_6 : decode cX3_keep 6 = .ok (.getfield 11, 3) := by decide +kernel
theorem dX3_keep_9 : decode cX3_keep 9 = .ok (.iload_n 2, 1) := by decide +kernel
theorem dX3_keep_10 : decode cX3_keep 10 = .ok (.aload_n 1, 1) := by decide +kernel
theorem dX3_keep_11 : decode cX3_keep 11 = .ok (.aastore, 1) := by decide +kernel
theorem dX3_keep_12 : decode cX3_keep 12 = .ok (.aload_n 0, 1) := by decide +kernel
theorem dX3_keep_13 : decode cX3_keep 13 = .ok (.dup, 1) := by decide +kernel
theorem dX3_keep_14 : decode cX3_keep 14 = .ok (.getfield 201, 3) := by decide +kernel
theorem dX3_keep_17 : decode cX3_keep 17 = .ok (.iconst 1, 1) := by decide +kernel
theorem dX3_keep_18 : decode cX3_keep 18 = .ok (.iadd, 1) := by decide +kernel
theorem dX3_keep_19 : decode cX3_keep 19 = .ok (.putfield 201, 3) := by decide +kernel
theorem dX3_keep_22 : decode cX3_keep 22 = .ok (.iload_n 2, 1) := by decide +kernel
theorem dX3_keep_23 : decode cX3_keep 23 = .ok (.ireturn, 1) := by decide +kernel
theorem dX3_widthOf_0 : decode cX3_widthOf 0 = .ok (.aload_n 0, 1) := by decide +kernel
theorem dX3_widthOf_1 : decode cX3_widthOf 1 = .ok (.getfield 11, 3) := by decide +kernel
theorem dX3_widthOf_4 : decode cX3_widthOf 4 = .ok (.iload_n 1, 1) := by decide +kernel
theorem dX3_widthOf_5 : decode cX3_widthOf 5 = .ok (.aaload, 1) := by decide +kernel
theorem dX3_widthOf_6 : decode cX3_widthOf 6 = .ok (.getfield 219, 3) := by decide +kernel
theorem dX3_widthOf_9 : decode cX3_widthOf 9 = .ok (.ireturn, 1) := by decide +kernel
theorem dX3_heightOf_0 : decode cX3_heightOf 0 = .ok (.aload_n 0, 1) := by decide +kernel
theorem dX3_heightOf_1 : decode cX3_heightOf 1 = .ok (.getfield 11, 3) := by decide +kernel
theorem dX3_heightOf_4 : decode cX3_heightOf 4 = .ok (.iload_n 1, 1) := by decide +kernel
theorem dX3_heightOf_5 : decode cX3_heightOf 5 = .ok (.aaload, 1) := by decide +kernel
theorem dX3_heightOf_6 : decode cX3_heightOf 6 = .ok (.getfield 222, 3) := by decide +kernel
theorem dX3_heightOf_9 : decode cX3_heightOf 9 = .ok (.ireturn, 1) := by decide +kernel
theorem dX3_depthOf_0 : decode cX3_depthOf 0 = .ok (.aload_n 0, 1) := by decide +kernel
theorem dX3_depthOf_1 : decode cX3_depthOf 1 = .ok (.getfield 11, 3) := by decide +kernel
theorem dX3_depthOf_4 : decode cX3_depthOf 4 = .ok (.iload_n 1, 1) := by decide +kernel
theorem dX3_depthOf_5 : decode cX3_depthOf 5 = .ok (.aaload, 1) := by decide +kernel
theorem dX3_depthOf_6 : decode cX3_depthOf 6 = .ok (.getfield 225, 3) := by decide +kernel
theorem dX3_depthOf_9 : decode cX3_depthOf 9 = .ok (.ireturn, 1) := by decide +kernel
theorem dX3_extentOf_0 : decode cX3_extentOf 0 = .ok (.iload_n 1, 1) := by decide +kernel
theorem dX3_extentOf_1 : decode cX3_extentOf 1 = .ok (.iconst (-1), 1) := by decide +kernel
theorem dX3_extentOf_2 : decode cX3_extentOf 2 = .ok (.if_icmp .ne (7), 3) := by decide +kernel
theorem dX3_extentOf_5 : decode cX3_extentOf 5 = .ok (.iconst 0, 1) := by decide +kernel
theorem dX3_extentOf_6 : decode cX3_extentOf 6 = .ok (.goto (22), 3) := by decide +kernel
theorem dX3_extentOf_9 : decode cX3_extentOf 9 = .ok (.aload_n 0, 1) := by decide +kernel
theorem dX3_extentOf_10 : decode cX3_extentOf 10 = .ok (.getfield 11, 3) := by decide +kernel
theorem dX3_extentOf_13 : decode cX3_extentOf 13 = .ok (.iload_n 1, 1) := by decide +kernel
theorem dX3_extentOf_14 : decode cX3_extentOf 14 = .ok (.aaload, 1) := by decide +kernel
theorem dX3_extentOf_15 : decode cX3_extentOf 15 = .ok (.getfield 222, 3) := by decide +kernel
theorem dX3_extentOf_18 : decode cX3_extentOf 18 = .ok (.aload_n 0, 1) := by decide +kernel
theorem dX3_extentOf_19 : decode cX3_extentOf 19 = .ok (.getfield 11, 3) := by decide +kernel
theorem dX3_extentOf_22 : decode cX3_extentOf 22 = .ok (.iload_n 1, 1) := by decide +kernel
theorem dX3_extentOf_23 : decode cX3_extentOf 23 = .ok (.aaload, 1) := by decide +kernel
theorem dX3_extentOf_24 : decode cX3_extentOf 24 = .ok (.getfield 225, 3) := by decide +kernel
theorem dX3_extentOf_27 : decode cX3_extentOf 27 = .ok (.iadd, 1) := by decide +kernel
theorem dX3_extentOf_28 : decode cX3_extentOf 28 = .ok (.ireturn, 1) := by decide +kernel
theorem dX3_valueOf_0 : decode cX3_valueOf 0 = .ok (.iload_n 1, 1) := by decide +kernel
theorem dX3_valueOf_1 : decode cX3_valueOf 1 = .ok (.iconst 1, 1) := by decide +kernel
theorem dX3_valueOf_2 : decode cX3_valueOf 2 = .ok (.if_icmp .gt (7), 3) := by decide +kernel
theorem dX3_valueOf_5 : decode cX3_valueOf 5 = .ok (.iconst 0, 1) := by decide +kernel
theorem dX3_valueOf_6 : decode cX3_valueOf 6 = .ok (.goto (6), 3) := by decide +kernel
theorem dX3_valueOf_9 : decode cX3_valueOf 9 = .ok (.iload_n 1, 1) := by decide +kernel
theorem dX3_valueOf_10 : decode cX3_valueOf 10 = .ok (.iconst 1, 1) := by decide +kernel
theorem dX3_valueOf_11 : decode cX3_valueOf 11 = .ok (.isub, 1) := by decide +kernel
theorem dX3_valueOf_12 : decode cX3_valueOf 12 = .ok (.istore_n 3, 1) := by decide +kernel
theorem dX3_valueOf_13 : decode cX3_valueOf 13 = .ok (.aload_n 0, 1) := by decide +kernel
theorem dX3_valueOf_14 : decode cX3_valueOf 14 = .ok (.getfield 22, 3) := by decide +kernel
theorem dX3_valueOf_17 : decode cX3_valueOf 17 = .ok (.iload_n 3, 1) := by decide +kernel
theorem dX3_valueOf_18 : decode cX3_valueOf 18 = .ok (.bipush (21), 2) := by decide +kernel
theorem dX3_valueOf_20 : decode cX3_valueOf 20 = .ok (.imul, 1) := by decide +kernel
theorem dX3_valueOf_21 : decode cX3_valueOf 21 = .ok (.iload_n 2, 1) := by decide +kernel
theorem dX3_valueOf_22 : decode cX3_valueOf 22 = .ok (.iadd, 1) := by decide +kernel
theorem dX3_valueOf_23 : decode cX3_valueOf 23 = .ok (.iaload, 1) := by decide +kernel
theorem dX3_valueOf_24 : decode cX3_valueOf 24 = .ok (.ireturn, 1) := by decide +kernel
theorem dX3_half_0 : decode cX3_half 0 = .ok (.iload_n 0, 1) := by decide +kernel
theorem dX3_half_1 : decode cX3_half 1 = .ok (.iconst 2, 1) := by decide +kernel
theorem dX3_half_2 : decode cX3_half 2 = .ok (.irem, 1) := by decide +kernel
theorem dX3_half_3 : decode cX3_half 3 = .ok (.ifCond .ne (9), 3) := by decide +kernel
theorem dX3_half_6 : decode cX3_half 6 = .ok (.iload_n 0, 1) := by decide +kernel
theorem dX3_half_7 : decode cX3_half 7 = .ok (.iconst 2, 1) := by decide +kernel
theorem dX3_half_8 : decode cX3_half 8 = .ok (.idiv, 1) := by decide +kernel
theorem dX3_half_9 : decode cX3_half 9 = .ok (.goto (8), 3) := by decide +kernel
theorem dX3_half_12 : decode cX3_half 12 = .ok (.iload_n 0, 1) := by decide +kernel
theorem dX3_half_13 : decode cX3_half 13 = .ok (.iconst 1, 1) := by decide +kernel
theorem dX3_half_14 : decode cX3_half 14 = .ok (.iadd, 1) := by decide +kernel
theorem dX3_half_15 : decode cX3_half 15 = .ok (.iconst 2, 1) := by decide +kernel
theorem dX3_half_16 : decode cX3_half 16 = .ok (.idiv, 1) := by decide +kernel
theorem dX3_half_17 : decode cX3_half 17 = .ok (.ireturn, 1) := by decide +kernel
theorem dX3_onAxis_0 : decode cX3_onAxis 0 = .ok (.aload_n 0, 1) := by decide +kernel
theorem dX3_onAxis_1 : decode cX3_onAxis 1 = .ok (.iload_n 1, 1) := by decide +kernel
theorem dX3_onAxis_2 : decode cX3_onAxis 2 = .ok (.iconst 0, 1) := by decide +kernel
theorem dX3_onAxis_3 : decode cX3_onAxis 3 = .ok (.invokevirtual 135, 3) := by decide +kernel
theorem dX3_onAxis_6 : decode cX3_onAxis 6 = .ok (.aload_n 0, 1) := by decide +kernel
theorem dX3_onAxis_7 : decode cX3_onAxis 7 = .ok (.iload_n 2, 1) := by decide +kernel
theorem dX3_onAxis_8 : decode cX3_onAxis 8 = .ok (.invokevirtual 152, 3) := by decide +kernel
theorem dX3_onAxis_11 : decode cX3_onAxis 11 = .ok (.aload_n 0, 1) := by decide +kernel
theorem dX3_onAxis_12 : decode cX3_onAxis 12 = .ok (.iload_n 2, 1) := by decide +kernel
theorem dX3_onAxis_13 : decode cX3_onAxis 13 = .ok (.invokevirtual 155, 3) := by decide +kernel
theorem dX3_onAxis_16 : decode cX3_onAxis 16 = .ok (.isub, 1) := by decide +kernel
theorem dX3_onAxis_17 : decode cX3_onAxis 17 = .ok (.invokestatic 228, 3) := by decide +kernel
theorem dX3_onAxis_20 : decode cX3_onAxis 20 = .ok (.isub, 1) := by decide +kernel
theorem dX3_onAxis_21 : decode cX3_onAxis 21 = .ok (.ireturn, 1) := by decide +kernel
theorem dX3_enclosing_0 : decode cX3_enclosing 0 = .ok (.iconst 0, 1) := by decide +kernel
theorem dX3_enclosing_1 : decode cX3_enclosing 1 = .ok (.istore_n 3, 1) := by decide +kernel
theorem dX3_enclosing_2 : decode cX3_enclosing 2 = .ok (.iconst 0, 1) := by decide +kernel
theorem dX3_enclosing_3 : decode cX3_enclosing 3 = .ok (.istore 4, 2) := by decide +kernel
theorem dX3_enclosing_5 : decode cX3_enclosing 5 = .ok (.iconst 0, 1) := by decide +kernel
theorem dX3_enclosing_6 : decode cX3_enclosing 6 = .ok (.istore 5, 2) := by decide +kernel
theorem dX3_enclosing_8 : decode cX3_enclosing 8 = .ok (.iload 5, 2) := by decide +kernel
theorem dX3_enclosing_10 : decode cX3_enclosing 10 = .ok (.iconst 3, 1) := by decide +kernel
theorem dX3_enclosing_11 : decode cX3_enclosing 11 = .ok (.iadd, 1) := by decide +kernel
theorem dX3_enclosing_12 : decode cX3_enclosing 12 = .ok (.aload_n 2, 1) := by decide +kernel
theorem dX3_enclosing_13 : decode cX3_enclosing 13 = .ok (.arraylength, 1) := by decide +kernel
theorem dX3_enclosing_14 : decode cX3_enclosing 14 = .ok (.if_icmp .gt (81), 3) := by decide +kernel
theorem dX3_enclosing_17 : decode cX3_enclosing 17 = .ok (.aload_n 2, 1) := by decide +kernel
theorem dX3_enclosing_18 : decode cX3_enclosing 18 = .ok (.iload 5, 2) := by decide +kernel
theorem dX3_enclosing_20 : decode cX3_enclosing 20 = .ok (.iaload, 1) := by decide +kernel
theorem dX3_enclosing_21 : decode cX3_enclosing 21 = .ok (.istore 6, 2) := by decide +kernel
theorem dX3_enclosing_23 : decode cX3_enclosing 23 = .ok (.aload_n 2, 1) := by decide +kernel
theorem dX3_enclosing_24 : decode cX3_enclosing 24 = .ok (.iload 5, 2) := by decide +kernel
theorem dX3_enclosing_26 : decode cX3_enclosing 26 = .ok (.iconst 2, 1) := by decide +kernel
theorem dX3_enclosing_27 : decode cX3_enclosing 27 = .ok (.iadd, 1) := by decide +kernel
theorem dX3_enclosing_28 : decode cX3_enclosing 28 = .ok (.iaload, 1) := by decide +kernel
theorem dX3_enclosing_29 : decode cX3_enclosing 29 = .ok (.istore 7, 2) := by decide +kernel
theorem dX3_enclosing_31 : decode cX3_enclosing 31 = .ok (.iload 7, 2) := by decide +kernel
theorem dX3_enclosing_33 : decode cX3_enclosing 33 = .ok (.aload_n 0, 1) := by decide +kernel
theorem dX3_enclosing_34 : decode cX3_enclosing 34 = .ok (.iload 6, 2) := by decide +kernel
theorem dX3_enclosing_36 : decode cX3_enclosing 36 = .ok (.invokevirtual 152, 3) := by decide +kernel
theorem dX3_enclosing_39 : decode cX3_enclosing 39 = .ok (.iadd, 1) := by decide +kernel
theorem dX3_enclosing_40 : decode cX3_enclosing 40 = .ok (.istore 8, 2) := by decide +kernel
theorem dX3_enclosing_42 : decode cX3_enclosing 42 = .ok (.aload_n 0, 1) := by decide +kernel
theorem dX3_enclosing_43 : decode cX3_enclosing 43 = .ok (.iload 6, 2) := by decide +kernel
theorem dX3_enclosing_45 : decode cX3_enclosing 45 = .ok (.invokevirtual 155, 3) := by decide +kernel
theorem dX3_enclosing_48 : decode cX3_enclosing 48 = .ok (.iload 7, 2) := by decide +kernel
theorem dX3_enclosing_50 : decode cX3_enclosing 50 = .ok (.isub, 1) := by decide +kernel
theorem dX3_enclosing_51 : decode cX3_enclosing 51 = .ok (.istore 9, 2) := by decide +kernel
theorem dX3_enclosing_53 : decode cX3_enclosing 53 = .ok (.iload 5, 2) := by decide +kernel
theorem dX3_enclosing_55 : decode cX3_enclosing 55 = .ok (.ifCond .ne (8), 3) := by decide +kernel
theorem dX3_enclosing_58 : decode cX3_enclosing 58 = .ok (.iload 8, 2) := by decide +kernel
theorem dX3_enclosing_60 : decode cX3_enclosing 60 = .ok (.goto (9), 3) := by decide +kernel
theorem dX3_enclosing_63 : decode cX3_enclosing 63 = .ok (.iload_n 3, 1) := by decide +kernel
theorem dX3_enclosing_64 : decode cX3_enclosing 64 = .ok (.iload 8, 2) := by decide +kernel
theorem dX3_enclosing_66 : decode cX3_enclosing 66 = .ok (.invokestatic 139, 3) := by decide +kernel
theorem dX3_enclosing_69 : decode cX3_enclosing 69 = .ok (.istore_n 3, 1) := by decide +kernel
theorem dX3_enclosing_70 : decode cX3_enclosing 70 = .ok (.iload 5, 2) := by decide +kernel
theorem dX3_enclosing_72 : decode cX3_enclosing 72 = .ok (.ifCond .ne (8), 3) := by decide +kernel
theorem dX3_enclosing_75 : decode cX3_enclosing 75 = .ok (.iload 9, 2) := by decide +kernel
theorem dX3_enclosing_77 : decode cX3_enclosing 77 = .ok (.goto (10), 3) := by decide +kernel
theorem dX3_enclosing_80 : decode cX3_enclosing 80 = .ok (.iload 4, 2) := by decide +kernel
theorem dX3_enclosing_82 : decode cX3_enclosing 82 = .ok (.iload 9, 2) := by decide +kernel
theorem dX3_enclosing_84 : decode cX3_enclosing 84 = .ok (.invokestatic 139, 3) := by decide +kernel
theorem dX3_enclosing_87 : decode cX3_enclosing 87 = .ok (.istore 4, 2) := by decide +kernel
theorem dX3_enclosing_89 : decode cX3_enclosing 89 = .ok (.iinc 5 (3), 3) := by decide +kernel
theorem dX3_enclosing_92 : decode cX3_enclosing 92 = .ok (.goto (-84), 3) := by decide +kernel
theorem dX3_enclosing_95 : decode cX3_enclosing 95 = .ok (.new 9, 3) := by decide +kernel
theorem dX3_enclosing_98 : decode cX3_enclosing 98 = .ok (.dup, 1) := by decide +kernel
theorem dX3_enclosing_99 : decode cX3_enclosing 99 = .ok (.iload_n 1, 1) := by decide +kernel
theorem dX3_enclosing_100 : decode cX3_enclosing 100 = .ok (.iload_n 3, 1) := by decide +kernel
theorem dX3_enclosing_101 : decode cX3_enclosing 101 = .ok (.iload 4, 2) := by decide +kernel
theorem dX3_enclosing_103 : decode cX3_enclosing 103 = .ok (.aload_n 2, 1) := by decide +kernel
theorem dX3_enclosing_104 : decode cX3_enclosing 104 = .ok (.invokespecial 57, 3) := by decide +kernel
theorem dX3_enclosing_107 : decode cX3_enclosing 107 = .ok (.areturn, 1) := by decide +kernel
theorem dX3_readySign_0 : decode cX3_readySign 0 = .ok (.iconst 0, 1) := by decide +kernel
theorem dX3_readySign_1 : decode cX3_readySign 1 = .ok (.istore_n 3, 1) := by decide +kernel
theorem dX3_readySign_2 : decode cX3_readySign 2 = .ok (.iload_n 3, 1) := by decide +kernel
theorem dX3_readySign_3 : decode cX3_readySign 3 = .ok (.aload_n 1, 1) := by decide +kernel
theorem dX3_readySign_4 : decode cX3_readySign 4 = .ok (.getfield 70, 3) := by decide +kernel
theorem dX3_readySign_7 : decode cX3_readySign 7 = .ok (.if_icmp .ge (30), 3) := by decide +kernel
theorem dX3_readySign_10 : decode cX3_readySign 10 = .ok (.aload_n 0, 1) := by decide +kernel
theorem dX3_readySign_11 : decode cX3_readySign 11 = .ok (.aload_n 1, 1) := by decide +kernel
theorem dX3_readySign_12 : decode cX3_readySign 12 = .ok (.getfield 78, 3) := by decide +kernel
theorem dX3_readySign_15 : decode cX3_readySign 15 = .ok (.iload_n 3, 1) := by decide +kernel
theorem dX3_readySign_16 : decode cX3_readySign 16 = .ok (.iaload, 1) := by decide +kernel
theorem dX3_readySign_17 : decode cX3_readySign 17 = .ok (.invokevirtual 84, 3) := by decide +kernel
theorem dX3_readySign_20 : decode cX3_readySign 20 = .ok (.iload_n 2, 1) := by decide +kernel
theorem dX3_readySign_21 : decode cX3_readySign 21 = .ok (.if_icmp .lt (10), 3) := by decide +kernel
theorem dX3_readySign_24 : decode cX3_readySign 24 = .ok (.aload_n 1, 1) := by decide +kernel
theorem dX3_readySign_25 : decode cX3_readySign 25 = .ok (.getfield 78, 3) := by decide +kernel
theorem dX3_readySign_28 : decode cX3_readySign 28 = .ok (.iload_n 3, 1) := by decide +kernel
theorem dX3_readySign_29 : decode cX3_readySign 29 = .ok (.iaload, 1) := by decide +kernel
theorem dX3_readySign_30 : decode cX3_readySign 30 = .ok (.ireturn, 1) := by decide +kernel
theorem dX3_readySign_31 : decode cX3_readySign 31 = .ok (.iinc 3 (1), 3) := by decide +kernel
theorem dX3_readySign_34 : decode cX3_readySign 34 = .ok (.goto (-32), 3) := by decide +kernel
theorem dX3_readySign_37 : decode cX3_readySign 37 = .ok (.aload_n 1, 1) := by decide +kernel
theorem dX3_readySign_38 : decode cX3_readySign 38 = .ok (.getfield 102, 3) := by decide +kernel
theorem dX3_readySign_41 : decode cX3_readySign 41 = .ok (.iconst (-1), 1) := by decide +kernel
theorem dX3_readySign_42 : decode cX3_readySign 42 = .ok (.if_icmp .ne (10), 3) := by decide +kernel
theorem dX3_readySign_45 : decode cX3_readySign 45 = .ok (.aload_n 1, 1) := by decide +kernel
theorem dX3_readySign_46 : decode cX3_readySign 46 = .ok (.getfield 70, 3) := by decide +kernel
theorem dX3_readySign_49 : decode cX3_readySign 49 = .ok (.ifCond .ne (7), 3) := by decide +kernel
theorem dX3_readySign_52 : decode cX3_readySign 52 = .ok (.iconst (-1), 1) := by decide +kernel
theorem dX3_readySign_53 : decode cX3_readySign 53 = .ok (.goto (14), 3) := by decide +kernel
theorem dX3_readySign_56 : decode cX3_readySign 56 = .ok (.aload_n 1, 1) := by decide +kernel
theorem dX3_readySign_57 : decode cX3_readySign 57 = .ok (.getfield 78, 3) := by decide +kernel
theorem dX3_readySign_60 : decode cX3_readySign 60 = .ok (.aload_n 1, 1) := by decide +kernel
theorem dX3_readySign_61 : decode cX3_readySign 61 = .ok (.getfield 70, 3) := by decide +kernel
theorem dX3_readySign_64 : decode cX3_readySign 64 = .ok (.iconst 1, 1) := by decide +kernel
theorem dX3_readySign_65 : decode cX3_readySign 65 = .ok (.isub, 1) := by decide +kernel
theorem dX3_readySign_66 : decode cX3_readySign 66 = .ok (.iaload, 1) := by decide +kernel
theorem dX3_readySign_67 : decode cX3_readySign 67 = .ok (.ireturn, 1) := by decide +kernel
theorem dX3_newBoxesFor_0 : decode cX3_newBoxesFor 0 = .ok (.iload_n 0, 1) := by decide +kernel
theorem dX3_newBoxesFor_1 : decode cX3_newBoxesFor 1 = .ok (.iconst (-1), 1) := by decide +kernel
theorem dX3_newBoxesFor_2 : decode cX3_newBoxesFor 2 = .ok (.if_icmp .ne (7), 3) := by decide +kernel
theorem dX3_newBoxesFor_5 : decode cX3_newBoxesFor 5 = .ok (.iconst 1, 1) := by decide +kernel
theorem dX3_newBoxesFor_6 : decode cX3_newBoxesFor 6 = .ok (.goto (4), 3) := by decide +kernel
theorem dX3_newBoxesFor_9 : decode cX3_newBoxesFor 9 = .ok (.iconst 0, 1) := by decide +kernel
theorem dX3_newBoxesFor_10 : decode cX3_newBoxesFor 10 = .ok (.ireturn, 1) := by decide +kernel
theorem dX3_keptSign_0 : decode cX3_keptSign 0 = .ok (.iload_n 2, 1) := by decide +kernel
theorem dX3_keptSign_1 : decode cX3_keptSign 1 = .ok (.iconst (-1), 1) := by decide +kernel
theorem dX3_keptSign_2 : decode cX3_keptSign 2 = .ok (.if_icmp .ne (16), 3) := by decide +kernel
theorem dX3_keptSign_5 : decode cX3_keptSign 5 = .ok (.aload_n 0, 1) := by decide +kernel
theorem dX3_keptSign_6 : decode cX3_keptSign 6 = .ok (.aload_n 0, 1) := by decide +kernel
theorem dX3_keptSign_7 : decode cX3_keptSign 7 = .ok (.aload_n 1, 1) := by decide +kernel
theorem dX3_keptSign_8 : decode cX3_keptSign 8 = .ok (.iload_n 3, 1) := by decide +kernel
theorem dX3_keptSign_9 : decode cX3_keptSign 9 = .ok (.invokevirtual 231, 3) := by decide +kernel
theorem dX3_keptSign_12 : decode cX3_keptSign 12 = .ok (.invokevirtual 60, 3) := by decide +kernel
theorem dX3_keptSign_15 : decode cX3_keptSign 15 = .ok (.goto (4), 3) := by decide +kernel
theorem dX3_keptSign_18 : decode cX3_keptSign 18 = .ok (.iload_n 2, 1) := by decide +kernel
theorem dX3_keptSign_19 : decode cX3_keptSign 19 = .ok (.ireturn, 1) := by decide +kernel
theorem dX3_putTogether_0 : decode cX3_putTogether 0 = .ok (.aload_n 1, 1) := by decide +kernel
theorem dX3_putTogether_1 : decode cX3_putTogether 1 = .ok (.getfield 96, 3) := by decide +kernel
theorem dX3_putTogether_4 : decode cX3_putTogether 4 = .ok (.iconst (-1), 1) := by decide +kernel
theorem dX3_putTogether_5 : decode cX3_putTogether 5 = .ok (.if_icmp .eq (7), 3) := by decide +kernel
theorem dX3_putTogether_8 : decode cX3_putTogether 8 = .ok (.iconst 1, 1) := by decide +kernel
theorem dX3_putTogether_9 : decode cX3_putTogether 9 = .ok (.goto (4), 3) := by decide +kernel
theorem dX3_putTogether_12 : decode cX3_putTogether 12 = .ok (.iconst 0, 1) := by decide +kernel
theorem dX3_putTogether_13 : decode cX3_putTogether 13 = .ok (.istore_n 3, 1) := by decide +kernel
theorem dX3_putTogether_14 : decode cX3_putTogether 14 = .ok (.aload_n 0, 1) := by decide +kernel
theorem dX3_putTogether_15 : decode cX3_putTogether 15 = .ok (.aload_n 1, 1) := by decide +kernel
theorem dX3_putTogether_16 : decode cX3_putTogether 16 = .ok (.getfield 102, 3) := by decide +kernel
theorem dX3_putTogether_19 : decode cX3_putTogether 19 = .ok (.invokevirtual 84, 3) := by decide +kernel
theorem dX3_putTogether_22 : decode cX3_putTogether 22 = .ok (.istore 4, 2) := by decide +kernel
theorem dX3_putTogether_24 : decode cX3_putTogether 24 = .ok (.iload_n 3, 1) := by decide +kernel
theorem dX3_putTogether_25 : decode cX3_putTogether 25 = .ok (.ifCond .eq (10), 3) := by decide +kernel
theorem dX3_putTogether_28 : decode cX3_putTogether 28 = .ok (.iconst 2, 1) := by decide +kernel
theorem dX3_putTogether_29 : decode cX3_putTogether 29 = .ok (.iload 4, 2) := by decide +kernel
theorem dX3_putTogether_31 : decode cX3_putTogether 31 = .ok (.imul, 1) := by decide +kernel
theorem dX3_putTogether_32 : decode cX3_putTogether 32 = .ok (.goto (5), 3) := by decide +kernel
theorem dX3_putTogether_35 : decode cX3_putTogether 35 = .ok (.iload 4, 2) := by decide +kernel
theorem dX3_putTogether_37 : decode cX3_putTogether 37 = .ok (.istore 5, 2) := by decide +kernel
theorem dX3_putTogether_39 : decode cX3_putTogether 39 = .ok (.aload_n 0, 1) := by decide +kernel
theorem dX3_putTogether_40 : decode cX3_putTogether 40 = .ok (.aload_n 1, 1) := by decide +kernel
theorem dX3_putTogether_41 : decode cX3_putTogether 41 = .ok (.getfield 93, 3) := by decide +kernel
theorem dX3_putTogether_44 : decode cX3_putTogether 44 = .ok (.invokevirtual 84, 3) := by decide +kernel
theorem dX3_putTogether_47 : decode cX3_putTogether 47 = .ok (.aload_n 0, 1) := by decide +kernel
theorem dX3_putTogether_48 : decode cX3_putTogether 48 = .ok (.aload_n 1, 1) := by decide +kernel
theorem dX3_putTogether_49 : decode cX3_putTogether 49 = .ok (.getfield 96, 3) := by decide +kernel
theorem dX3_putTogether_52 : decode cX3_putTogether 52 = .ok (.invokevirtual 84, 3) := by decide +kernel
theorem dX3_putTogether_55 : decode cX3_putTogether 55 = .ok (.iadd, 1) := by decide +kernel
theorem dX3_putTogether_56 : decode cX3_putTogether 56 = .ok (.aload_n 0, 1) := by decide +kernel
theorem dX3_putTogether_57 : decode cX3_putTogether 57 = .ok (.aload_n 1, 1) := by decide +kernel
theorem dX3_putTogether_58 : decode cX3_putTogether 58 = .ok (.getfield 99, 3) := by decide +kernel
theorem dX3_putTogether_61 : decode cX3_putTogether 61 = .ok (.invokevirtual 84, 3) := by decide +kernel
theorem dX3_putTogether_64 : decode cX3_putTogether 64 = .ok (.iadd, 1) := by decide +kernel
theorem dX3_putTogether_65 : decode cX3_putTogether 65 = .ok (.istore 6, 2) := by decide +kernel
theorem dX3_putTogether_67 : decode cX3_putTogether 67 = .ok (.iconst 0, 1) := by decide +kernel
theorem dX3_putTogether_68 : decode cX3_putTogether 68 = .ok (.istore 7, 2) := by decide +kernel
theorem dX3_putTogether_70 : decode cX3_putTogether 70 = .ok (.iload 7, 2) := by decide +kernel
theorem dX3_putTogether_72 : decode cX3_putTogether 72 = .ok (.bipush (60), 2) := by decide +kernel
theorem dX3_putTogether_74 : decode cX3_putTogether 74 = .ok (.if_icmp .ge (22), 3) := by decide +kernel
theorem dX3_putTogether_77 : decode cX3_putTogether 77 = .ok (.iload 6, 2) := by decide +kernel
theorem dX3_putTogether_79 : decode cX3_putTogether 79 = .ok (.iload_n 2, 1) := by decide +kernel
theorem dX3_putTogether_80 : decode cX3_putTogether 80 = .ok (.if_icmp .ge (16), 3) := by decide +kernel
theorem dX3_putTogether_83 : decode cX3_putTogether 83 = .ok (.iload 6, 2) := by decide +kernel
theorem dX3_putTogether_85 : decode cX3_putTogether 85 = .ok (.iload 5, 2) := by decide +kernel
theorem dX3_putTogether_87 : decode cX3_putTogether 87 = .ok (.iadd, 1) := by decide +kernel
theorem dX3_putTogether_88 : decode cX3_putTogether 88 = .ok (.istore 6, 2) := by decide +kernel
theorem dX3_putTogether_90 : decode cX3_putTogether 90 = .ok (.iinc 7 (1), 3) := by decide +kernel
theorem dX3_putTogether_93 : decode cX3_putTogether 93 = .ok (.goto (-23), 3) := by decide +kernel
theorem dX3_putTogether_96 : decode cX3_putTogether 96 = .ok (.aload_n 1, 1) := by decide +kernel
theorem dX3_putTogether_97 : decode cX3_putTogether 97 = .ok (.getfield 93, 3) := by decide +kernel
theorem dX3_putTogether_100 : decode cX3_putTogether 100 = .ok (.invokestatic 235, 3) := by decide +kernel
theorem dX3_putTogether_103 : decode cX3_putTogether 103 = .ok (.aload_n 1, 1) := by decide +kernel
theorem dX3_putTogether_104 : decode cX3_putTogether 104 = .ok (.getfield 96, 3) := by decide +kernel
theorem dX3_putTogether_107 : decode cX3_putTogether 107 = .ok (.invokestatic 235, 3) := by decide +kernel
theorem dX3_putTogether_110 : decode cX3_putTogether 110 = .ok (.iadd, 1) := by decide +kernel
theorem dX3_putTogether_111 : decode cX3_putTogether 111 = .ok (.aload_n 1, 1) := by decide +kernel
theorem dX3_putTogether_112 : decode cX3_putTogether 112 = .ok (.getfield 99, 3) := by decide +kernel
theorem dX3_putTogether_115 : decode cX3_putTogether 115 = .ok (.invokestatic 235, 3) := by decide +kernel
theorem dX3_putTogether_118 : decode cX3_putTogether 118 = .ok (.iadd, 1) := by decide +kernel
theorem dX3_putTogether_119 : decode cX3_putTogether 119 = .ok (.istore 8, 2) := by decide +kernel
theorem dX3_putTogether_121 : decode cX3_putTogether 121 = .ok (.new 238, 3) := by decide +kernel
theorem dX3_putTogether_124 : decode cX3_putTogether 124 = .ok (.dup, 1) := by decide +kernel
theorem dX3_putTogether_125 : decode cX3_putTogether 125 = .ok (.iload 8, 2) := by decide +kernel
theorem dX3_putTogether_127 : decode cX3_putTogether 127 = .ok (.iload_n 3, 1) := by decide +kernel
theorem dX3_putTogether_128 : decode cX3_putTogether 128 = .ok (.ifCond .eq (10), 3) := by decide +kernel
theorem dX3_putTogether_131 : decode cX3_putTogether 131 = .ok (.iconst 2, 1) := by decide +kernel
theorem dX3_putTogether_132 : decode cX3_putTogether 132 = .ok (.iload 7, 2) := by decide +kernel
theorem dX3_putTogether_134 : decode cX3_putTogether 134 = .ok (.imul, 1) := by decide +kernel
theorem dX3_putTogether_135 : decode cX3_putTogether 135 = .ok (.goto (5), 3) := by decide +kernel
theorem dX3_putTogether_138 : decode cX3_putTogether 138 = .ok (.iload 7, 2) := by decide +kernel
theorem dX3_putTogether_140 : decode cX3_putTogether 140 = .ok (.iadd, 1) := by decide +kernel
theorem dX3_putTogether_141 : decode cX3_putTogether 141 = .ok (.invokespecial 240, 3) := by decide +kernel
theorem dX3_putTogether_144 : decode cX3_putTogether 144 = .ok (.astore 9, 2) := by decide +kernel
theorem dX3_putTogether_146 : decode cX3_putTogether 146 = .ok (.aload_n 0, 1) := by decide +kernel
theorem dX3_putTogether_147 : decode cX3_putTogether 147 = .ok (.aload 9, 2) := by decide +kernel
theorem dX3_putTogether_149 : decode cX3_putTogether 149 = .ok (.aload_n 1, 1) := by decide +kernel
theorem dX3_putTogether_150 : decode cX3_putTogether 150 = .ok (.getfield 99, 3) := by decide +kernel
theorem dX3_putTogether_153 : decode cX3_putTogether 153 = .ok (.iconst 1, 1) := by decide +kernel
theorem dX3_putTogether_154 : decode cX3_putTogether 154 = .ok (.invokevirtual 242, 3) := by decide +kernel
theorem dX3_putTogether_157 : decode cX3_putTogether 157 = .ok (.aload_n 0, 1) := by decide +kernel
theorem dX3_putTogether_158 : decode cX3_putTogether 158 = .ok (.aload 9, 2) := by decide +kernel
theorem dX3_putTogether_160 : decode cX3_putTogether 160 = .ok (.aload_n 1, 1) := by decide +kernel
theorem dX3_putTogether_161 : decode cX3_putTogether 161 = .ok (.getfield 102, 3) := by decide +kernel
theorem dX3_putTogether_164 : decode cX3_putTogether 164 = .ok (.iload 7, 2) := by decide +kernel
theorem dX3_putTogether_166 : decode cX3_putTogether 166 = .ok (.invokevirtual 242, 3) := by decide +kernel
theorem dX3_putTogether_169 : decode cX3_putTogether 169 = .ok (.iload_n 3, 1) := by decide +kernel
theorem dX3_putTogether_170 : decode cX3_putTogether 170 = .ok (.ifCond .eq (26), 3) := by decide +kernel
theorem dX3_putTogether_173 : decode cX3_putTogether 173 = .ok (.aload_n 0, 1) := by decide +kernel
theorem dX3_putTogether_174 : decode cX3_putTogether 174 = .ok (.aload 9, 2) := by decide +kernel
theorem dX3_putTogether_176 : decode cX3_putTogether 176 = .ok (.aload_n 1, 1) := by decide +kernel
theorem dX3_putTogether_177 : decode cX3_putTogether 177 = .ok (.getfield 96, 3) := by decide +kernel
theorem dX3_putTogether_180 : decode cX3_putTogether 180 = .ok (.iconst 1, 1) := by decide +kernel
theorem dX3_putTogether_181 : decode cX3_putTogether 181 = .ok (.invokevirtual 242, 3) := by decide +kernel
theorem dX3_putTogether_184 : decode cX3_putTogether 184 = .ok (.aload_n 0, 1) := by decide +kernel
theorem dX3_putTogether_185 : decode cX3_putTogether 185 = .ok (.aload 9, 2) := by decide +kernel
theorem dX3_putTogether_187 : decode cX3_putTogether 187 = .ok (.aload_n 1, 1) := by decide +kernel
theorem dX3_putTogether_188 : decode cX3_putTogether 188 = .ok (.getfield 102, 3) := by decide +kernel
theorem dX3_putTogether_191 : decode cX3_putTogether 191 = .ok (.iload 7, 2) := by decide +kernel
theorem dX3_putTogether_193 : decode cX3_putTogether 193 = .ok (.invokevirtual 242, 3) := by decide +kernel
theorem dX3_putTogether_196 : decode cX3_putTogether 196 = .ok (.aload_n 0, 1) := by decide +kernel
theorem dX3_putTogether_197 : decode cX3_putTogether 197 = .ok (.aload 9, 2) := by decide +kernel
theorem dX3_putTogether_199 : decode cX3_putTogether 199 = .ok (.aload_n 1, 1) := by decide +kernel
theorem dX3_putTogether_200 : decode cX3_putTogether 200 = .ok (.getfield 93, 3) := by decide +kernel
theorem dX3_putTogether_203 : decode cX3_putTogether 203 = .ok (.iconst 1, 1) := by decide +kernel
theorem dX3_putTogether_204 : decode cX3_putTogether 204 = .ok (.invokevirtual 242, 3) := by decide +kernel
theorem dX3_putTogether_207 : decode cX3_putTogether 207 = .ok (.aload 9, 2) := by decide +kernel
theorem dX3_putTogether_209 : decode cX3_putTogether 209 = .ok (.invokevirtual 246, 3) := by decide +kernel
theorem dX3_putTogether_212 : decode cX3_putTogether 212 = .ok (.areturn, 1) := by decide +kernel
theorem dX3_oneIfThere_0 : decode cX3_oneIfThere 0 = .ok (.iload_n 0, 1) := by decide +kernel
theorem dX3_oneIfThere_1 : decode cX3_oneIfThere 1 = .ok (.iconst (-1), 1) := by decide +kernel
theorem dX3_oneIfThere_2 : decode cX3_oneIfThere 2 = .ok (.if_icmp .ne (7), 3) := by decide +kernel
theorem dX3_oneIfThere_5 : decode cX3_oneIfThere 5 = .ok (.iconst 0, 1) := by decide +kernel
theorem dX3_oneIfThere_6 : decode cX3_oneIfThere 6 = .ok (.goto (4), 3) := by decide +kernel
theorem dX3_oneIfThere_9 : decode cX3_oneIfThere 9 = .ok (.iconst 1, 1) := by decide +kernel
theorem dX3_oneIfThere_10 : decode cX3_oneIfThere 10 = .ok (.ireturn, 1) := by decide +kernel
theorem dX3_pileUp_0 : decode cX3_pileUp 0 = .ok (.iload_n 2, 1) := by decide +kernel
theorem dX3_pileUp_1 : decode cX3_pileUp 1 = .ok (.iconst (-1), 1) := by decide +kernel
theorem dX3_pileUp_2 : decode cX3_pileUp 2 = .ok (.if_icmp .ne (4), 3) := by decide +kernel
theorem dX3_pileUp_5 : decode cX3_pileUp 5 = .ok (.return_, 1) := by decide +kernel
theorem dX3_pileUp_6 : decode cX3_pileUp 6 = .ok (.iconst 0, 1) := by decide +kernel
theorem dX3_pileUp_7 : decode cX3_pileUp 7 = .ok (.istore 4, 2) := by decide +kernel
theorem dX3_pileUp_9 : decode cX3_pileUp 9 = .ok (.iload 4, 2) := by decide +kernel
theorem dX3_pileUp_11 : decode cX3_pileUp 11 = .ok (.iload_n 3, 1) := by decide +kernel
theorem dX3_pileUp_12 : decode cX3_pileUp 12 = .ok (.if_icmp .ge (20), 3) := by decide +kernel
theorem dX3_pileUp_15 : decode cX3_pileUp 15 = .ok (.aload_n 1, 1) := by decide +kernel
theorem dX3_pileUp_16 : decode cX3_pileUp 16 = .ok (.iload_n 2, 1) := by decide +kernel
theorem dX3_pileUp_17 : decode cX3_pileUp 17 = .ok (.aload_n 0, 1) := by decide +kernel
theorem dX3_pileUp_18 : decode cX3_pileUp 18 = .ok (.getfield 11, 3) := by decide +kernel
theorem dX3_pileUp_21 : decode cX3_pileUp 21 = .ok (.iload_n 2, 1) := by decide +kernel
theorem dX3_pileUp_22 : decode cX3_pileUp 22 = .ok (.aaload, 1) := by decide +kernel
theorem dX3_pileUp_23 : decode cX3_pileUp 23 = .ok (.invokevirtual 250, 3) := by decide +kernel
theorem dX3_pileUp_26 : decode cX3_pileUp 26 = .ok (.iinc 4 (1), 3) := by decide +kernel
theorem dX3_pileUp_29 : decode cX3_pileUp 29 = .ok (.goto (-20), 3) := by decide +kernel
theorem dX3_pileUp_32 : decode cX3_pileUp 32 = .ok (.return_, 1) := by decide +kernel
theorem dX3_fractionBare_0 : decode cX3_fractionBare 0 = .ok (.iload_n 1, 1) := by decide +kernel
theorem dX3_fractionBare_1 : decode cX3_fractionBare 1 = .ok (.ifCond .ne (7), 3) := by decide +kernel
theorem dX3_fractionBare_4 : decode cX3_fractionBare 4 = .ok (.iconst 1, 1) := by decide +kernel
theorem dX3_fractionBare_5 : decode cX3_fractionBare 5 = .ok (.goto (4), 3) := by decide +kernel
theorem dX3_fractionBare_8 : decode cX3_fractionBare 8 = .ok (.iconst 0, 1) := by decide +kernel
theorem dX3_fractionBare_9 : decode cX3_fractionBare 9 = .ok (.istore 4, 2) := by decide +kernel
theorem dX3_fractionBare_11 : decode cX3_fractionBare 11 = .ok (.aload_n 0, 1) := by decide +kernel
theorem dX3_fractionBare_12 : decode cX3_fractionBare 12 = .ok (.iload_n 1, 1) := by decide +kernel
theorem dX3_fractionBare_13 : decode cX3_fractionBare 13 = .ok (.iload 4, 2) := by decide +kernel
theorem dX3_fractionBare_15 : decode cX3_fractionBare 15 = .ok (.ifCond .eq (7), 3) := by decide +kernel
theorem dX3_fractionBare_18 : decode cX3_fractionBare 18 = .ok (.iconst 1, 1) := by decide +kernel
theorem dX3_fractionBare_19 : decode cX3_fractionBare 19 = .ok (.goto (4), 3) := by decide +kernel
theorem dX3_fractionBare_22 : decode cX3_fractionBare 22 = .ok (.iconst 3, 1) := by decide +kernel
theorem dX3_fractionBare_23 : decode cX3_fractionBare 23 = .ok (.invokevirtual 135, 3) := by decide +kernel
theorem dX3_fractionBare_26 : decode cX3_fractionBare 26 = .ok (.istore 5, 2) := by decide +kernel
theorem dX3_fractionBare_28 : decode cX3_fractionBare 28 = .ok (.aload_n 0, 1) := by decide +kernel
theorem dX3_fractionBare_29 : decode cX3_fractionBare 29 = .ok (.iload_n 1, 1) := by decide +kernel
theorem dX3_fractionBare_30 : decode cX3_fractionBare 30 = .ok (.iload 4, 2) := by decide +kernel
theorem dX3_fractionBare_32 : decode cX3_fractionBare 32 = .ok (.ifCond .eq (7), 3) := by decide +kernel
theorem dX3_fractionBare_35 : decode cX3_fractionBare 35 = .ok (.iconst 4, 1) := by decide +kernel
theorem dX3_fractionBare_36 : decode cX3_fractionBare 36 = .ok (.goto (4), 3) := by decide +kernel
theorem dX3_fractionBare_39 : decode cX3_fractionBare 39 = .ok (.iconst 5, 1) := by decide +kernel
theorem dX3_fractionBare_40 : decode cX3_fractionBare 40 = .ok (.invokevirtual 135, 3) := by decide +kernel
theorem dX3_fractionBare_43 : decode cX3_fractionBare 43 = .ok (.istore 6, 2) := by decide +kernel
theorem dX3_fractionBare_45 : decode cX3_fractionBare 45 = .ok (.iload 4, 2) := by decide +kernel
theorem dX3_fractionBare_47 : decode cX3_fractionBare 47 = .ok (.ifCond .eq (8), 3) := by decide +kernel
theorem dX3_fractionBare_50 : decode cX3_fractionBare 50 = .ok (.bipush (7), 2) := by decide +kernel
theorem dX3_fractionBare_52 : decode cX3_fractionBare 52 = .ok (.goto (4), 3) := by decide +kernel
theorem dX3_fractionBare_55 : decode cX3_fractionBare 55 = .ok (.iconst 3, 1) := by decide +kernel
theorem dX3_fractionBare_56 : decode cX3_fractionBare 56 = .ok (.aload_n 0, 1) := by decide +kernel
theorem dX3_fractionBare_57 : decode cX3_fractionBare 57 = .ok (.iload_n 1, 1) := by decide +kernel
theorem dX3_fractionBare_58 : decode cX3_fractionBare 58 = .ok (.bipush (13), 2) := by decide +kernel
theorem dX3_fractionBare_60 : decode cX3_fractionBare 60 = .ok (.invokevirtual 135, 3) := by decide +kernel
theorem dX3_fractionBare_63 : decode cX3_fractionBare 63 = .ok (.imul, 1) := by decide +kernel
theorem dX3_fractionBare_64 : decode cX3_fractionBare 64 = .ok (.istore 7, 2) := by decide +kernel
theorem dX3_fractionBare_66 : decode cX3_fractionBare 66 = .ok (.iload 7, 2) := by decide +kernel
theorem dX3_fractionBare_68 : decode cX3_fractionBare 68 = .ok (.iload 5, 2) := by decide +kernel
theorem dX3_fractionBare_70 : decode cX3_fractionBare 70 = .ok (.aload_n 0, 1) := by decide +kernel
theorem dX3_fractionBare_71 : decode cX3_fractionBare 71 = .ok (.iload_n 2, 1) := by decide +kernel
theorem dX3_fractionBare_72 : decode cX3_fractionBare 72 = .ok (.invokevirtual 155, 3) := by decide +kernel
theorem dX3_fractionBare_75 : decode cX3_fractionBare 75 = .ok (.isub, 1) := by decide +kernel
theorem dX3_fractionBare_76 : decode cX3_fractionBare 76 = .ok (.aload_n 0, 1) := by decide +kernel
theorem dX3_fractionBare_77 : decode cX3_fractionBare 77 = .ok (.iload_n 3, 1) := by decide +kernel
theorem dX3_fractionBare_78 : decode cX3_fractionBare 78 = .ok (.invokevirtual 152, 3) := by decide +kernel
theorem dX3_fractionBare_81 : decode cX3_fractionBare 81 = .ok (.iload 6, 2) := by decide +kernel
theorem dX3_fractionBare_83 : decode cX3_fractionBare 83 = .ok (.isub, 1) := by decide +kernel
theorem dX3_fractionBare_84 : decode cX3_fractionBare 84 = .ok (.isub, 1) := by decide +kernel
theorem dX3_fractionBare_85 : decode cX3_fractionBare 85 = .ok (.isub, 1) := by decide +kernel
theorem dX3_fractionBare_86 : decode cX3_fractionBare 86 = .ok (.invokestatic 228, 3) := by decide +kernel
theorem dX3_fractionBare_89 : decode cX3_fractionBare 89 = .ok (.istore 8, 2) := by decide +kernel
theorem dX3_fractionBare_91 : decode cX3_fractionBare 91 = .ok (.iload 8, 2) := by decide +kernel
theorem dX3_fractionBare_93 : decode cX3_fractionBare 93 = .ok (.ifCond .le (17), 3) := by decide +kernel
theorem dX3_fractionBare_96 : decode cX3_fractionBare 96 = .ok (.iload 5, 2) := by decide +kernel
theorem dX3_fractionBare_98 : decode cX3_fractionBare 98 = .ok (.iload 8, 2) := by decide +kernel
theorem dX3_fractionBare_100 : decode cX3_fractionBare 100 = .ok (.iadd, 1) := by decide +kernel
theorem dX3_fractionBare_101 : decode cX3_fractionBare 101 = .ok (.istore 5, 2) := by decide +kernel
theorem dX3_fractionBare_103 : decode cX3_fractionBare 103 = .ok (.iload 6, 2) := by decide +kernel
theorem dX3_fractionBare_105 : decode cX3_fractionBare 105 = .ok (.iload 8, 2) := by decide +kernel
theorem dX3_fractionBare_107 : decode cX3_fractionBare 107 = .ok (.iadd, 1) := by decide +kernel
theorem dX3_fractionBare_108 : decode cX3_fractionBare 108 = .ok (.istore 6, 2) := by decide +kernel
theorem dX3_fractionBare_110 : decode cX3_fractionBare 110 = .ok (.aload_n 0, 1) := by decide +kernel
theorem dX3_fractionBare_111 : decode cX3_fractionBare 111 = .ok (.iload_n 2, 1) := by decide +kernel
theorem dX3_fractionBare_112 : decode cX3_fractionBare 112 = .ok (.invokevirtual 162, 3) := by decide +kernel
theorem dX3_fractionBare_115 : decode cX3_fractionBare 115 = .ok (.aload_n 0, 1) := by decide +kernel
theorem dX3_fractionBare_116 : decode cX3_fractionBare 116 = .ok (.iload_n 3, 1) := by decide +kernel
theorem dX3_fractionBare_117 : decode cX3_fractionBare 117 = .ok (.invokevirtual 162, 3) := by decide +kernel
theorem dX3_fractionBare_120 : decode cX3_fractionBare 120 = .ok (.invokestatic 139, 3) := by decide +kernel
theorem dX3_fractionBare_123 : decode cX3_fractionBare 123 = .ok (.istore 9, 2) := by decide +kernel
theorem dX3_fractionBare_125 : decode cX3_fractionBare 125 = .ok (.new 9, 3) := by decide +kernel
theorem dX3_fractionBare_128 : decode cX3_fractionBare 128 = .ok (.dup, 1) := by decide +kernel
theorem dX3_fractionBare_129 : decode cX3_fractionBare 129 = .ok (.iload 9, 2) := by decide +kernel
theorem dX3_fractionBare_131 : decode cX3_fractionBare 131 = .ok (.iload 5, 2) := by decide +kernel
theorem dX3_fractionBare_133 : decode cX3_fractionBare 133 = .ok (.aload_n 0, 1) := by decide +kernel
theorem dX3_fractionBare_134 : decode cX3_fractionBare 134 = .ok (.iload_n 2, 1) := by decide +kernel
theorem dX3_fractionBare_135 : decode cX3_fractionBare 135 = .ok (.invokevirtual 152, 3) := by decide +kernel
theorem dX3_fractionBare_138 : decode cX3_fractionBare 138 = .ok (.iadd, 1) := by decide +kernel
theorem dX3_fractionBare_139 : decode cX3_fractionBare 139 = .ok (.aload_n 0, 1) := by decide +kernel
theorem dX3_fractionBare_140 : decode cX3_fractionBare 140 = .ok (.iload_n 3, 1) := by decide +kernel
theorem dX3_fractionBare_141 : decode cX3_fractionBare 141 = .ok (.invokevirtual 155, 3) := by decide +kernel
theorem dX3_fractionBare_144 : decode cX3_fractionBare 144 = .ok (.iload 6, 2) := by decide +kernel
theorem dX3_fractionBare_146 : decode cX3_fractionBare 146 = .ok (.iadd, 1) := by decide +kernel
theorem dX3_fractionBare_147 : decode cX3_fractionBare 147 = .ok (.bipush (6), 2) := by decide +kernel
theorem dX3_fractionBare_149 : decode cX3_fractionBare 149 = .ok (.newarray .int, 2) := by decide +kernel
theorem dX3_fractionBare_151 : decode cX3_fractionBare 151 = .ok (.dup, 1) := by decide +kernel
theorem dX3_fractionBare_152 : decode cX3_fractionBare 152 = .ok (.iconst 0, 1) := by decide +kernel
theorem dX3_fractionBare_153 : decode cX3_fractionBare 153 = .ok (.iload_n 2, 1) := by decide +kernel
theorem dX3_fractionBare_154 : decode cX3_fractionBare 154 = .ok (.iastore, 1) := by decide +kernel
theorem dX3_fractionBare_155 : decode cX3_fractionBare 155 = .ok (.dup, 1) := by decide +kernel
theorem dX3_fractionBare_156 : decode cX3_fractionBare 156 = .ok (.iconst 1, 1) := by decide +kernel
theorem dX3_fractionBare_157 : decode cX3_fractionBare 157 = .ok (.iload 9, 2) := by decide +kernel
theorem dX3_fractionBare_159 : decode cX3_fractionBare 159 = .ok (.aload_n 0, 1) := by decide +kernel
theorem dX3_fractionBare_160 : decode cX3_fractionBare 160 = .ok (.iload_n 2, 1) := by decide +kernel
theorem dX3_fractionBare_161 : decode cX3_fractionBare 161 = .ok (.invokevirtual 162, 3) := by decide +kernel
theorem dX3_fractionBare_164 : decode cX3_fractionBare 164 = .ok (.isub, 1) := by decide +kernel
theorem dX3_fractionBare_165 : decode cX3_fractionBare 165 = .ok (.invokestatic 228, 3) := by decide +kernel
theorem dX3_fractionBare_168 : decode cX3_fractionBare 168 = .ok (.iastore, 1) := by decide +kernel
theorem dX3_fractionBare_169 : decode cX3_fractionBare 169 = .ok (.dup, 1) := by decide +kernel
theorem dX3_fractionBare_170 : decode cX3_fractionBare 170 = .ok (.iconst 2, 1) := by decide +kernel
theorem dX3_fractionBare_171 : decode cX3_fractionBare 171 = .ok (.iload 5, 2) := by decide +kernel
theorem dX3_fractionBare_173 : decode cX3_fractionBare 173 = .ok (.iastore, 1) := by decide +kernel
theorem dX3_fractionBare_174 : decode cX3_fractionBare 174 = .ok (.dup, 1) := by decide +kernel
theorem dX3_fractionBare_175 : decode cX3_fractionBare 175 = .ok (.iconst 3, 1) := by decide +kernel
theorem dX3_fractionBare_176 : decode cX3_fractionBare 176 = .ok (.iload_n 3, 1) := by decide +kernel
theorem dX3_fractionBare_177 : decode cX3_fractionBare 177 = .ok (.iastore, 1) := by decide +kernel
theorem dX3_fractionBare_178 : decode cX3_fractionBare 178 = .ok (.dup, 1) := by decide +kernel
theorem dX3_fractionBare_179 : decode cX3_fractionBare 179 = .ok (.iconst 4, 1) := by decide +kernel
theorem dX3_fractionBare_180 : decode cX3_fractionBare 180 = .ok (.iload 9, 2) := by decide +kernel
theorem dX3_fractionBare_182 : decode cX3_fractionBare 182 = .ok (.aload_n 0, 1) := by decide +kernel
theorem dX3_fractionBare_183 : decode cX3_fractionBare 183 = .ok (.iload_n 3, 1) := by decide +kernel
theorem dX3_fractionBare_184 : decode cX3_fractionBare 184 = .ok (.invokevirtual 162, 3) := by decide +kernel
theorem dX3_fractionBare_187 : decode cX3_fractionBare 187 = .ok (.isub, 1) := by decide +kernel
theorem dX3_fractionBare_188 : decode cX3_fractionBare 188 = .ok (.invokestatic 228, 3) := by decide +kernel
theorem dX3_fractionBare_191 : decode cX3_fractionBare 191 = .ok (.iastore, 1) := by decide +kernel
theorem dX3_fractionBare_192 : decode cX3_fractionBare 192 = .ok (.dup, 1) := by decide +kernel
theorem dX3_fractionBare_193 : decode cX3_fractionBare 193 = .ok (.iconst 5, 1) := by decide +kernel
theorem dX3_fractionBare_194 : decode cX3_fractionBare 194 = .ok (.iload 6, 2) := by decide +kernel
theorem dX3_fractionBare_196 : decode cX3_fractionBare 196 = .ok (.ineg, 1) := by decide +kernel
theorem dX3_fractionBare_197 : decode cX3_fractionBare 197 = .ok (.iastore, 1) := by decide +kernel
theorem dX3_fractionBare_198 : decode cX3_fractionBare 198 = .ok (.invokespecial 57, 3) := by decide +kernel
theorem dX3_fractionBare_201 : decode cX3_fractionBare 201 = .ok (.areturn, 1) := by decide +kernel
theorem dX3_fractionWithLine_0 : decode cX3_fractionWithLine 0 = .ok (.iload_n 1, 1) := by decide +kernel
theorem dX3_fractionWithLine_1 : decode cX3_fractionWithLine 1 = .ok (.ifCond .ne (7), 3) := by decide +kernel
theorem dX3_fractionWithLine_4 : decode cX3_fractionWithLine 4 = .ok (.iconst 1, 1) := by decide +kernel
theorem dX3_fractionWithLine_5 : decode cX3_fractionWithLine 5 = .ok (.goto (4), 3) := by decide +kernel
theorem dX3_fractionWithLine_8 : decode cX3_fractionWithLine 8 = .ok (.iconst 0, 1) := by decide +kernel
theorem dX3_fractionWithLine_9 : decode cX3_fractionWithLine 9 = .ok (.istore 5, 2) := by decide +kernel
theorem dX3_fractionWithLine_11 : decode cX3_fractionWithLine 11 = .ok (.aload_n 0, 1) := by decide +kernel
theorem dX3_fractionWithLine_12 : decode cX3_fractionWithLine 12 = .ok (.iload_n 1, 1) := by decide +kernel
theorem dX3_fractionWithLine_13 : decode cX3_fractionWithLine 13 = .ok (.iload 5, 2) := by decide +kernel
theorem dX3_fractionWithLine_15 : decode cX3_fractionWithLine 15 = .ok (.ifCond .eq (7), 3) := by decide +kernel
theorem dX3_fractionWithLine_18 : decode cX3_fractionWithLine 18 = .ok (.iconst 1, 1) := by decide +kernel
theorem dX3_fractionWithLine_19 : decode cX3_fractionWithLine 19 = .ok (.goto (4), 3) := by decide +kernel
theorem dX3_fractionWithLine_22 : decode cX3_fractionWithLine 22 = .ok (.iconst 2, 1) := by decide +kernel
theorem dX3_fractionWithLine_23 : decode cX3_fractionWithLine 23 = .ok (.invokevirtual 135, 3) := by decide +kernel
theorem dX3_fractionWithLine_26 : decode cX3_fractionWithLine 26 = .ok (.istore 6, 2) := by decide +kernel
theorem dX3_fractionWithLine_28 : decode cX3_fractionWithLine 28 = .ok (.aload_n 0, 1) := by decide +kernel
theorem dX3_fractionWithLine_29 : decode cX3_fractionWithLine 29 = .ok (.iload_n 1, 1) := by decide +kernel
theorem dX3_fractionWithLine_30 : decode cX3_fractionWithLine 30 = .ok (.iload 5, 2) := by decide +kernel
theorem dX3_fractionWithLine_32 : decode cX3_fractionWithLine 32 = .ok (.ifCond .eq (7), 3) := by decide +kernel
theorem dX3_fractionWithLine_35 : decode cX3_fractionWithLine 35 = .ok (.iconst 4, 1) := by decide +kernel
theorem dX3_fractionWithLine_36 : decode cX3_fractionWithLine 36 = .ok (.goto (4), 3) := by decide +kernel
theorem dX3_fractionWithLine_39 : decode cX3_fractionWithLine 39 = .ok (.iconst 5, 1) := by decide +kernel
theorem dX3_fractionWithLine_40 : decode cX3_fractionWithLine 40 = .ok (.invokevirtual 135, 3) := by decide +kernel
theorem dX3_fractionWithLine_43 : decode cX3_fractionWithLine 43 = .ok (.istore 7, 2) := by decide +kernel
theorem dX3_fractionWithLine_45 : decode cX3_fractionWithLine 45 = .ok (.aload_n 0, 1) := by decide +kernel
theorem dX3_fractionWithLine_46 : decode cX3_fractionWithLine 46 = .ok (.iload_n 1, 1) := by decide +kernel
theorem dX3_fractionWithLine_47 : decode cX3_fractionWithLine 47 = .ok (.iconst 0, 1) := by decide +kernel
theorem dX3_fractionWithLine_48 : decode cX3_fractionWithLine 48 = .ok (.invokevirtual 135, 3) := by decide +kernel
theorem dX3_fractionWithLine_51 : decode cX3_fractionWithLine 51 = .ok (.istore 8, 2) := by decide +kernel
theorem dX3_fractionWithLine_53 : decode cX3_fractionWithLine 53 = .ok (.iload 4, 2) := by decide +kernel
theorem dX3_fractionWithLine_55 : decode cX3_fractionWithLine 55 = .ok (.invokestatic 228, 3) := by decide +kernel
theorem dX3_fractionWithLine_58 : decode cX3_fractionWithLine 58 = .ok (.istore 9, 2) := by decide +kernel
theorem dX3_fractionWithLine_60 : decode cX3_fractionWithLine 60 = .ok (.iload 5, 2) := by decide +kernel
theorem dX3_fractionWithLine_62 : decode cX3_fractionWithLine 62 = .ok (.ifCond .eq (10), 3) := by decide +kernel
theorem dX3_fractionWithLine_65 : decode cX3_fractionWithLine 65 = .ok (.iconst 3, 1) := by decide +kernel
theorem dX3_fractionWithLine_66 : decode cX3_fractionWithLine 66 = .ok (.iload 4, 2) := by decide +kernel
theorem dX3_fractionWithLine_68 : decode cX3_fractionWithLine 68 = .ok (.imul, 1) := by decide +kernel
theorem dX3_fractionWithLine_69 : decode cX3_fractionWithLine 69 = .ok (.goto (5), 3) := by decide +kernel
theorem dX3_fractionWithLine_72 : decode cX3_fractionWithLine 72 = .ok (.iload 4, 2) := by decide +kernel
theorem dX3_fractionWithLine_74 : decode cX3_fractionWithLine 74 = .ok (.istore 10, 2) := by decide +kernel
theorem dX3_fractionWithLine_76 : decode cX3_fractionWithLine 76 = .ok (.iload 6, 2) := by decide +kernel
theorem dX3_fractionWithLine_78 : decode cX3_fractionWithLine 78 = .ok (.iconst 0, 1) := by decide +kernel
theorem dX3_fractionWithLine_79 : decode cX3_fractionWithLine 79 = .ok (.iload 10, 2) := by decide +kernel
theorem dX3_fractionWithLine_81 : decode cX3_fractionWithLine 81 = .ok (.iload 6, 2) := by decide +kernel
theorem dX3_fractionWithLine_83 : decode cX3_fractionWithLine 83 = .ok (.aload_n 0, 1) := by decide +kernel
theorem dX3_fractionWithLine_84 : decode cX3_fractionWithLine 84 = .ok (.iload_n 2, 1) := by decide +kernel
theorem dX3_fractionWithLine_85 : decode cX3_fractionWithLine 85 = .ok (.invokevirtual 155, 3) := by decide +kernel
theorem dX3_fractionWithLine_88 : decode cX3_fractionWithLine 88 = .ok (.isub, 1) := by decide +kernel
theorem dX3_fractionWithLine_89 : decode cX3_fractionWithLine 89 = .ok (.iload 8, 2) := by decide +kernel
theorem dX3_fractionWithLine_91 : decode cX3_fractionWithLine 91 = .ok (.iload 9, 2) := by decide +kernel
theorem dX3_fractionWithLine_93 : decode cX3_fractionWithLine 93 = .ok (.iadd, 1) := by decide +kernel
theorem dX3_fractionWithLine_94 : decode cX3_fractionWithLine 94 = .ok (.isub, 1) := by decide +kernel
theorem dX3_fractionWithLine_95 : decode cX3_fractionWithLine 95 = .ok (.isub, 1) := by decide +kernel
theorem dX3_fractionWithLine_96 : decode cX3_fractionWithLine 96 = .ok (.invokestatic 139, 3) := by decide +kernel
theorem dX3_fractionWithLine_99 : decode cX3_fractionWithLine 99 = .ok (.iadd, 1) := by decide +kernel
theorem dX3_fractionWithLine_100 : decode cX3_fractionWithLine 100 = .ok (.istore 6, 2) := by decide +kernel
theorem dX3_fractionWithLine_102 : decode cX3_fractionWithLine 102 = .ok (.iload 7, 2) := by decide +kernel
theorem dX3_fractionWithLine_104 : decode cX3_fractionWithLine 104 = .ok (.iconst 0, 1) := by decide +kernel
theorem dX3_fractionWithLine_105 : decode cX3_fractionWithLine 105 = .ok (.iload 10, 2) := by decide +kernel
theorem dX3_fractionWithLine_107 : decode cX3_fractionWithLine 107 = .ok (.iload 8, 2) := by decide +kernel
theorem dX3_fractionWithLine_109 : decode cX3_fractionWithLine 109 = .ok (.iload 9, 2) := by decide +kernel
theorem dX3_fractionWithLine_111 : decode cX3_fractionWithLine 111 = .ok (.isub, 1) := by decide +kernel
theorem dX3_fractionWithLine_112 : decode cX3_fractionWithLine 112 = .ok (.aload_n 0, 1) := by decide +kernel
theorem dX3_fractionWithLine_113 : decode cX3_fractionWithLine 113 = .ok (.iload_n 3, 1) := by decide +kernel
theorem dX3_fractionWithLine_114 : decode cX3_fractionWithLine 114 = .ok (.invokevirtual 152, 3) := by decide +kernel
theorem dX3_fractionWithLine_117 : decode cX3_fractionWithLine 117 = .ok (.iload 7, 2) := by decide +kernel
theorem dX3_fractionWithLine_119 : decode cX3_fractionWithLine 119 = .ok (.isub, 1) := by decide +kernel
theorem dX3_fractionWithLine_120 : decode cX3_fractionWithLine 120 = .ok (.isub, 1) := by decide +kernel
theorem dX3_fractionWithLine_121 : decode cX3_fractionWithLine 121 = .ok (.isub, 1) := by decide +kernel
theorem dX3_fractionWithLine_122 : decode cX3_fractionWithLine 122 = .ok (.invokestatic 139, 3) := by decide +kernel
theorem dX3_fractionWithLine_125 : decode cX3_fractionWithLine 125 = .ok (.iadd, 1) := by decide +kernel
theorem dX3_fractionWithLine_126 : decode cX3_fractionWithLine 126 = .ok (.istore 7, 2) := by decide +kernel
theorem dX3_fractionWithLine_128 : decode cX3_fractionWithLine 128 = .ok (.aload_n 0, 1) := by decide +kernel
theorem dX3_fractionWithLine_129 : decode cX3_fractionWithLine 129 = .ok (.iload_n 2, 1) := by decide +kernel
theorem dX3_fractionWithLine_130 : decode cX3_fractionWithLine 130 = .ok (.invokevirtual 162, 3) := by decide +kernel
theorem dX3_fractionWithLine_133 : decode cX3_fractionWithLine 133 = .ok (.aload_n 0, 1) := by decide +kernel
theorem dX3_fractionWithLine_134 : decode cX3_fractionWithLine 134 = .ok (.iload_n 3, 1) := by decide +kernel
theorem dX3_fractionWithLine_135 : decode cX3_fractionWithLine 135 = .ok (.invokevirtual 162, 3) := by decide +kernel
theorem dX3_fractionWithLine_138 : decode cX3_fractionWithLine 138 = .ok (.invokestatic 139, 3) := by decide +kernel
theorem dX3_fractionWithLine_141 : decode cX3_fractionWithLine 141 = .ok (.istore 11, 2) := by decide +kernel
theorem dX3_fractionWithLine_143 : decode cX3_fractionWithLine 143 = .ok (.bipush (9), 2) := by decide +kernel
theorem dX3_fractionWithLine_145 : decode cX3_fractionWithLine 145 = .ok (.newarray .int, 2) := by decide +kernel
theorem dX3_fractionWithLine_147 : decode cX3_fractionWithLine 147 = .ok (.dup, 1) := by decide +kernel
theorem dX3_fractionWithLine_148 : decode cX3_fractionWithLine 148 = .ok (.iconst 0, 1) := by decide +kernel
theorem dX3_fractionWithLine_149 : decode cX3_fractionWithLine 149 = .ok (.iload_n 2, 1) := by decide +kernel
theorem dX3_fractionWithLine_150 : decode cX3_fractionWithLine 150 = .ok (.iastore, 1) := by decide +kernel
theorem dX3_fractionWithLine_151 : decode cX3_fractionWithLine 151 = .ok (.dup, 1) := by decide +kernel
theorem dX3_fractionWithLine_152 : decode cX3_fractionWithLine 152 = .ok (.iconst 1, 1) := by decide +kernel
theorem dX3_fractionWithLine_153 : decode cX3_fractionWithLine 153 = .ok (.iload 11, 2) := by decide +kernel
theorem dX3_fractionWithLine_155 : decode cX3_fractionWithLine 155 = .ok (.aload_n 0, 1) := by decide +kernel
theorem dX3_fractionWithLine_156 : decode cX3_fractionWithLine 156 = .ok (.iload_n 2, 1) := by decide +kernel
theorem dX3_fractionWithLine_157 : decode cX3_fractionWithLine 157 = .ok (.invokevirtual 162, 3) := by decide +kernel
theorem dX3_fractionWithLine_160 : decode cX3_fractionWithLine 160 = .ok (.isub, 1) := by decide +kernel
theorem dX3_fractionWithLine_161 : decode cX3_fractionWithLine 161 = .ok (.invokestatic 228, 3) := by decide +kernel
theorem dX3_fractionWithLine_164 : decode cX3_fractionWithLine 164 = .ok (.iastore, 1) := by decide +kernel
theorem dX3_fractionWithLine_165 : decode cX3_fractionWithLine 165 = .ok (.dup, 1) := by decide +kernel
theorem dX3_fractionWithLine_166 : decode cX3_fractionWithLine 166 = .ok (.iconst 2, 1) := by decide +kernel
theorem dX3_fractionWithLine_167 : decode cX3_fractionWithLine 167 = .ok (.iload 6, 2) := by decide +kernel
theorem dX3_fractionWithLine_169 : decode cX3_fractionWithLine 169 = .ok (.iastore, 1) := by decide +kernel
theorem dX3_fractionWithLine_170 : decode cX3_fractionWithLine 170 = .ok (.dup, 1) := by decide +kernel
theorem dX3_fractionWithLine_171 : decode cX3_fractionWithLine 171 = .ok (.iconst 3, 1) := by decide +kernel
theorem dX3_fractionWithLine_172 : decode cX3_fractionWithLine 172 = .ok (.iload_n 3, 1) := by decide +kernel
theorem dX3_fractionWithLine_173 : decode cX3_fractionWithLine 173 = .ok (.iastore, 1) := by decide +kernel
theorem dX3_fractionWithLine_174 : decode cX3_fractionWithLine 174 = .ok (.dup, 1) := by decide +kernel
theorem dX3_fractionWithLine_175 : decode cX3_fractionWithLine 175 = .ok (.iconst 4, 1) := by decide +kernel
theorem dX3_fractionWithLine_176 : decode cX3_fractionWithLine 176 = .ok (.iload 11, 2) := by decide +kernel
theorem dX3_fractionWithLine_178 : decode cX3_fractionWithLine 178 = .ok (.aload_n 0, 1) := by decide +kernel
theorem dX3_fractionWithLine_179 : decode cX3_fractionWithLine 179 = .ok (.iload_n 3, 1) := by decide +kernel
theorem dX3_fractionWithLine_180 : decode cX3_fractionWithLine 180 = .ok (.invokevirtual 162, 3) := by decide +kernel
theorem dX3_fractionWithLine_183 : decode cX3_fractionWithLine 183 = .ok (.isub, 1) := by decide +kernel
theorem dX3_fractionWithLine_184 : decode cX3_fractionWithLine 184 = .ok (.invokestatic 228, 3) := by decide +kernel
theorem dX3_fractionWithLine_187 : decode cX3_fractionWithLine 187 = .ok (.iastore, 1) := by decide +kernel
theorem dX3_fractionWithLine_188 : decode cX3_fractionWithLine 188 = .ok (.dup, 1) := by decide +kernel
theorem dX3_fractionWithLine_189 : decode cX3_fractionWithLine 189 = .ok (.iconst 5, 1) := by decide +kernel
theorem dX3_fractionWithLine_190 : decode cX3_fractionWithLine 190 = .ok (.iload 7, 2) := by decide +kernel
theorem dX3_fractionWithLine_192 : decode cX3_fractionWithLine 192 = .ok (.ineg, 1) := by decide +kernel
theorem dX3_fractionWithLine_193 : decode cX3_fractionWithLine 193 = .ok (.iastore, 1) := by decide +kernel
theorem dX3_fractionWithLine_194 : decode cX3_fractionWithLine 194 = .ok (.dup, 1) := by decide +kernel
theorem dX3_fractionWithLine_195 : decode cX3_fractionWithLine 195 = .ok (.bipush (6), 2) := by decide +kernel
theorem dX3_fractionWithLine_197 : decode cX3_fractionWithLine 197 = .ok (.iconst (-1), 1) := by decide +kernel
theorem dX3_fractionWithLine_198 : decode cX3_fractionWithLine 198 = .ok (.iastore, 1) := by decide +kernel
theorem dX3_fractionWithLine_199 : decode cX3_fractionWithLine 199 = .ok (.dup, 1) := by decide +kernel
theorem dX3_fractionWithLine_200 : decode cX3_fractionWithLine 200 = .ok (.bipush (7), 2) := by decide +kernel
theorem dX3_fractionWithLine_202 : decode cX3_fractionWithLine 202 = .ok (.iconst 0, 1) := by decide +kernel
theorem dX3_fractionWithLine_203 : decode cX3_fractionWithLine 203 = .ok (.iastore, 1) := by decide +kernel
theorem dX3_fractionWithLine_204 : decode cX3_fractionWithLine 204 = .ok (.dup, 1) := by decide +kernel
theorem dX3_fractionWithLine_205 : decode cX3_fractionWithLine 205 = .ok (.bipush (8), 2) := by decide +kernel
theorem dX3_fractionWithLine_207 : decode cX3_fractionWithLine 207 = .ok (.iload 8, 2) := by decide +kernel
theorem dX3_fractionWithLine_209 : decode cX3_fractionWithLine 209 = .ok (.iload 9, 2) := by decide +kernel
theorem dX3_fractionWithLine_211 : decode cX3_fractionWithLine 211 = .ok (.iadd, 1) := by decide +kernel
theorem dX3_fractionWithLine_212 : decode cX3_fractionWithLine 212 = .ok (.iload 4, 2) := by decide +kernel
theorem dX3_fractionWithLine_214 : decode cX3_fractionWithLine 214 = .ok (.isub, 1) := by decide +kernel
theorem dX3_fractionWithLine_215 : decode cX3_fractionWithLine 215 = .ok (.iastore, 1) := by decide +kernel
theorem dX3_fractionWithLine_216 : decode cX3_fractionWithLine 216 = .ok (.astore 12, 2) := by decide +kernel
theorem dX3_fractionWithLine_218 : decode cX3_fractionWithLine 218 = .ok (.new 9, 3) := by decide +kernel
theorem dX3_fractionWithLine_221 : decode cX3_fractionWithLine 221 = .ok (.dup, 1) := by decide +kernel
theorem dX3_fractionWithLine_222 : decode cX3_fractionWithLine 222 = .ok (.iload 11, 2) := by decide +kernel
theorem dX3_fractionWithLine_224 : decode cX3_fractionWithLine 224 = .ok (.iload 6, 2) := by decide +kernel
theorem dX3_fractionWithLine_226 : decode cX3_fractionWithLine 226 = .ok (.aload_n 0, 1) := by decide +kernel
theorem dX3_fractionWithLine_227 : decode cX3_fractionWithLine 227 = .ok (.iload_n 2, 1) := by decide +kernel
theorem dX3_fractionWithLine_228 : decode cX3_fractionWithLine 228 = .ok (.invokevirtual 152, 3) := by decide +kernel
theorem dX3_fractionWithLine_231 : decode cX3_fractionWithLine 231 = .ok (.iadd, 1) := by decide +kernel
theorem dX3_fractionWithLine_232 : decode cX3_fractionWithLine 232 = .ok (.aload_n 0, 1) := by decide +kernel
theorem dX3_fractionWithLine_233 : decode cX3_fractionWithLine 233 = .ok (.iload_n 3, 1) := by decide +kernel
theorem dX3_fractionWithLine_234 : decode cX3_fractionWithLine 234 = .ok (.invokevirtual 155, 3) := by decide +kernel
theorem dX3_fractionWithLine_237 : decode cX3_fractionWithLine 237 = .ok (.iload 7, 2) := by decide +kernel
theorem dX3_fractionWithLine_239 : decode cX3_fractionWithLine 239 = .ok (.iadd, 1) := by decide +kernel
theorem dX3_fractionWithLine_240 : decode cX3_fractionWithLine 240 = .ok (.aload 12, 2) := by decide +kernel
theorem dX3_fractionWithLine_242 : decode cX3_fractionWithLine 242 = .ok (.iload 11, 2) := by decide +kernel
theorem dX3_fractionWithLine_244 : decode cX3_fractionWithLine 244 = .ok (.iload 4, 2) := by decide +kernel
theorem dX3_fractionWithLine_246 : decode cX3_fractionWithLine 246 = .ok (.invokespecial 254, 3) := by decide +kernel
theorem dX3_fractionWithLine_249 : decode cX3_fractionWithLine 249 = .ok (.areturn, 1) := by decide +kernel
theorem dX3_rootClearance_0 : decode cX3_rootClearance 0 = .ok (.aload_n 0, 1) := by decide +kernel
theorem dX3_rootClearance_1 : decode cX3_rootClearance 1 = .ok (.iload_n 1, 1) := by decide +kernel
theorem dX3_rootClearance_2 : decode cX3_rootClearance 2 = .ok (.bipush (13), 2) := by decide +kernel
theorem dX3_rootClearance_4 : decode cX3_rootClearance 4 = .ok (.invokevirtual 135, 3) := by decide +kernel
theorem dX3_rootClearance_7 : decode cX3_rootClearance 7 = .ok (.istore_n 2, 1) := by decide +kernel
theorem dX3_rootClearance_8 : decode cX3_rootClearance 8 = .ok (.iload_n 1, 1) := by decide +kernel
theorem dX3_rootClearance_9 : decode cX3_rootClearance 9 = .ok (.ifCond .ne (13), 3) := by decide +kernel
theorem dX3_rootClearance_12 : decode cX3_rootClearance 12 = .ok (.aload_n 0, 1) := by decide +kernel
theorem dX3_rootClearance_13 : decode cX3_rootClearance 13 = .ok (.iload_n 1, 1) := by decide +kernel
theorem dX3_rootClearance_14 : decode cX3_rootClearance 14 = .ok (.bipush (14), 2) := by decide +kernel
theorem dX3_rootClearance_16 : decode cX3_rootClearance 16 = .ok (.invokevirtual 135, 3) := by decide +kernel
theorem dX3_rootClearance_19 : decode cX3_rootClearance 19 = .ok (.goto (4), 3) := by decide +kernel
theorem dX3_rootClearance_22 : decode cX3_rootClearance 22 = .ok (.iload_n 2, 1) := by decide +kernel
theorem dX3_rootClearance_23 : decode cX3_rootClearance 23 = .ok (.istore_n 3, 1) := by decide +kernel
theorem dX3_rootClearance_24 : decode cX3_rootClearance 24 = .ok (.iload_n 2, 1) := by decide +kernel
theorem dX3_rootClearance_25 : decode cX3_rootClearance 25 = .ok (.iload_n 3, 1) := by decide +kernel
theorem dX3_rootClearance_26 : decode cX3_rootClearance 26 = .ok (.invokestatic 257, 3) := by decide +kernel
theorem dX3_rootClearance_29 : decode cX3_rootClearance 29 = .ok (.iconst 4, 1) := by decide +kernel
theorem dX3_rootClearance_30 : decode cX3_rootClearance 30 = .ok (.idiv, 1) := by decide +kernel
theorem dX3_rootClearance_31 : decode cX3_rootClearance 31 = .ok (.iadd, 1) := by decide +kernel
theorem dX3_rootClearance_32 : decode cX3_rootClearance 32 = .ok (.ireturn, 1) := by decide +kernel
theorem dX3_rootShape_0 : decode cX3_rootShape 0 = .ok (.iload 4, 2) := by decide +kernel
theorem dX3_rootShape_2 : decode cX3_rootShape 2 = .ok (.ifCond .eq (7), 3) := by decide +kernel
theorem dX3_rootShape_5 : decode cX3_rootShape 5 = .ok (.iconst 0, 1) := by decide +kernel
theorem dX3_rootShape_6 : decode cX3_rootShape 6 = .ok (.goto (8), 3) := by decide +kernel
theorem dX3_rootShape_9 : decode cX3_rootShape 9 = .ok (.aload_n 0, 1) := by decide +kernel
theorem dX3_rootShape_10 : decode cX3_rootShape 10 = .ok (.iload_n 2, 1) := by decide +kernel
theorem dX3_rootShape_11 : decode cX3_rootShape 11 = .ok (.invokevirtual 152, 3) := by decide +kernel
theorem dX3_rootShape_14 : decode cX3_rootShape 14 = .ok (.istore 5, 2) := by decide +kernel
theorem dX3_rootShape_16 : decode cX3_rootShape 16 = .ok (.iload 4, 2) := by decide +kernel
theorem dX3_rootShape_18 : decode cX3_rootShape 18 = .ok (.ifCond .eq (11), 3) := by decide +kernel
theorem dX3_rootShape_21 : decode cX3_rootShape 21 = .ok (.aload_n 0, 1) := by decide +kernel
theorem dX3_rootShape_22 : decode cX3_rootShape 22 = .ok (.iload_n 2, 1) := by decide +kernel
theorem dX3_rootShape_23 : decode cX3_rootShape 23 = .ok (.invokevirtual 152, 3) := by decide +kernel
theorem dX3_rootShape_26 : decode cX3_rootShape 26 = .ok (.goto (8), 3) := by decide +kernel
theorem dX3_rootShape_29 : decode cX3_rootShape 29 = .ok (.aload_n 0, 1) := by decide +kernel
theorem dX3_rootShape_30 : decode cX3_rootShape 30 = .ok (.iload_n 2, 1) := by decide +kernel
theorem dX3_rootShape_31 : decode cX3_rootShape 31 = .ok (.invokevirtual 155, 3) := by decide +kernel
theorem dX3_rootShape_34 : decode cX3_rootShape 34 = .ok (.istore 6, 2) := by decide +kernel
theorem dX3_rootShape_36 : decode cX3_rootShape 36 = .ok (.iload 6, 2) := by decide +kernel
theorem dX3_rootShape_38 : decode cX3_rootShape 38 = .ok (.aload_n 0, 1) := by decide +kernel
theorem dX3_rootShape_39 : decode cX3_rootShape 39 = .ok (.iload_n 1, 1) := by decide +kernel
theorem dX3_rootShape_40 : decode cX3_rootShape 40 = .ok (.invokevirtual 84, 3) := by decide +kernel
theorem dX3_rootShape_43 : decode cX3_rootShape 43 = .ok (.iload_n 3, 1) := by decide +kernel
theorem dX3_rootShape_44 : decode cX3_rootShape 44 = .ok (.iadd, 1) := by decide +kernel
theorem dX3_rootShape_45 : decode cX3_rootShape 45 = .ok (.isub, 1) := by decide +kernel
theorem dX3_rootShape_46 : decode cX3_rootShape 46 = .ok (.istore 7, 2) := by decide +kernel
theorem dX3_rootShape_48 : decode cX3_rootShape 48 = .ok (.aload_n 0, 1) := by decide +kernel
theorem dX3_rootShape_49 : decode cX3_rootShape 49 = .ok (.iload_n 1, 1) := by decide +kernel
theorem dX3_rootShape_50 : decode cX3_rootShape 50 = .ok (.invokevirtual 152, 3) := by decide +kernel
theorem dX3_rootShape_53 : decode cX3_rootShape 53 = .ok (.iload_n 3, 1) := by decide +kernel
theorem dX3_rootShape_54 : decode cX3_rootShape 54 = .ok (.iadd, 1) := by decide +kernel
theorem dX3_rootShape_55 : decode cX3_rootShape 55 = .ok (.iload 7, 2) := by decide +kernel
theorem dX3_rootShape_57 : decode cX3_rootShape 57 = .ok (.ifCond .le (11), 3) := by decide +kernel
theorem dX3_rootShape_60 : decode cX3_rootShape 60 = .ok (.iload 7, 2) := by decide +kernel
theorem dX3_rootShape_62 : decode cX3_rootShape 62 = .ok (.invokestatic 228, 3) := by decide +kernel
theorem dX3_rootShape_65 : decode cX3_rootShape 65 = .ok (.goto (4), 3) := by decide +kernel
theorem dX3_rootShape_68 : decode cX3_rootShape 68 = .ok (.iconst 0, 1) := by decide +kernel
theorem dX3_rootShape_69 : decode cX3_rootShape 69 = .ok (.iadd, 1) := by decide +kernel
theorem dX3_rootShape_70 : decode cX3_rootShape 70 = .ok (.istore 8, 2) := by decide +kernel
theorem dX3_rootShape_72 : decode cX3_rootShape 72 = .ok (.bipush (9), 2) := by decide +kernel
theorem dX3_rootShape_74 : decode cX3_rootShape 74 = .ok (.newarray .int, 2) := by decide +kernel
theorem dX3_rootShape_76 : decode cX3_rootShape 76 = .ok (.dup, 1) := by decide +kernel
theorem dX3_rootShape_77 : decode cX3_rootShape 77 = .ok (.iconst 0, 1) := by decide +kernel
theorem dX3_rootShape_78 : decode cX3_rootShape 78 = .ok (.iload_n 2, 1) := by decide +kernel
theorem dX3_rootShape_79 : decode cX3_rootShape 79 = .ok (.iastore, 1) := by decide +kernel
theorem dX3_rootShape_80 : decode cX3_rootShape 80 = .ok (.dup, 1) := by decide +kernel
theorem dX3_rootShape_81 : decode cX3_rootShape 81 = .ok (.iconst 1, 1) := by decide +kernel
theorem dX3_rootShape_82 : decode cX3_rootShape 82 = .ok (.iconst 0, 1) := by decide +kernel
theorem dX3_rootShape_83 : decode cX3_rootShape 83 = .ok (.iastore, 1) := by decide +kernel
theorem dX3_rootShape_84 : decode cX3_rootShape 84 = .ok (.dup, 1) := by decide +kernel
theorem dX3_rootShape_85 : decode cX3_rootShape 85 = .ok (.iconst 2, 1) := by decide +kernel
theorem dX3_rootShape_86 : decode cX3_rootShape 86 = .ok (.iload 4, 2) := by decide +kernel
theorem dX3_rootShape_88 : decode cX3_rootShape 88 = .ok (.ifCond .eq (14), 3) := by decide +kernel
theorem dX3_rootShape_91 : decode cX3_rootShape 91 = .ok (.iload 8, 2) := by decide +kernel
theorem dX3_rootShape_93 : decode cX3_rootShape 93 = .ok (.aload_n 0, 1) := by decide +kernel
theorem dX3_rootShape_94 : decode cX3_rootShape 94 = .ok (.iload_n 2, 1) := by decide +kernel
theorem dX3_rootShape_95 : decode cX3_rootShape 95 = .ok (.invokevirtual 152, 3) := by decide +kernel
theorem dX3_rootShape_98 : decode cX3_rootShape 98 = .ok (.isub, 1) := by decide +kernel
theorem dX3_rootShape_99 : decode cX3_rootShape 99 = .ok (.goto (5), 3) := by decide +kernel
theorem dX3_rootShape_102 : decode cX3_rootShape 102 = .ok (.iload 8, 2) := by decide +kernel
theorem dX3_rootShape_104 : decode cX3_rootShape 104 = .ok (.iastore, 1) := by decide +kernel
theorem dX3_rootShape_105 : decode cX3_rootShape 105 = .ok (.dup, 1) := by decide +kernel
theorem dX3_rootShape_106 : decode cX3_rootShape 106 = .ok (.iconst 3, 1) := by decide +kernel
theorem dX3_rootShape_107 : decode cX3_rootShape 107 = .ok (.iload_n 1, 1) := by decide +kernel
theorem dX3_rootShape_108 : decode cX3_rootShape 108 = .ok (.iastore, 1) := by decide +kernel
theorem dX3_rootShape_109 : decode cX3_rootShape 109 = .ok (.dup, 1) := by decide +kernel
theorem dX3_rootShape_110 : decode cX3_rootShape 110 = .ok (.iconst 4, 1) := by decide +kernel
theorem dX3_rootShape_111 : decode cX3_rootShape 111 = .ok (.aload_n 0, 1) := by decide +kernel
theorem dX3_rootShape_112 : decode cX3_rootShape 112 = .ok (.iload_n 2, 1) := by decide +kernel
theorem dX3_rootShape_113 : decode cX3_rootShape 113 = .ok (.invokevirtual 162, 3) := by decide +kernel
theorem dX3_rootShape_116 : decode cX3_rootShape 116 = .ok (.iastore, 1) := by decide +kernel
theorem dX3_rootShape_117 : decode cX3_rootShape 117 = .ok (.dup, 1) := by decide +kernel
theorem dX3_rootShape_118 : decode cX3_rootShape 118 = .ok (.iconst 5, 1) := by decide +kernel
theorem dX3_rootShape_119 : decode cX3_rootShape 119 = .ok (.iconst 0, 1) := by decide +kernel
theorem dX3_rootShape_120 : decode cX3_rootShape 120 = .ok (.iastore, 1) := by decide +kernel
theorem dX3_rootShape_121 : decode cX3_rootShape 121 = .ok (.dup, 1) := by decide +kernel
theorem dX3_rootShape_122 : decode cX3_rootShape 122 = .ok (.bipush (6), 2) := by decide +kernel
theorem dX3_rootShape_124 : decode cX3_rootShape 124 = .ok (.iconst (-1), 1) := by decide +kernel
theorem dX3_rootShape_125 : decode cX3_rootShape 125 = .ok (.iastore, 1) := by decide +kernel
theorem dX3_rootShape_126 : decode cX3_rootShape 126 = .ok (.dup, 1) := by decide +kernel
theorem dX3_rootShape_127 : decode cX3_rootShape 127 = .ok (.bipush (7), 2) := by decide +kernel
theorem dX3_rootShape_129 : decode cX3_rootShape 129 = .ok (.aload_n 0, 1) := by decide +kernel
theorem dX3_rootShape_130 : decode cX3_rootShape 130 = .ok (.iload_n 2, 1) := by decide +kernel
theorem dX3_rootShape_131 : decode cX3_rootShape 131 = .ok (.invokevirtual 162, 3) := by decide +kernel
theorem dX3_rootShape_134 : decode cX3_rootShape 134 = .ok (.iastore, 1) := by decide +kernel
theorem dX3_rootShape_135 : decode cX3_rootShape 135 = .ok (.dup, 1) := by decide +kernel
theorem dX3_rootShape_136 : decode cX3_rootShape 136 = .ok (.bipush (8), 2) := by decide +kernel
theorem dX3_rootShape_138 : decode cX3_rootShape 138 = .ok (.iload 8, 2) := by decide +kernel
theorem dX3_rootShape_140 : decode cX3_rootShape 140 = .ok (.iastore, 1) := by decide +kernel
theorem dX3_rootShape_141 : decode cX3_rootShape 141 = .ok (.astore 9, 2) := by decide +kernel
theorem dX3_rootShape_143 : decode cX3_rootShape 143 = .ok (.aload_n 0, 1) := by decide +kernel
theorem dX3_rootShape_144 : decode cX3_rootShape 144 = .ok (.iload_n 1, 1) := by decide +kernel
theorem dX3_rootShape_145 : decode cX3_rootShape 145 = .ok (.invokevirtual 155, 3) := by decide +kernel
theorem dX3_rootShape_148 : decode cX3_rootShape 148 = .ok (.iload 6, 2) := by decide +kernel
theorem dX3_rootShape_150 : decode cX3_rootShape 150 = .ok (.iload 8, 2) := by decide +kernel
theorem dX3_rootShape_152 : decode cX3_rootShape 152 = .ok (.isub, 1) := by decide +kernel
theorem dX3_rootShape_153 : decode cX3_rootShape 153 = .ok (.invokestatic 139, 3) := by decide +kernel
theorem dX3_rootShape_156 : decode cX3_rootShape 156 = .ok (.istore 10, 2) := by decide +kernel
theorem dX3_rootShape_158 : decode cX3_rootShape 158 = .ok (.new 9, 3) := by decide +kernel
theorem dX3_rootShape_161 : decode cX3_rootShape 161 = .ok (.dup, 1) := by decide +kernel
theorem dX3_rootShape_162 : decode cX3_rootShape 162 = .ok (.aload_n 0, 1) := by decide +kernel
theorem dX3_rootShape_163 : decode cX3_rootShape 163 = .ok (.iload_n 2, 1) := by decide +kernel
theorem dX3_rootShape_164 : decode cX3_rootShape 164 = .ok (.invokevirtual 162, 3) := by decide +kernel
theorem dX3_rootShape_167 : decode cX3_rootShape 167 = .ok (.aload_n 0, 1) := by decide +kernel
theorem dX3_rootShape_168 : decode cX3_rootShape 168 = .ok (.iload_n 1, 1) := by decide +kernel
theorem dX3_rootShape_169 : decode cX3_rootShape 169 = .ok (.invokevirtual 162, 3) := by decide +kernel
theorem dX3_rootShape_172 : decode cX3_rootShape 172 = .ok (.iadd, 1) := by decide +kernel
theorem dX3_rootShape_173 : decode cX3_rootShape 173 = .ok (.iload 8, 2) := by decide +kernel
theorem dX3_rootShape_175 : decode cX3_rootShape 175 = .ok (.iconst 2, 1) := by decide +kernel
theorem dX3_rootShape_176 : decode cX3_rootShape 176 = .ok (.iload 5, 2) := by decide +kernel
theorem dX3_rootShape_178 : decode cX3_rootShape 178 = .ok (.imul, 1) := by decide +kernel
theorem dX3_rootShape_179 : decode cX3_rootShape 179 = .ok (.iadd, 1) := by decide +kernel
theorem dX3_rootShape_180 : decode cX3_rootShape 180 = .ok (.iload 10, 2) := by decide +kernel
theorem dX3_rootShape_182 : decode cX3_rootShape 182 = .ok (.aload 9, 2) := by decide +kernel
theorem dX3_rootShape_184 : decode cX3_rootShape 184 = .ok (.aload_n 0, 1) := by decide +kernel
theorem dX3_rootShape_185 : decode cX3_rootShape 185 = .ok (.iload_n 1, 1) := by decide +kernel
theorem dX3_rootShape_186 : decode cX3_rootShape 186 = .ok (.invokevirtual 162, 3) := by decide +kernel
theorem dX3_rootShape_189 : decode cX3_rootShape 189 = .ok (.iload 5, 2) := by decide +kernel
theorem dX3_rootShape_191 : decode cX3_rootShape 191 = .ok (.invokespecial 254, 3) := by decide +kernel
theorem dX3_rootShape_194 : decode cX3_rootShape 194 = .ok (.areturn, 1) := by decide +kernel
theorem dX3_upShift_0 : decode cX3_upShift 0 = .ok (.iload_n 2, 1) := by decide +kernel
theorem dX3_upShift_1 : decode cX3_upShift 1 = .ok (.ifCond .eq (8), 3) := by decide +kernel
theorem dX3_upShift_4 : decode cX3_upShift 4 = .ok (.bipush (8), 2) := by decide +kernel
theorem dX3_upShift_6 : decode cX3_upShift 6 = .ok (.goto (14), 3) := by decide +kernel
theorem dX3_upShift_9 : decode cX3_upShift 9 = .ok (.iload_n 1, 1) := by decide +kernel
theorem dX3_upShift_10 : decode cX3_upShift 10 = .ok (.ifCond .ne (8), 3) := by decide +kernel
theorem dX3_upShift_13 : decode cX3_upShift 13 = .ok (.bipush (6), 2) := by decide +kernel
theorem dX3_upShift_15 : decode cX3_upShift 15 = .ok (.goto (5), 3) := by decide +kernel
theorem dX3_upShift_18 : decode cX3_upShift 18 = .ok (.bipush (7), 2) := by decide +kernel
theorem dX3_upShift_20 : decode cX3_upShift 20 = .ok (.istore 5, 2) := by decide +kernel
theorem dX3_upShift_22 : decode cX3_upShift 22 = .ok (.iload_n 3, 1) := by decide +kernel
theorem dX3_upShift_23 : decode cX3_upShift 23 = .ok (.aload_n 0, 1) := by decide +kernel
theorem dX3_upShift_24 : decode cX3_upShift 24 = .ok (.iload_n 1, 1) := by decide +kernel
theorem dX3_upShift_25 : decode cX3_upShift 25 = .ok (.iload 5, 2) := by decide +kernel
theorem dX3_upShift_27 : decode cX3_upShift 27 = .ok (.invokevirtual 135, 3) := by decide +kernel
theorem dX3_upShift_30 : decode cX3_upShift 30 = .ok (.invokestatic 139, 3) := by decide +kernel
theorem dX3_upShift_33 : decode cX3_upShift 33 = .ok (.istore 6, 2) := by decide +kernel
theorem dX3_upShift_35 : decode cX3_upShift 35 = .ok (.iload 6, 2) := by decide +kernel
theorem dX3_upShift_37 : decode cX3_upShift 37 = .ok (.aload_n 0, 1) := by decide +kernel
theorem dX3_upShift_38 : decode cX3_upShift 38 = .ok (.iload 4, 2) := by decide +kernel
theorem dX3_upShift_40 : decode cX3_upShift 40 = .ok (.invokevirtual 155, 3) := by decide +kernel
theorem dX3_upShift_43 : decode cX3_upShift 43 = .ok (.aload_n 0, 1) := by decide +kernel
theorem dX3_upShift_44 : decode cX3_upShift 44 = .ok (.iload_n 1, 1) := by decide +kernel
theorem dX3_upShift_45 : decode cX3_upShift 45 = .ok (.bipush (14), 2) := by decide +kernel
theorem dX3_upShift_47 : decode cX3_upShift 47 = .ok (.invokevirtual 135, 3) := by decide +kernel
theorem dX3_upShift_50 : decode cX3_upShift 50 = .ok (.invokestatic 257, 3) := by decide +kernel
theorem dX3_upShift_53 : decode cX3_upShift 53 = .ok (.iconst 4, 1) := by decide +kernel
theorem dX3_upShift_54 : decode cX3_upShift 54 = .ok (.idiv, 1) := by decide +kernel
theorem dX3_upShift_55 : decode cX3_upShift 55 = .ok (.iadd, 1) := by decide +kernel
theorem dX3_upShift_56 : decode cX3_upShift 56 = .ok (.invokestatic 139, 3) := by decide +kernel
theorem dX3_upShift_59 : decode cX3_upShift 59 = .ok (.ireturn, 1) := by decide +kernel
theorem dX3_downAlone_0 : decode cX3_downAlone 0 = .ok (.iload_n 2, 1) := by decide +kernel
theorem dX3_downAlone_1 : decode cX3_downAlone 1 = .ok (.aload_n 0, 1) := by decide +kernel
theorem dX3_downAlone_2 : decode cX3_downAlone 2 = .ok (.iload_n 1, 1) := by decide +kernel
theorem dX3_downAlone_3 : decode cX3_downAlone 3 = .ok (.bipush (9), 2) := by decide +kernel
theorem dX3_downAlone_5 : decode cX3_downAlone 5 = .ok (.invokevirtual 135, 3) := by decide +kernel
theorem dX3_downAlone_8 : decode cX3_downAlone 8 = .ok (.invokestatic 139, 3) := by decide +kernel
theorem dX3_downAlone_11 : decode cX3_downAlone 11 = .ok (.istore 4, 2) := by decide +kernel
theorem dX3_downAlone_13 : decode cX3_downAlone 13 = .ok (.iload 4, 2) := by decide +kernel
theorem dX3_downAlone_15 : decode cX3_downAlone 15 = .ok (.aload_n 0, 1) := by decide +kernel
theorem dX3_downAlone_16 : decode cX3_downAlone 16 = .ok (.iload_n 3, 1) := by decide +kernel
theorem dX3_downAlone_17 : decode cX3_downAlone 17 = .ok (.invokevirtual 152, 3) := by decide +kernel
theorem dX3_downAlone_20 : decode cX3_downAlone 20 = .ok (.aload_n 0, 1) := by decide +kernel
theorem dX3_downAlone_21 : decode cX3_downAlone 21 = .ok (.iload_n 1, 1) := by decide +kernel
theorem dX3_downAlone_22 : decode cX3_downAlone 22 = .ok (.invokevirtual 260, 3) := by decide +kernel
theorem dX3_downAlone_25 : decode cX3_downAlone 25 = .ok (.isub, 1) := by decide +kernel
theorem dX3_downAlone_26 : decode cX3_downAlone 26 = .ok (.invokestatic 139, 3) := by decide +kernel
theorem dX3_downAlone_29 : decode cX3_downAlone 29 = .ok (.ireturn, 1) := by decide +kernel
theorem dX3_fourFifths_0 : decode cX3_fourFifths 0 = .ok (.iconst 4, 1) := by decide +kernel
theorem dX3_fourFifths_1 : decode cX3_fourFifths 1 = .ok (.aload_n 0, 1) := by decide +kernel
theorem dX3_fourFifths_2 : decode cX3_fourFifths 2 = .ok (.iload_n 1, 1) := by decide +kernel
theorem dX3_fourFifths_3 : decode cX3_fourFifths 3 = .ok (.bipush (14), 2) := by decide +kernel
theorem dX3_fourFifths_5 : decode cX3_fourFifths 5 = .ok (.invokevirtual 135, 3) := by decide +kernel
theorem dX3_fourFifths_8 : decode cX3_fourFifths 8 = .ok (.imul, 1) := by decide +kernel
theorem dX3_fourFifths_9 : decode cX3_fourFifths 9 = .ok (.invokestatic 257, 3) := by decide +kernel
theorem dX3_fourFifths_12 : decode cX3_fourFifths 12 = .ok (.iconst 5, 1) := by decide +kernel
theorem dX3_fourFifths_13 : decode cX3_fourFifths 13 = .ok (.idiv, 1) := by decide +kernel
theorem dX3_fourFifths_14 : decode cX3_fourFifths 14 = .ok (.ireturn, 1) := by decide +kernel
theorem dX3_signsOnBothSides_0 : decode cX3_signsOnBothSides 0 = .ok (.iload_n 2, 1) := by decide +kernel
theorem dX3_signsOnBothSides_1 : decode cX3_signsOnBothSides 1 = .ok (.istore 7, 2) := by decide +kernel
theorem dX3_signsOnBothSides_3 : decode cX3_signsOnBothSides 3 = .ok (.iload_n 3, 1) := by decide +kernel
theorem dX3_signsOnBothSides_4 : decode cX3_signsOnBothSides 4 = .ok (.aload_n 0, 1) := by decide +kernel
theorem dX3_signsOnBothSides_5 : decode cX3_signsOnBothSides 5 = .ok (.iload_n 1, 1) := by decide +kernel
theorem dX3_signsOnBothSides_6 : decode cX3_signsOnBothSides 6 = .ok (.bipush (10), 2) := by decide +kernel
theorem dX3_signsOnBothSides_8 : decode cX3_signsOnBothSides 8 = .ok (.invokevirtual 135, 3) := by decide +kernel
theorem dX3_signsOnBothSides_11 : decode cX3_signsOnBothSides 11 = .ok (.invokestatic 139, 3) := by decide +kernel
theorem dX3_signsOnBothSides_14 : decode cX3_signsOnBothSides 14 = .ok (.istore 8, 2) := by decide +kernel
theorem dX3_signsOnBothSides_16 : decode cX3_signsOnBothSides 16 = .ok (.iconst 4, 1) := by decide +kernel
theorem dX3_signsOnBothSides_17 : decode cX3_signsOnBothSides 17 = .ok (.aload_n 0, 1) := by decide +kernel
theorem dX3_signsOnBothSides_18 : decode cX3_signsOnBothSides 18 = .ok (.iload_n 1, 1) := by decide +kernel
theorem dX3_signsOnBothSides_19 : decode cX3_signsOnBothSides 19 = .ok (.bipush (13), 2) := by decide +kernel
theorem dX3_signsOnBothSides_21 : decode cX3_signsOnBothSides 21 = .ok (.invokevirtual 135, 3) := by decide +kernel
theorem dX3_signsOnBothSides_24 : decode cX3_signsOnBothSides 24 = .ok (.imul, 1) := by decide +kernel
theorem dX3_signsOnBothSides_25 : decode cX3_signsOnBothSides 25 = .ok (.iload 7, 2) := by decide +kernel
theorem dX3_signsOnBothSides_27 : decode cX3_signsOnBothSides 27 = .ok (.aload_n 0, 1) := by decide +kernel
theorem dX3_signsOnBothSides_28 : decode cX3_signsOnBothSides 28 = .ok (.iload 5, 2) := by decide +kernel
theorem dX3_signsOnBothSides_30 : decode cX3_signsOnBothSides 30 = .ok (.invokevirtual 155, 3) := by decide +kernel
theorem dX3_signsOnBothSides_33 : decode cX3_signsOnBothSides 33 = .ok (.isub, 1) := by decide +kernel
theorem dX3_signsOnBothSides_34 : decode cX3_signsOnBothSides 34 = .ok (.aload_n 0, 1) := by decide +kernel
theorem dX3_signsOnBothSides_35 : decode cX3_signsOnBothSides 35 = .ok (.iload 6, 2) := by decide +kernel
theorem dX3_signsOnBothSides_37 : decode cX3_signsOnBothSides 37 = .ok (.invokevirtual 152, 3) := by decide +kernel
theorem dX3_signsOnBothSides_40 : decode cX3_signsOnBothSides 40 = .ok (.iload 8, 2) := by decide +kernel
theorem dX3_signsOnBothSides_42 : decode cX3_signsOnBothSides 42 = .ok (.isub, 1) := by decide +kernel
theorem dX3_signsOnBothSides_43 : decode cX3_signsOnBothSides 43 = .ok (.isub, 1) := by decide +kernel
theorem dX3_signsOnBothSides_44 : decode cX3_signsOnBothSides 44 = .ok (.isub, 1) := by decide +kernel
theorem dX3_signsOnBothSides_45 : decode cX3_signsOnBothSides 45 = .ok (.istore 9, 2) := by decide +kernel
theorem dX3_signsOnBothSides_47 : decode cX3_signsOnBothSides 47 = .ok (.iload 9, 2) := by decide +kernel
theorem dX3_signsOnBothSides_49 : decode cX3_signsOnBothSides 49 = .ok (.ifCond .le (41), 3) := by decide +kernel
theorem dX3_signsOnBothSides_52 : decode cX3_signsOnBothSides 52 = .ok (.iconst 0, 1) := by decide +kernel
theorem dX3_signsOnBothSides_53 : decode cX3_signsOnBothSides 53 = .ok (.aload_n 0, 1) := by decide +kernel
theorem dX3_signsOnBothSides_54 : decode cX3_signsOnBothSides 54 = .ok (.iload_n 1, 1) := by decide +kernel
theorem dX3_signsOnBothSides_55 : decode cX3_signsOnBothSides 55 = .ok (.invokevirtual 260, 3) := by decide +kernel
theorem dX3_signsOnBothSides_58 : decode cX3_signsOnBothSides 58 = .ok (.iload 7, 2) := by decide +kernel
theorem dX3_signsOnBothSides_60 : decode cX3_signsOnBothSides 60 = .ok (.aload_n 0, 1) := by decide +kernel
theorem dX3_signsOnBothSides_61 : decode cX3_signsOnBothSides 61 = .ok (.iload 5, 2) := by decide +kernel
theorem dX3_signsOnBothSides_63 : decode cX3_signsOnBothSides 63 = .ok (.invokevirtual 155, 3) := by decide +kernel
theorem dX3_signsOnBothSides_66 : decode cX3_signsOnBothSides 66 = .ok (.isub, 1) := by decide +kernel
theorem dX3_signsOnBothSides_67 : decode cX3_signsOnBothSides 67 = .ok (.isub, 1) := by decide +kernel
theorem dX3_signsOnBothSides_68 : decode cX3_signsOnBothSides 68 = .ok (.invokestatic 139, 3) := by decide +kernel
theorem dX3_signsOnBothSides_71 : decode cX3_signsOnBothSides 71 = .ok (.istore 10, 2) := by decide +kernel
theorem dX3_signsOnBothSides_73 : decode cX3_signsOnBothSides 73 = .ok (.iload 7, 2) := by decide +kernel
theorem dX3_signsOnBothSides_75 : decode cX3_signsOnBothSides 75 = .ok (.iload 10, 2) := by decide +kernel
theorem dX3_signsOnBothSides_77 : decode cX3_signsOnBothSides 77 = .ok (.iadd, 1) := by decide +kernel
theorem dX3_signsOnBothSides_78 : decode cX3_signsOnBothSides 78 = .ok (.istore 7, 2) := by decide +kernel
theorem dX3_signsOnBothSides_80 : decode cX3_signsOnBothSides 80 = .ok (.iload 8, 2) := by decide +kernel
theorem dX3_signsOnBothSides_82 : decode cX3_signsOnBothSides 82 = .ok (.iload 9, 2) := by decide +kernel
theorem dX3_signsOnBothSides_84 : decode cX3_signsOnBothSides 84 = .ok (.iload 10, 2) := by decide +kernel
theorem dX3_signsOnBothSides_86 : decode cX3_signsOnBothSides 86 = .ok (.isub, 1) := by decide +kernel
theorem dX3_signsOnBothSides_87 : decode cX3_signsOnBothSides 87 = .ok (.iadd, 1) := by decide +kernel
theorem dX3_signsOnBothSides_88 : decode cX3_signsOnBothSides 88 = .ok (.istore 8, 2) := by decide +kernel
theorem dX3_signsOnBothSides_90 : decode cX3_signsOnBothSides 90 = .ok (.aload_n 0, 1) := by decide +kernel
theorem dX3_signsOnBothSides_91 : decode cX3_signsOnBothSides 91 = .ok (.iload 4, 2) := by decide +kernel
theorem dX3_signsOnBothSides_93 : decode cX3_signsOnBothSides 93 = .ok (.invokevirtual 162, 3) := by decide +kernel
theorem dX3_signsOnBothSides_96 : decode cX3_signsOnBothSides 96 = .ok (.aload_n 0, 1) := by decide +kernel
theorem dX3_signsOnBothSides_97 : decode cX3_signsOnBothSides 97 = .ok (.iload 5, 2) := by decide +kernel
theorem dX3_signsOnBothSides_99 : decode cX3_signsOnBothSides 99 = .ok (.invokevirtual 162, 3) := by decide +kernel
theorem dX3_signsOnBothSides_102 : decode cX3_signsOnBothSides 102 = .ok (.aload_n 0, 1) := by decide +kernel
theorem dX3_signsOnBothSides_103 : decode cX3_signsOnBothSides 103 = .ok (.iload 6, 2) := by decide +kernel
theorem dX3_signsOnBothSides_105 : decode cX3_signsOnBothSides 105 = .ok (.invokevirtual 162, 3) := by decide +kernel
theorem dX3_signsOnBothSides_108 : decode cX3_signsOnBothSides 108 = .ok (.invokestatic 139, 3) := by decide +kernel
theorem dX3_signsOnBothSides_111 : decode cX3_signsOnBothSides 111 = .ok (.iadd, 1) := by decide +kernel
theorem dX3_signsOnBothSides_112 : decode cX3_signsOnBothSides 112 = .ok (.aload_n 0, 1) := by decide +kernel
theorem dX3_signsOnBothSides_113 : decode cX3_signsOnBothSides 113 = .ok (.getfield 43, 3) := by decide +kernel
theorem dX3_signsOnBothSides_116 : decode cX3_signsOnBothSides 116 = .ok (.iadd, 1) := by decide +kernel
theorem dX3_signsOnBothSides_117 : decode cX3_signsOnBothSides 117 = .ok (.istore 10, 2) := by decide +kernel
theorem dX3_signsOnBothSides_119 : decode cX3_signsOnBothSides 119 = .ok (.aload_n 0, 1) := by decide +kernel
theorem dX3_signsOnBothSides_120 : decode cX3_signsOnBothSides 120 = .ok (.iload 10, 2) := by decide +kernel
theorem dX3_signsOnBothSides_122 : decode cX3_signsOnBothSides 122 = .ok (.bipush (9), 2) := by decide +kernel
theorem dX3_signsOnBothSides_124 : decode cX3_signsOnBothSides 124 = .ok (.newarray .int, 2) := by decide +kernel
theorem dX3_signsOnBothSides_126 : decode cX3_signsOnBothSides 126 = .ok (.dup, 1) := by decide +kernel
theorem dX3_signsOnBothSides_127 : decode cX3_signsOnBothSides 127 = .ok (.iconst 0, 1) := by decide +kernel
theorem dX3_signsOnBothSides_128 : decode cX3_signsOnBothSides 128 = .ok (.iload 4, 2) := by decide +kernel
theorem dX3_signsOnBothSides_130 : decode cX3_signsOnBothSides 130 = .ok (.iastore, 1) := by decide +kernel
theorem dX3_signsOnBothSides_131 : decode cX3_signsOnBothSides 131 = .ok (.dup, 1) := by decide +kernel
theorem dX3_signsOnBothSides_132 : decode cX3_signsOnBothSides 132 = .ok (.iconst 1, 1) := by decide +kernel
theorem dX3_signsOnBothSides_133 : decode cX3_signsOnBothSides 133 = .ok (.iconst 0, 1) := by decide +kernel
theorem dX3_signsOnBothSides_134 : decode cX3_signsOnBothSides 134 = .ok (.iastore, 1) := by decide +kernel
theorem dX3_signsOnBothSides_135 : decode cX3_signsOnBothSides 135 = .ok (.dup, 1) := by decide +kernel
theorem dX3_signsOnBothSides_136 : decode cX3_signsOnBothSides 136 = .ok (.iconst 2, 1) := by decide +kernel
theorem dX3_signsOnBothSides_137 : decode cX3_signsOnBothSides 137 = .ok (.iconst 0, 1) := by decide +kernel
theorem dX3_signsOnBothSides_138 : decode cX3_signsOnBothSides 138 = .ok (.iastore, 1) := by decide +kernel
theorem dX3_signsOnBothSides_139 : decode cX3_signsOnBothSides 139 = .ok (.dup, 1) := by decide +kernel
theorem dX3_signsOnBothSides_140 : decode cX3_signsOnBothSides 140 = .ok (.iconst 3, 1) := by decide +kernel
theorem dX3_signsOnBothSides_141 : decode cX3_signsOnBothSides 141 = .ok (.iload 5, 2) := by decide +kernel
theorem dX3_signsOnBothSides_143 : decode cX3_signsOnBothSides 143 = .ok (.iastore, 1) := by decide +kernel
theorem dX3_signsOnBothSides_144 : decode cX3_signsOnBothSides 144 = .ok (.dup, 1) := by decide +kernel
theorem dX3_signsOnBothSides_145 : decode cX3_signsOnBothSides 145 = .ok (.iconst 4, 1) := by decide +kernel
theorem dX3_signsOnBothSides_146 : decode cX3_signsOnBothSides 146 = .ok (.aload_n 0, 1) := by decide +kernel
theorem dX3_signsOnBothSides_147 : decode cX3_signsOnBothSides 147 = .ok (.iload 4, 2) := by decide +kernel
theorem dX3_signsOnBothSides_149 : decode cX3_signsOnBothSides 149 = .ok (.invokevirtual 162, 3) := by decide +kernel
theorem dX3_signsOnBothSides_152 : decode cX3_signsOnBothSides 152 = .ok (.iastore, 1) := by decide +kernel
theorem dX3_signsOnBothSides_153 : decode cX3_signsOnBothSides 153 = .ok (.dup, 1) := by decide +kernel
theorem dX3_signsOnBothSides_154 : decode cX3_signsOnBothSides 154 = .ok (.iconst 5, 1) := by decide +kernel
theorem dX3_signsOnBothSides_155 : decode cX3_signsOnBothSides 155 = .ok (.iload 7, 2) := by decide +kernel
theorem dX3_signsOnBothSides_157 : decode cX3_signsOnBothSides 157 = .ok (.iastore, 1) := by decide +kernel
theorem dX3_signsOnBothSides_158 : decode cX3_signsOnBothSides 158 = .ok (.dup, 1) := by decide +kernel
theorem dX3_signsOnBothSides_159 : decode cX3_signsOnBothSides 159 = .ok (.bipush (6), 2) := by decide +kernel
theorem dX3_signsOnBothSides_161 : decode cX3_signsOnBothSides 161 = .ok (.iload 6, 2) := by decide +kernel
theorem dX3_signsOnBothSides_163 : decode cX3_signsOnBothSides 163 = .ok (.iastore, 1) := by decide +kernel
theorem dX3_signsOnBothSides_164 : decode cX3_signsOnBothSides 164 = .ok (.dup, 1) := by decide +kernel
theorem dX3_signsOnBothSides_165 : decode cX3_signsOnBothSides 165 = .ok (.bipush (7), 2) := by decide +kernel
theorem dX3_signsOnBothSides_167 : decode cX3_signsOnBothSides 167 = .ok (.aload_n 0, 1) := by decide +kernel
theorem dX3_signsOnBothSides_168 : decode cX3_signsOnBothSides 168 = .ok (.iload 4, 2) := by decide +kernel
theorem dX3_signsOnBothSides_170 : decode cX3_signsOnBothSides 170 = .ok (.invokevirtual 162, 3) := by decide +kernel
theorem dX3_signsOnBothSides_173 : decode cX3_signsOnBothSides 173 = .ok (.iastore, 1) := by decide +kernel
theorem dX3_signsOnBothSides_174 : decode cX3_signsOnBothSides 174 = .ok (.dup, 1) := by decide +kernel
theorem dX3_signsOnBothSides_175 : decode cX3_signsOnBothSides 175 = .ok (.bipush (8), 2) := by decide +kernel
theorem dX3_signsOnBothSides_177 : decode cX3_signsOnBothSides 177 = .ok (.iload 8, 2) := by decide +kernel
theorem dX3_signsOnBothSides_179 : decode cX3_signsOnBothSides 179 = .ok (.ineg, 1) := by decide +kernel
theorem dX3_signsOnBothSides_180 : decode cX3_signsOnBothSides 180 = .ok (.iastore, 1) := by decide +kernel
theorem dX3_signsOnBothSides_181 : decode cX3_signsOnBothSides 181 = .ok (.invokevirtual 165, 3) := by decide +kernel
theorem dX3_signsOnBothSides_184 : decode cX3_signsOnBothSides 184 = .ok (.areturn, 1) := by decide +kernel
theorem dX3_limitsShape_0 : decode cX3_limitsShape 0 = .ok (.aload_n 0, 1) := by decide +kernel
theorem dX3_limitsShape_1 : decode cX3_limitsShape 1 = .ok (.iload_n 1, 1) := by decide +kernel
theorem dX3_limitsShape_2 : decode cX3_limitsShape 2 = .ok (.bipush (19), 2) := by decide +kernel
theorem dX3_limitsShape_4 : decode cX3_limitsShape 4 = .ok (.invokevirtual 135, 3) := by decide +kernel
theorem dX3_limitsShape_7 : decode cX3_limitsShape 7 = .ok (.istore 5, 2) := by decide +kernel
theorem dX3_limitsShape_9 : decode cX3_limitsShape 9 = .ok (.aload_n 0, 1) := by decide +kernel
theorem dX3_limitsShape_10 : decode cX3_limitsShape 10 = .ok (.iload_n 2, 1) := by decide +kernel
theorem dX3_limitsShape_11 : decode cX3_limitsShape 11 = .ok (.invokevirtual 162, 3) := by decide +kernel
theorem dX3_limitsShape_14 : decode cX3_limitsShape 14 = .ok (.istore 6, 2) := by decide +kernel
theorem dX3_limitsShape_16 : decode cX3_limitsShape 16 = .ok (.aload_n 0, 1) := by decide +kernel
theorem dX3_limitsShape_17 : decode cX3_limitsShape 17 = .ok (.iload_n 2, 1) := by decide +kernel
theorem dX3_limitsShape_18 : decode cX3_limitsShape 18 = .ok (.invokevirtual 152, 3) := by decide +kernel
theorem dX3_limitsShape_21 : decode cX3_limitsShape 21 = .ok (.istore 7, 2) := by decide +kernel
theorem dX3_limitsShape_23 : decode cX3_limitsShape 23 = .ok (.aload_n 0, 1) := by decide +kernel
theorem dX3_limitsShape_24 : decode cX3_limitsShape 24 = .ok (.iload_n 2, 1) := by decide +kernel
theorem dX3_limitsShape_25 : decode cX3_limitsShape 25 = .ok (.invokevirtual 155, 3) := by decide +kernel
theorem dX3_limitsShape_28 : decode cX3_limitsShape 28 = .ok (.istore 8, 2) := by decide +kernel
theorem dX3_limitsShape_30 : decode cX3_limitsShape 30 = .ok (.iconst 0, 1) := by decide +kernel
theorem dX3_limitsShape_31 : decode cX3_limitsShape 31 = .ok (.istore 9, 2) := by decide +kernel
theorem dX3_limitsShape_33 : decode cX3_limitsShape 33 = .ok (.iconst 0, 1) := by decide +kernel
theorem dX3_limitsShape_34 : decode cX3_limitsShape 34 = .ok (.istore 10, 2) := by decide +kernel
theorem dX3_limitsShape_36 : decode cX3_limitsShape 36 = .ok (.iload_n 3, 1) := by decide +kernel
theorem dX3_limitsShape_37 : decode cX3_limitsShape 37 = .ok (.iconst (-1), 1) := by decide +kernel
theorem dX3_limitsShape_38 : decode cX3_limitsShape 38 = .ok (.if_icmp .eq (66), 3) := by decide +kernel
theorem dX3_limitsShape_41 : decode cX3_limitsShape 41 = .ok (.aload_n 0, 1) := by decide +kernel
theorem dX3_limitsShape_42 : decode cX3_limitsShape 42 = .ok (.iload_n 1, 1) := by decide +kernel
theorem dX3_limitsShape_43 : decode cX3_limitsShape 43 = .ok (.bipush (17), 2) := by decide +kernel
theorem dX3_limitsShape_45 : decode cX3_limitsShape 45 = .ok (.invokevirtual 135, 3) := by decide +kernel
theorem dX3_limitsShape_48 : decode cX3_limitsShape 48 = .ok (.aload_n 0, 1) := by decide +kernel
theorem dX3_limitsShape_49 : decode cX3_limitsShape 49 = .ok (.iload_n 3, 1) := by decide +kernel
theorem dX3_limitsShape_50 : decode cX3_limitsShape 50 = .ok (.invokevirtual 155, 3) := by decide +kernel
theorem dX3_limitsShape_53 : decode cX3_limitsShape 53 = .ok (.isub, 1) := by decide +kernel
theorem dX3_limitsShape_54 : decode cX3_limitsShape 54 = .ok (.aload_n 0, 1) := by decide +kernel
theorem dX3_limitsShape_55 : decode cX3_limitsShape 55 = .ok (.iload_n 1, 1) := by decide +kernel
theorem dX3_limitsShape_56 : decode cX3_limitsShape 56 = .ok (.bipush (15), 2) := by decide +kernel
theorem dX3_limitsShape_58 : decode cX3_limitsShape 58 = .ok (.invokevirtual 135, 3) := by decide +kernel
theorem dX3_limitsShape_61 : decode cX3_limitsShape 61 = .ok (.invokestatic 139, 3) := by decide +kernel
theorem dX3_limitsShape_64 : decode cX3_limitsShape 64 = .ok (.istore 11, 2) := by decide +kernel
theorem dX3_limitsShape_66 : decode cX3_limitsShape 66 = .ok (.iload 7, 2) := by decide +kernel
theorem dX3_limitsShape_68 : decode cX3_limitsShape 68 = .ok (.iload 11, 2) := by decide +kernel
theorem dX3_limitsShape_70 : decode cX3_limitsShape 70 = .ok (.iadd, 1) := by decide +kernel
theorem dX3_limitsShape_71 : decode cX3_limitsShape 71 = .ok (.aload_n 0, 1) := by decide +kernel
theorem dX3_limitsShape_72 : decode cX3_limitsShape 72 = .ok (.iload_n 3, 1) := by decide +kernel
theorem dX3_limitsShape_73 : decode cX3_limitsShape 73 = .ok (.invokevirtual 155, 3) := by decide +kernel
theorem dX3_limitsShape_76 : decode cX3_limitsShape 76 = .ok (.iadd, 1) := by decide +kernel
theorem dX3_limitsShape_77 : decode cX3_limitsShape 77 = .ok (.istore 9, 2) := by decide +kernel
theorem dX3_limitsShape_79 : decode cX3_limitsShape 79 = .ok (.iload 9, 2) := by decide +kernel
theorem dX3_limitsShape_81 : decode cX3_limitsShape 81 = .ok (.aload_n 0, 1) := by decide +kernel
theorem dX3_limitsShape_82 : decode cX3_limitsShape 82 = .ok (.iload_n 3, 1) := by decide +kernel
theorem dX3_limitsShape_83 : decode cX3_limitsShape 83 = .ok (.invokevirtual 152, 3) := by decide +kernel
theorem dX3_limitsShape_86 : decode cX3_limitsShape 86 = .ok (.iadd, 1) := by decide +kernel
theorem dX3_limitsShape_87 : decode cX3_limitsShape 87 = .ok (.iload 5, 2) := by decide +kernel
theorem dX3_limitsShape_89 : decode cX3_limitsShape 89 = .ok (.iadd, 1) := by decide +kernel
theorem dX3_limitsShape_90 : decode cX3_limitsShape 90 = .ok (.istore 7, 2) := by decide +kernel
theorem dX3_limitsShape_92 : decode cX3_limitsShape 92 = .ok (.iload 6, 2) := by decide +kernel
theorem dX3_limitsShape_94 : decode cX3_limitsShape 94 = .ok (.aload_n 0, 1) := by decide +kernel
theorem dX3_limitsShape_95 : decode cX3_limitsShape 95 = .ok (.iload_n 3, 1) := by decide +kernel
theorem dX3_limitsShape_96 : decode cX3_limitsShape 96 = .ok (.invokevirtual 162, 3) := by decide +kernel
theorem dX3_limitsShape_99 : decode cX3_limitsShape 99 = .ok (.invokestatic 139, 3) := by decide +kernel
theorem dX3_limitsShape_102 : decode cX3_limitsShape 102 = .ok (.istore 6, 2) := by decide +kernel
theorem dX3_limitsShape_104 : decode cX3_limitsShape 104 = .ok (.iload 4, 2) := by decide +kernel
theorem dX3_limitsShape_106 : decode cX3_limitsShape 106 = .ok (.iconst (-1), 1) := by decide +kernel
theorem dX3_limitsShape_107 : decode cX3_limitsShape 107 = .ok (.if_icmp .eq (71), 3) := by decide +kernel
theorem dX3_limitsShape_110 : decode cX3_limitsShape 110 = .ok (.aload_n 0, 1) := by decide +kernel
theorem dX3_limitsShape_111 : decode cX3_limitsShape 111 = .ok (.iload_n 1, 1) := by decide +kernel
theorem dX3_limitsShape_112 : decode cX3_limitsShape 112 = .ok (.bipush (18), 2) := by decide +kernel
theorem dX3_limitsShape_114 : decode cX3_limitsShape 114 = .ok (.invokevirtual 135, 3) := by decide +kernel
theorem dX3_limitsShape_117 : decode cX3_limitsShape 117 = .ok (.aload_n 0, 1) := by decide +kernel
theorem dX3_limitsShape_118 : decode cX3_limitsShape 118 = .ok (.iload 4, 2) := by decide +kernel
theorem dX3_limitsShape_120 : decode cX3_limitsShape 120 = .ok (.invokevirtual 152, 3) := by decide +kernel
theorem dX3_limitsShape_123 : decode cX3_limitsShape 123 = .ok (.isub, 1) := by decide +kernel
theorem dX3_limitsShape_124 : decode cX3_limitsShape 124 = .ok (.aload_n 0, 1) := by decide +kernel
theorem dX3_limitsShape_125 : decode cX3_limitsShape 125 = .ok (.iload_n 1, 1) := by decide +kernel
theorem dX3_limitsShape_126 : decode cX3_limitsShape 126 = .ok (.bipush (16), 2) := by decide +kernel
theorem dX3_limitsShape_128 : decode cX3_limitsShape 128 = .ok (.invokevirtual 135, 3) := by decide +kernel
theorem dX3_limitsShape_131 : decode cX3_limitsShape 131 = .ok (.invokestatic 139, 3) := by decide +kernel
theorem dX3_limitsShape_134 : decode cX3_limitsShape 134 = .ok (.istore 11, 2) := by decide +kernel
theorem dX3_limitsShape_136 : decode cX3_limitsShape 136 = .ok (.iload 8, 2) := by decide +kernel
theorem dX3_limitsShape_138 : decode cX3_limitsShape 138 = .ok (.iload 11, 2) := by decide +kernel
theorem dX3_limitsShape_140 : decode cX3_limitsShape 140 = .ok (.iadd, 1) := by decide +kernel
theorem dX3_limitsShape_141 : decode cX3_limitsShape 141 = .ok (.aload_n 0, 1) := by decide +kernel
theorem dX3_limitsShape_142 : decode cX3_limitsShape 142 = .ok (.iload 4, 2) := by decide +kernel
theorem dX3_limitsShape_144 : decode cX3_limitsShape 144 = .ok (.invokevirtual 152, 3) := by decide +kernel
theorem dX3_limitsShape_147 : decode cX3_limitsShape 147 = .ok (.iadd, 1) := by decide +kernel
theorem dX3_limitsShape_148 : decode cX3_limitsShape 148 = .ok (.ineg, 1) := by decide +kernel
theorem dX3_limitsShape_149 : decode cX3_limitsShape 149 = .ok (.istore 10, 2) := by decide +kernel
theorem dX3_limitsShape_151 : decode cX3_limitsShape 151 = .ok (.aload_n 0, 1) := by decide +kernel
theorem dX3_limitsShape_152 : decode cX3_limitsShape 152 = .ok (.iload 4, 2) := by decide +kernel
theorem dX3_limitsShape_154 : decode cX3_limitsShape 154 = .ok (.invokevirtual 155, 3) := by decide +kernel
theorem dX3_limitsShape_157 : decode cX3_limitsShape 157 = .ok (.iload 5, 2) := by decide +kernel
theorem dX3_limitsShape_159 : decode cX3_limitsShape 159 = .ok (.iadd, 1) := by decide +kernel
theorem dX3_limitsShape_160 : decode cX3_limitsShape 160 = .ok (.iload 10, 2) := by decide +kernel
theorem dX3_limitsShape_162 : decode cX3_limitsShape 162 = .ok (.isub, 1) := by decide +kernel
theorem dX3_limitsShape_163 : decode cX3_limitsShape 163 = .ok (.istore 8, 2) := by decide +kernel
theorem dX3_limitsShape_165 : decode cX3_limitsShape 165 = .ok (.iload 6, 2) := by decide +kernel
theorem dX3_limitsShape_167 : decode cX3_limitsShape 167 = .ok (.aload_n 0, 1) := by decide +kernel
theorem dX3_limitsShape_168 : decode cX3_limitsShape 168 = .ok (.iload 4, 2) := by decide +kernel
theorem dX3_limitsShape_170 : decode cX3_limitsShape 170 = .ok (.invokevirtual 162, 3) := by decide +kernel
theorem dX3_limitsShape_173 : decode cX3_limitsShape 173 = .ok (.invokestatic 139, 3) := by decide +kernel
theorem dX3_limitsShape_176 : decode cX3_limitsShape 176 = .ok (.istore 6, 2) := by decide +kernel
theorem dX3_limitsShape_178 : decode cX3_limitsShape 178 = .ok (.iload 6, 2) := by decide +kernel
theorem dX3_limitsShape_180 : decode cX3_limitsShape 180 = .ok (.aload_n 0, 1) := by decide +kernel
theorem dX3_limitsShape_181 : decode cX3_limitsShape 181 = .ok (.iload_n 2, 1) := by decide +kernel
theorem dX3_limitsShape_182 : decode cX3_limitsShape 182 = .ok (.invokevirtual 162, 3) := by decide +kernel
theorem dX3_limitsShape_185 : decode cX3_limitsShape 185 = .ok (.isub, 1) := by decide +kernel
theorem dX3_limitsShape_186 : decode cX3_limitsShape 186 = .ok (.invokestatic 228, 3) := by decide +kernel
theorem dX3_limitsShape_189 : decode cX3_limitsShape 189 = .ok (.istore 11, 2) := by decide +kernel
theorem dX3_limitsShape_191 : decode cX3_limitsShape 191 = .ok (.iload_n 3, 1) := by decide +kernel
theorem dX3_limitsShape_192 : decode cX3_limitsShape 192 = .ok (.iconst (-1), 1) := by decide +kernel
theorem dX3_limitsShape_193 : decode cX3_limitsShape 193 = .ok (.if_icmp .ne (59), 3) := by decide +kernel
theorem dX3_limitsShape_196 : decode cX3_limitsShape 196 = .ok (.new 9, 3) := by decide +kernel
theorem dX3_limitsShape_199 : decode cX3_limitsShape 199 = .ok (.dup, 1) := by decide +kernel
theorem dX3_limitsShape_200 : decode cX3_limitsShape 200 = .ok (.iload 6, 2) := by decide +kernel
theorem dX3_limitsShape_202 : decode cX3_limitsShape 202 = .ok (.iload 7, 2) := by decide +kernel
theorem dX3_limitsShape_204 : decode cX3_limitsShape 204 = .ok (.iload 8, 2) := by decide +kernel
theorem dX3_limitsShape_206 : decode cX3_limitsShape 206 = .ok (.bipush (6), 2) := by decide +kernel
theorem dX3_limitsShape_208 : decode cX3_limitsShape 208 = .ok (.newarray .int, 2) := by decide +kernel
theorem dX3_limitsShape_210 : decode cX3_limitsShape 210 = .ok (.dup, 1) := by decide +kernel
theorem dX3_limitsShape_211 : decode cX3_limitsShape 211 = .ok (.iconst 0, 1) := by decide +kernel
theorem dX3_limitsShape_212 : decode cX3_limitsShape 212 = .ok (.iload_n 2, 1) := by decide +kernel
theorem dX3_limitsShape_213 : decode cX3_limitsShape 213 = .ok (.iastore, 1) := by decide +kernel
theorem dX3_limitsShape_214 : decode cX3_limitsShape 214 = .ok (.dup, 1) := by decide +kernel
theorem dX3_limitsShape_215 : decode cX3_limitsShape 215 = .ok (.iconst 1, 1) := by decide +kernel
theorem dX3_limitsShape_216 : decode cX3_limitsShape 216 = .ok (.iload 11, 2) := by decide +kernel
theorem dX3_limitsShape_218 : decode cX3_limitsShape 218 = .ok (.iastore, 1) := by decide +kernel
theorem dX3_limitsShape_219 : decode cX3_limitsShape 219 = .ok (.dup, 1) := by decide +kernel
theorem dX3_limitsShape_220 : decode cX3_limitsShape 220 = .ok (.iconst 2, 1) := by decide +kernel
theorem dX3_limitsShape_221 : decode cX3_limitsShape 221 = .ok (.iconst 0, 1) := by decide +kernel
theorem dX3_limitsShape_222 : decode cX3_limitsShape 222 = .ok (.iastore, 1) := by decide +kernel
theorem dX3_limitsShape_223 : decode cX3_limitsShape 223 = .ok (.dup, 1) := by decide +kernel
theorem dX3_limitsShape_224 : decode cX3_limitsShape 224 = .ok (.iconst 3, 1) := by decide +kernel
theorem dX3_limitsShape_225 : decode cX3_limitsShape 225 = .ok (.iload 4, 2) := by decide +kernel
theorem dX3_limitsShape_227 : decode cX3_limitsShape 227 = .ok (.iastore, 1) := by decide +kernel
theorem dX3_limitsShape_228 : decode cX3_limitsShape 228 = .ok (.dup, 1) := by decide +kernel
theorem dX3_limitsShape_229 : decode cX3_limitsShape 229 = .ok (.iconst 4, 1) := by decide +kernel
theorem dX3_limitsShape_230 : decode cX3_limitsShape 230 = .ok (.iload 6, 2) := by decide +kernel
theorem dX3_limitsShape_232 : decode cX3_limitsShape 232 = .ok (.aload_n 0, 1) := by decide +kernel
theorem dX3_limitsShape_233 : decode cX3_limitsShape 233 = .ok (.iload 4, 2) := by decide +kernel
theorem dX3_limitsShape_235 : decode cX3_limitsShape 235 = .ok (.invokevirtual 162, 3) := by decide +kernel
theorem dX3_limitsShape_238 : decode cX3_limitsShape 238 = .ok (.isub, 1) := by decide +kernel
theorem dX3_limitsShape_239 : decode cX3_limitsShape 239 = .ok (.invokestatic 228, 3) := by decide +kernel
theorem dX3_limitsShape_242 : decode cX3_limitsShape 242 = .ok (.iastore, 1) := by decide +kernel
theorem dX3_limitsShape_243 : decode cX3_limitsShape 243 = .ok (.dup, 1) := by decide +kernel
theorem dX3_limitsShape_244 : decode cX3_limitsShape 244 = .ok (.iconst 5, 1) := by decide +kernel
theorem dX3_limitsShape_245 : decode cX3_limitsShape 245 = .ok (.iload 10, 2) := by decide +kernel
theorem dX3_limitsShape_247 : decode cX3_limitsShape 247 = .ok (.iastore, 1) := by decide +kernel
theorem dX3_limitsShape_248 : decode cX3_limitsShape 248 = .ok (.invokespecial 57, 3) := by decide +kernel
theorem dX3_limitsShape_251 : decode cX3_limitsShape 251 = .ok (.areturn, 1) := by decide +kernel
theorem dX3_limitsShape_252 : decode cX3_limitsShape 252 = .ok (.iload 6, 2) := by decide +kernel
theorem dX3_limitsShape_254 : decode cX3_limitsShape 254 = .ok (.aload_n 0, 1) := by decide +kernel
theorem dX3_limitsShape_255 : decode cX3_limitsShape 255 = .ok (.iload_n 3, 1) := by decide +kernel
theorem dX3_limitsShape_256 : decode cX3_limitsShape 256 = .ok (.invokevirtual 162, 3) := by decide +kernel
theorem dX3_limitsShape_259 : decode cX3_limitsShape 259 = .ok (.isub, 1) := by decide +kernel
theorem dX3_limitsShape_260 : decode cX3_limitsShape 260 = .ok (.invokestatic 228, 3) := by decide +kernel
theorem dX3_limitsShape_263 : decode cX3_limitsShape 263 = .ok (.istore 12, 2) := by decide +kernel
theorem dX3_limitsShape_265 : decode cX3_limitsShape 265 = .ok (.iload 4, 2) := by decide +kernel
theorem dX3_limitsShape_267 : decode cX3_limitsShape 267 = .ok (.iconst (-1), 1) := by decide +kernel
theorem dX3_limitsShape_268 : decode cX3_limitsShape 268 = .ok (.if_icmp .ne (48), 3) := by decide +kernel
theorem dX3_limitsShape_271 : decode cX3_limitsShape 271 = .ok (.new 9, 3) := by decide +kernel
theorem dX3_limitsShape_274 : decode cX3_limitsShape 274 = .ok (.dup, 1) := by decide +kernel
theorem dX3_limitsShape_275 : decode cX3_limitsShape 275 = .ok (.iload 6, 2) := by decide +kernel
theorem dX3_limitsShape_277 : decode cX3_limitsShape 277 = .ok (.iload 7, 2) := by decide +kernel
theorem dX3_limitsShape_279 : decode cX3_limitsShape 279 = .ok (.iload 8, 2) := by decide +kernel
theorem dX3_limitsShape_281 : decode cX3_limitsShape 281 = .ok (.bipush (6), 2) := by decide +kernel
theorem dX3_limitsShape_283 : decode cX3_limitsShape 283 = .ok (.newarray .int, 2) := by decide +kernel
theorem dX3_limitsShape_285 : decode cX3_limitsShape 285 = .ok (.dup, 1) := by decide +kernel
theorem dX3_limitsShape_286 : decode cX3_limitsShape 286 = .ok (.iconst 0, 1) := by decide +kernel
theorem dX3_limitsShape_287 : decode cX3_limitsShape 287 = .ok (.iload_n 3, 1) := by decide +kernel
theorem dX3_limitsShape_288 : decode cX3_limitsShape 288 = .ok (.iastore, 1) := by decide +kernel
theorem dX3_limitsShape_289 : decode cX3_limitsShape 289 = .ok (.dup, 1) := by decide +kernel
theorem dX3_limitsShape_290 : decode cX3_limitsShape 290 = .ok (.iconst 1, 1) := by decide +kernel
theorem dX3_limitsShape_291 : decode cX3_limitsShape 291 = .ok (.iload 12, 2) := by decide +kernel
theorem dX3_limitsShape_293 : decode cX3_limitsShape 293 = .ok (.iastore, 1) := by decide +kernel
theorem dX3_limitsShape_294 : decode cX3_limitsShape 294 = .ok (.dup, 1) := by decide +kernel
theorem dX3_limitsShape_295 : decode cX3_limitsShape 295 = .ok (.iconst 2, 1) := by decide +kernel
theorem dX3_limitsShape_296 : decode cX3_limitsShape 296 = .ok (.iload 9, 2) := by decide +kernel
theorem dX3_limitsShape_298 : decode cX3_limitsShape 298 = .ok (.iastore, 1) := by decide +kernel
theorem dX3_limitsShape_299 : decode cX3_limitsShape 299 = .ok (.dup, 1) := by decide +kernel
theorem dX3_limitsShape_300 : decode cX3_limitsShape 300 = .ok (.iconst 3, 1) := by decide +kernel
theorem dX3_limitsShape_301 : decode cX3_limitsShape 301 = .ok (.iload_n 2, 1) := by decide +kernel
theorem dX3_limitsShape_302 : decode cX3_limitsShape 302 = .ok (.iastore, 1) := by decide +kernel
theorem dX3_limitsShape_303 : decode cX3_limitsShape 303 = .ok (.dup, 1) := by decide +kernel
theorem dX3_limitsShape_304 : decode cX3_limitsShape 304 = .ok (.iconst 4, 1) := by decide +kernel
theorem dX3_limitsShape_305 : decode cX3_limitsShape 305 = .ok (.iload 11, 2) := by decide +kernel
theorem dX3_limitsShape_307 : decode cX3_limitsShape 307 = .ok (.iastore, 1) := by decide +kernel
theorem dX3_limitsShape_308 : decode cX3_limitsShape 308 = .ok (.dup, 1) := by decide +kernel
theorem dX3_limitsShape_309 : decode cX3_limitsShape 309 = .ok (.iconst 5, 1) := by decide +kernel
theorem dX3_limitsShape_310 : decode cX3_limitsShape 310 = .ok (.iconst 0, 1) := by decide +kernel
theorem dX3_limitsShape_311 : decode cX3_limitsShape 311 = .ok (.iastore, 1) := by decide +kernel
theorem dX3_limitsShape_312 : decode cX3_limitsShape 312 = .ok (.invokespecial 57, 3) := by decide +kernel
theorem dX3_limitsShape_315 : decode cX3_limitsShape 315 = .ok (.areturn, 1) := by decide +kernel
theorem dX3_limitsShape_316 : decode cX3_limitsShape 316 = .ok (.new 9, 3) := by decide +kernel
theorem dX3_limitsShape_319 : decode cX3_limitsShape 319 = .ok (.dup, 1) := by decide +kernel
theorem dX3_limitsShape_320 : decode cX3_limitsShape 320 = .ok (.iload 6, 2) := by decide +kernel
theorem dX3_limitsShape_322 : decode cX3_limitsShape 322 = .ok (.iload 7, 2) := by decide +kernel
theorem dX3_limitsShape_324 : decode cX3_limitsShape 324 = .ok (.iload 8, 2) := by decide +kernel
theorem dX3_limitsShape_326 : decode cX3_limitsShape 326 = .ok (.bipush (9), 2) := by decide +kernel
theorem dX3_limitsShape_328 : decode cX3_limitsShape 328 = .ok (.newarray .int, 2) := by decide +kernel
theorem dX3_limitsShape_330 : decode cX3_limitsShape 330 = .ok (.dup, 1) := by decide +kernel
theorem dX3_limitsShape_331 : decode cX3_limitsShape 331 = .ok (.iconst 0, 1) := by decide +kernel
theorem dX3_limitsShape_332 : decode cX3_limitsShape 332 = .ok (.iload_n 3, 1) := by decide +kernel
theorem dX3_limitsShape_333 : decode cX3_limitsShape 333 = .ok (.iastore, 1) := by decide +kernel
theorem dX3_limitsShape_334 : decode cX3_limitsShape 334 = .ok (.dup, 1) := by decide +kernel
theorem dX3_limitsShape_335 : decode cX3_limitsShape 335 = .ok (.iconst 1, 1) := by decide +kernel
theorem dX3_limitsShape_336 : decode cX3_limitsShape 336 = .ok (.iload 12, 2) := by decide +kernel
theorem dX3_limitsShape_338 : decode cX3_limitsShape 338 = .ok (.iastore, 1) := by decide +kernel
theorem dX3_limitsShape_339 : decode cX3_limitsShape 339 = .ok (.dup, 1) := by decide +kernel
theorem dX3_limitsShape_340 : decode cX3_limitsShape 340 = .ok (.iconst 2, 1) := by decide +kernel
theorem dX3_limitsShape_341 : decode cX3_limitsShape 341 = .ok (.iload 9, 2) := by decide +kernel
theorem dX3_limitsShape_343 : decode cX3_limitsShape 343 = .ok (.iastore, 1) := by decide +kernel
theorem dX3_limitsShape_344 : decode cX3_limitsShape 344 = .ok (.dup, 1) := by decide +kernel
theorem dX3_limitsShape_345 : decode cX3_limitsShape 345 = .ok (.iconst 3, 1) := by decide +kernel
theorem dX3_limitsShape_346 : decode cX3_limitsShape 346 = .ok (.iload_n 2, 1) := by decide +kernel
theorem dX3_limitsShape_347 : decode cX3_limitsShape 347 = .ok (.iastore, 1) := by decide +kernel
theorem dX3_limitsShape_348 : decode cX3_limitsShape 348 = .ok (.dup, 1) := by decide +kernel
theorem dX3_limitsShape_349 : decode cX3_limitsShape 349 = .ok (.iconst 4, 1) := by decide +kernel
theorem dX3_limitsShape_350 : decode cX3_limitsShape 350 = .ok (.iload 11, 2) := by decide +kernel
theorem dX3_limitsShape_352 : decode cX3_limitsShape 352 = .ok (.iastore, 1) := by decide +kernel
theorem dX3_limitsShape_353 : decode cX3_limitsShape 353 = .ok (.dup, 1) := by decide +kernel
theorem dX3_limitsShape_354 : decode cX3_limitsShape 354 = .ok (.iconst 5, 1) := by decide +kernel
theorem dX3_limitsShape_355 : decode cX3_limitsShape 355 = .ok (.iconst 0, 1) := by decide +kernel
theorem dX3_limitsShape_356 : decode cX3_limitsShape 356 = .ok (.iastore, 1) := by decide +kernel
theorem dX3_limitsShape_357 : decode cX3_limitsShape 357 = .ok (.dup, 1) := by decide +kernel
theorem dX3_limitsShape_358 : decode cX3_limitsShape 358 = .ok (.bipush (6), 2) := by decide +kernel
theorem dX3_limitsShape_360 : decode cX3_limitsShape 360 = .ok (.iload 4, 2) := by decide +kernel
theorem dX3_limitsShape_362 : decode cX3_limitsShape 362 = .ok (.iastore, 1) := by decide +kernel
theorem dX3_limitsShape_363 : decode cX3_limitsShape 363 = .ok (.dup, 1) := by decide +kernel
theorem dX3_limitsShape_364 : decode cX3_limitsShape 364 = .ok (.bipush (7), 2) := by decide +kernel
theorem dX3_limitsShape_366 : decode cX3_limitsShape 366 = .ok (.iload 6, 2) := by decide +kernel
theorem dX3_limitsShape_368 : decode cX3_limitsShape 368 = .ok (.aload_n 0, 1) := by decide +kernel
theorem dX3_limitsShape_369 : decode cX3_limitsShape 369 = .ok (.iload 4, 2) := by decide +kernel
theorem dX3_limitsShape_371 : decode cX3_limitsShape 371 = .ok (.invokevirtual 162, 3) := by decide +kernel
theorem dX3_limitsShape_374 : decode cX3_limitsShape 374 = .ok (.isub, 1) := by decide +kernel
theorem dX3_limitsShape_375 : decode cX3_limitsShape 375 = .ok (.invokestatic 228, 3) := by decide +kernel
theorem dX3_limitsShape_378 : decode cX3_limitsShape 378 = .ok (.iastore, 1) := by decide +kernel
theorem dX3_limitsShape_379 : decode cX3_limitsShape 379 = .ok (.dup, 1) := by decide +kernel
theorem dX3_limitsShape_380 : decode cX3_limitsShape 380 = .ok (.bipush (8), 2) := by decide +kernel
theorem dX3_limitsShape_382 : decode cX3_limitsShape 382 = .ok (.iload 10, 2) := by decide +kernel
theorem dX3_limitsShape_384 : decode cX3_limitsShape 384 = .ok (.iastore, 1) := by decide +kernel
theorem dX3_limitsShape_385 : decode cX3_limitsShape 385 = .ok (.invokespecial 57, 3) := by decide +kernel
theorem dX3_limitsShape_388 : decode cX3_limitsShape 388 = .ok (.areturn, 1) := by decide +kernel
theorem dX3_bracketsLeast_0 : decode cX3_bracketsLeast 0 = .ok (.aload_n 0, 1) := by decide +kernel
theorem dX3_bracketsLeast_1 : decode cX3_bracketsLeast 1 = .ok (.iload_n 1, 1) := by decide +kernel
theorem dX3_bracketsLeast_2 : decode cX3_bracketsLeast 2 = .ok (.iconst 0, 1) := by decide +kernel
theorem dX3_bracketsLeast_3 : decode cX3_bracketsLeast 3 = .ok (.invokevirtual 135, 3) := by decide +kernel
theorem dX3_bracketsLeast_6 : decode cX3_bracketsLeast 6 = .ok (.istore_n 3, 1) := by decide +kernel
theorem dX3_bracketsLeast_7 : decode cX3_bracketsLeast 7 = .ok (.aload_n 0, 1) := by decide +kernel
theorem dX3_bracketsLeast_8 : decode cX3_bracketsLeast 8 = .ok (.iload_n 2, 1) := by decide +kernel
theorem dX3_bracketsLeast_9 : decode cX3_bracketsLeast 9 = .ok (.invokevirtual 152, 3) := by decide +kernel
theorem dX3_bracketsLeast_12 : decode cX3_bracketsLeast 12 = .ok (.iload_n 3, 1) := by decide +kernel
theorem dX3_bracketsLeast_13 : decode cX3_bracketsLeast 13 = .ok (.isub, 1) := by decide +kernel
theorem dX3_bracketsLeast_14 : decode cX3_bracketsLeast 14 = .ok (.aload_n 0, 1) := by decide +kernel
theorem dX3_bracketsLeast_15 : decode cX3_bracketsLeast 15 = .ok (.iload_n 2, 1) := by decide +kernel
theorem dX3_bracketsLeast_16 : decode cX3_bracketsLeast 16 = .ok (.invokevirtual 155, 3) := by decide +kernel
theorem dX3_bracketsLeast_19 : decode cX3_bracketsLeast 19 = .ok (.iload_n 3, 1) := by decide +kernel
theorem dX3_bracketsLeast_20 : decode cX3_bracketsLeast 20 = .ok (.iadd, 1) := by decide +kernel
theorem dX3_bracketsLeast_21 : decode cX3_bracketsLeast 21 = .ok (.invokestatic 139, 3) := by decide +kernel
theorem dX3_bracketsLeast_24 : decode cX3_bracketsLeast 24 = .ok (.istore 4, 2) := by decide +kernel
theorem dX3_bracketsLeast_26 : decode cX3_bracketsLeast 26 = .ok (.iconst 0, 1) := by decide +kernel
theorem dX3_bracketsLeast_27 : decode cX3_bracketsLeast 27 = .ok (.iload 4, 2) := by decide +kernel
theorem dX3_bracketsLeast_29 : decode cX3_bracketsLeast 29 = .ok (.sipush (500), 3) := by decide +kernel
theorem dX3_bracketsLeast_32 : decode cX3_bracketsLeast 32 = .ok (.idiv, 1) := by decide +kernel
theorem dX3_bracketsLeast_33 : decode cX3_bracketsLeast 33 = .ok (.sipush (901), 3) := by decide +kernel
theorem dX3_bracketsLeast_36 : decode cX3_bracketsLeast 36 = .ok (.imul, 1) := by decide +kernel
theorem dX3_bracketsLeast_37 : decode cX3_bracketsLeast 37 = .ok (.iconst 2, 1) := by decide +kernel
theorem dX3_bracketsLeast_38 : decode cX3_bracketsLeast 38 = .ok (.iload 4, 2) := by decide +kernel
theorem dX3_bracketsLeast_40 : decode cX3_bracketsLeast 40 = .ok (.imul, 1) := by decide +kernel
theorem dX3_bracketsLeast_41 : decode cX3_bracketsLeast 41 = .ok (.aload_n 0, 1) := by decide +kernel
theorem dX3_bracketsLeast_42 : decode cX3_bracketsLeast 42 = .ok (.getfield 47, 3) := by decide +kernel
theorem dX3_bracketsLeast_45 : decode cX3_bracketsLeast 45 = .ok (.isub, 1) := by decide +kernel
theorem dX3_bracketsLeast_46 : decode cX3_bracketsLeast 46 = .ok (.invokestatic 139, 3) := by decide +kernel
theorem dX3_bracketsLeast_49 : decode cX3_bracketsLeast 49 = .ok (.invokestatic 139, 3) := by decide +kernel
theorem dX3_bracketsLeast_52 : decode cX3_bracketsLeast 52 = .ok (.ireturn, 1) := by decide +kernel
