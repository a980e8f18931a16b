theorem d_M_init_0 : decode b_M_init 0 = .ok (.aload_n 0, 1) := by decide +kernel
theorem d_M_init_1 : decode b_M_init 1 = .ok (.invokespecial 1, 3) := by decide +kernel
theorem d_M_init_4 : decode b_M_init 4 = .ok (.aload_n 0, 1) := by decide +kernel
theorem d_M_init_5 : decode b_M_init 5 = .ok (.sipush 256, 3) := by decide +kernel
theorem d_M_init_8 : decode b_M_init 8 = .ok (.newarray .long, 2) := by decide +kernel
theorem d_M_init_10 : decode b_M_init 10 = .ok (.putfield 9, 3) := by decide +kernel
theorem d_M_init_13 : decode b_M_init 13 = .ok (.aload_n 0, 1) := by decide +kernel
theorem d_M_init_14 : decode b_M_init 14 = .ok (.sipush 256, 3) := by decide +kernel
theorem d_M_init_17 : decode b_M_init 17 = .ok (.newarray .long, 2) := by decide +kernel
theorem d_M_init_19 : decode b_M_init 19 = .ok (.putfield 13, 3) := by decide +kernel
theorem d_M_init_22 : decode b_M_init 22 = .ok (.aload_n 0, 1) := by decide +kernel
theorem d_M_init_23 : decode b_M_init 23 = .ok (.sipush 256, 3) := by decide +kernel
theorem d_M_init_26 : decode b_M_init 26 = .ok (.newarray .boolean, 2) := by decide +kernel
theorem d_M_init_28 : decode b_M_init 28 = .ok (.putfield 16, 3) := by decide +kernel
theorem d_M_init_31 : decode b_M_init 31 = .ok (.aload_n 0, 1) := by decide +kernel
theorem d_M_init_32 : decode b_M_init 32 = .ok (.sipush 256, 3) := by decide +kernel
theorem d_M_init_35 : decode b_M_init 35 = .ok (.newarray .int, 2) := by decide +kernel
theorem d_M_init_37 : decode b_M_init 37 = .ok (.putfield 20, 3) := by decide +kernel
theorem d_M_init_40 : decode b_M_init 40 = .ok (.aload_n 0, 1) := by decide +kernel
theorem d_M_init_41 : decode b_M_init 41 = .ok (.bipush 6, 2) := by decide +kernel
theorem d_M_init_43 : decode b_M_init 43 = .ok (.newarray .long, 2) := by decide +kernel
theorem d_M_init_45 : decode b_M_init 45 = .ok (.putfield 24, 3) := by decide +kernel
theorem d_M_init_48 : decode b_M_init 48 = .ok (.aload_n 0, 1) := by decide +kernel
theorem d_M_init_49 : decode b_M_init 49 = .ok (.bipush 6, 2) := by decide +kernel
theorem d_M_init_51 : decode b_M_init 51 = .ok (.newarray .long, 2) := by decide +kernel
theorem d_M_init_53 : decode b_M_init 53 = .ok (.putfield 27, 3) := by decide +kernel
theorem d_M_init_56 : decode b_M_init 56 = .ok (.aload_n 0, 1) := by decide +kernel
theorem d_M_init_57 : decode b_M_init 57 = .ok (.iload_n 1, 1) := by decide +kernel
theorem d_M_init_58 : decode b_M_init 58 = .ok (.iconst 1, 1) := by decide +kernel
theorem d_M_init_59 : decode b_M_init 59 = .ok (.if_icmp .ge 7, 3) := by decide +kernel
theorem d_M_init_62 : decode b_M_init 62 = .ok (.iconst 1, 1) := by decide +kernel
theorem d_M_init_63 : decode b_M_init 63 = .ok (.goto 15, 3) := by decide +kernel
theorem d_M_init_66 : decode b_M_init 66 = .ok (.iload_n 1, 1) := by decide +kernel
theorem d_M_init_67 : decode b_M_init 67 = .ok (.bipush 64, 2) := by decide +kernel
theorem d_M_init_69 : decode b_M_init 69 = .ok (.if_icmp .le 8, 3) := by decide +kernel
theorem d_M_init_72 : decode b_M_init 72 = .ok (.bipush 64, 2) := by decide +kernel
theorem d_M_init_74 : decode b_M_init 74 = .ok (.goto 4, 3) := by decide +kernel
theorem d_M_init_77 : decode b_M_init 77 = .ok (.iload_n 1, 1) := by decide +kernel
theorem d_M_init_78 : decode b_M_init 78 = .ok (.putfield 30, 3) := by decide +kernel
theorem d_M_init_81 : decode b_M_init 81 = .ok (.return_, 1) := by decide +kernel
theorem d_M_point_0 : decode b_M_point 0 = .ok (.iload_n 1, 1) := by decide +kernel
theorem d_M_point_1 : decode b_M_point 1 = .ok (.invokestatic 92, 3) := by decide +kernel
theorem d_M_point_4 : decode b_M_point 4 = .ok (.ifCond .ne 10, 3) := by decide +kernel
theorem d_M_point_7 : decode b_M_point 7 = .ok (.iload_n 2, 1) := by decide +kernel
theorem d_M_point_8 : decode b_M_point 8 = .ok (.invokestatic 92, 3) := by decide +kernel
theorem d_M_point_11 : decode b_M_point 11 = .ok (.ifCond .eq 5, 3) := by decide +kernel
theorem d_M_point_14 : decode b_M_point 14 = .ok (.iconst (-1), 1) := by decide +kernel
theorem d_M_point_15 : decode b_M_point 15 = .ok (.ireturn, 1) := by decide +kernel
theorem d_M_point_16 : decode b_M_point 16 = .ok (.aload_n 0, 1) := by decide +kernel
theorem d_M_point_17 : decode b_M_point 17 = .ok (.getfield 96, 3) := by decide +kernel
theorem d_M_point_20 : decode b_M_point 20 = .ok (.sipush 256, 3) := by decide +kernel
theorem d_M_point_23 : decode b_M_point 23 = .ok (.if_icmp .ne 6, 3) := by decide +kernel
theorem d_M_point_26 : decode b_M_point 26 = .ok (.bipush (-3), 2) := by decide +kernel
theorem d_M_point_28 : decode b_M_point 28 = .ok (.ireturn, 1) := by decide +kernel
theorem d_M_point_29 : decode b_M_point 29 = .ok (.aload_n 0, 1) := by decide +kernel
theorem d_M_point_30 : decode b_M_point 30 = .ok (.getfield 9, 3) := by decide +kernel
theorem d_M_point_33 : decode b_M_point 33 = .ok (.aload_n 0, 1) := by decide +kernel
theorem d_M_point_34 : decode b_M_point 34 = .ok (.getfield 96, 3) := by decide +kernel
theorem d_M_point_37 : decode b_M_point 37 = .ok (.ldc2_w 76, 3) := by decide +kernel
theorem d_M_point_40 : decode b_M_point 40 = .ok (.iload_n 1, 1) := by decide +kernel
theorem d_M_point_41 : decode b_M_point 41 = .ok (.i2l, 1) := by decide +kernel
theorem d_M_point_42 : decode b_M_point 42 = .ok (.lmul, 1) := by decide +kernel
theorem d_M_point_43 : decode b_M_point 43 = .ok (.lastore, 1) := by decide +kernel
theorem d_M_point_44 : decode b_M_point 44 = .ok (.aload_n 0, 1) := by decide +kernel
theorem d_M_point_45 : decode b_M_point 45 = .ok (.getfield 13, 3) := by decide +kernel
theorem d_M_point_48 : decode b_M_point 48 = .ok (.aload_n 0, 1) := by decide +kernel
theorem d_M_point_49 : decode b_M_point 49 = .ok (.getfield 96, 3) := by decide +kernel
theorem d_M_point_52 : decode b_M_point 52 = .ok (.ldc2_w 76, 3) := by decide +kernel
theorem d_M_point_55 : decode b_M_point 55 = .ok (.iload_n 2, 1) := by decide +kernel
theorem d_M_point_56 : decode b_M_point 56 = .ok (.i2l, 1) := by decide +kernel
theorem d_M_point_57 : decode b_M_point 57 = .ok (.lmul, 1) := by decide +kernel
theorem d_M_point_58 : decode b_M_point 58 = .ok (.lastore, 1) := by decide +kernel
theorem d_M_point_59 : decode b_M_point 59 = .ok (.aload_n 0, 1) := by decide +kernel
theorem d_M_point_60 : decode b_M_point 60 = .ok (.getfield 16, 3) := by decide +kernel
theorem d_M_point_63 : decode b_M_point 63 = .ok (.aload_n 0, 1) := by decide +kernel
theorem d_M_point_64 : decode b_M_point 64 = .ok (.getfield 96, 3) := by decide +kernel
theorem d_M_point_67 : decode b_M_point 67 = .ok (.iload_n 3, 1) := by decide +kernel
theorem d_M_point_68 : decode b_M_point 68 = .ok (.bastore, 1) := by decide +kernel
theorem d_M_point_69 : decode b_M_point 69 = .ok (.aload_n 0, 1) := by decide +kernel
theorem d_M_point_70 : decode b_M_point 70 = .ok (.dup, 1) := by decide +kernel
theorem d_M_point_71 : decode b_M_point 71 = .ok (.getfield 96, 3) := by decide +kernel
theorem d_M_point_74 : decode b_M_point 74 = .ok (.iconst 1, 1) := by decide +kernel
theorem d_M_point_75 : decode b_M_point 75 = .ok (.iadd, 1) := by decide +kernel
theorem d_M_point_76 : decode b_M_point 76 = .ok (.putfield 96, 3) := by decide +kernel
theorem d_M_point_79 : decode b_M_point 79 = .ok (.aload_n 0, 1) := by decide +kernel
theorem d_M_point_80 : decode b_M_point 80 = .ok (.getfield 96, 3) := by decide +kernel
theorem d_M_point_83 : decode b_M_point 83 = .ok (.aload_n 0, 1) := by decide +kernel
theorem d_M_point_84 : decode b_M_point 84 = .ok (.invokevirtual 99, 3) := by decide +kernel
theorem d_M_point_87 : decode b_M_point 87 = .ok (.isub, 1) := by decide +kernel
theorem d_M_point_88 : decode b_M_point 88 = .ok (.ireturn, 1) := by decide +kernel
theorem d_M_far_0 : decode b_M_far 0 = .ok (.iload_n 0, 1) := by decide +kernel
theorem d_M_far_1 : decode b_M_far 1 = .ok (.sipush (-20000), 3) := by decide +kernel
theorem d_M_far_4 : decode b_M_far 4 = .ok (.if_icmp .lt 10, 3) := by decide +kernel
theorem d_M_far_7 : decode b_M_far 7 = .ok (.iload_n 0, 1) := by decide +kernel
theorem d_M_far_8 : decode b_M_far 8 = .ok (.sipush 20000, 3) := by decide +kernel
theorem d_M_far_11 : decode b_M_far 11 = .ok (.if_icmp .le 7, 3) := by decide +kernel
theorem d_M_far_14 : decode b_M_far 14 = .ok (.iconst 1, 1) := by decide +kernel
theorem d_M_far_15 : decode b_M_far 15 = .ok (.goto 4, 3) := by decide +kernel
theorem d_M_far_18 : decode b_M_far 18 = .ok (.iconst 0, 1) := by decide +kernel
theorem d_M_far_19 : decode b_M_far 19 = .ok (.ireturn, 1) := by decide +kernel
theorem d_M_begun_0 : decode b_M_begun 0 = .ok (.aload_n 0, 1) := by decide +kernel
theorem d_M_begun_1 : decode b_M_begun 1 = .ok (.getfield 89, 3) := by decide +kernel
theorem d_M_begun_4 : decode b_M_begun 4 = .ok (.ifCond .ne 7, 3) := by decide +kernel
theorem d_M_begun_7 : decode b_M_begun 7 = .ok (.iconst 0, 1) := by decide +kernel
theorem d_M_begun_8 : decode b_M_begun 8 = .ok (.goto 14, 3) := by decide +kernel
theorem d_M_begun_11 : decode b_M_begun 11 = .ok (.aload_n 0, 1) := by decide +kernel
theorem d_M_begun_12 : decode b_M_begun 12 = .ok (.getfield 20, 3) := by decide +kernel
theorem d_M_begun_15 : decode b_M_begun 15 = .ok (.aload_n 0, 1) := by decide +kernel
theorem d_M_begun_16 : decode b_M_begun 16 = .ok (.getfield 89, 3) := by decide +kernel
theorem d_M_begun_19 : decode b_M_begun 19 = .ok (.iconst 1, 1) := by decide +kernel
theorem d_M_begun_20 : decode b_M_begun 20 = .ok (.isub, 1) := by decide +kernel
theorem d_M_begun_21 : decode b_M_begun 21 = .ok (.iaload, 1) := by decide +kernel
theorem d_M_begun_22 : decode b_M_begun 22 = .ok (.ireturn, 1) := by decide +kernel
theorem d_M_close_0 : decode b_M_close 0 = .ok (.aload_n 0, 1) := by decide +kernel
theorem d_M_close_1 : decode b_M_close 1 = .ok (.getfield 96, 3) := by decide +kernel
theorem d_M_close_4 : decode b_M_close 4 = .ok (.aload_n 0, 1) := by decide +kernel
theorem d_M_close_5 : decode b_M_close 5 = .ok (.invokevirtual 99, 3) := by decide +kernel
theorem d_M_close_8 : decode b_M_close 8 = .ok (.if_icmp .ne 6, 3) := by decide +kernel
theorem d_M_close_11 : decode b_M_close 11 = .ok (.bipush (-2), 2) := by decide +kernel
theorem d_M_close_13 : decode b_M_close 13 = .ok (.ireturn, 1) := by decide +kernel
theorem d_M_close_14 : decode b_M_close 14 = .ok (.aload_n 0, 1) := by decide +kernel
theorem d_M_close_15 : decode b_M_close 15 = .ok (.getfield 20, 3) := by decide +kernel
theorem d_M_close_18 : decode b_M_close 18 = .ok (.aload_n 0, 1) := by decide +kernel
theorem d_M_close_19 : decode b_M_close 19 = .ok (.getfield 89, 3) := by decide +kernel
theorem d_M_close_22 : decode b_M_close 22 = .ok (.aload_n 0, 1) := by decide +kernel
theorem d_M_close_23 : decode b_M_close 23 = .ok (.getfield 96, 3) := by decide +kernel
theorem d_M_close_26 : decode b_M_close 26 = .ok (.iastore, 1) := by decide +kernel
theorem d_M_close_27 : decode b_M_close 27 = .ok (.aload_n 0, 1) := by decide +kernel
theorem d_M_close_28 : decode b_M_close 28 = .ok (.dup, 1) := by decide +kernel
theorem d_M_close_29 : decode b_M_close 29 = .ok (.getfield 89, 3) := by decide +kernel
theorem d_M_close_32 : decode b_M_close 32 = .ok (.iconst 1, 1) := by decide +kernel
theorem d_M_close_33 : decode b_M_close 33 = .ok (.iadd, 1) := by decide +kernel
theorem d_M_close_34 : decode b_M_close 34 = .ok (.putfield 89, 3) := by decide +kernel
theorem d_M_close_37 : decode b_M_close 37 = .ok (.aload_n 0, 1) := by decide +kernel
theorem d_M_close_38 : decode b_M_close 38 = .ok (.getfield 89, 3) := by decide +kernel
theorem d_M_close_41 : decode b_M_close 41 = .ok (.ireturn, 1) := by decide +kernel
theorem d_M_clear_0 : decode b_M_clear 0 = .ok (.aload_n 0, 1) := by decide +kernel
theorem d_M_clear_1 : decode b_M_clear 1 = .ok (.getfield 89, 3) := by decide +kernel
theorem d_M_clear_4 : decode b_M_clear 4 = .ok (.istore_n 1, 1) := by decide +kernel
theorem d_M_clear_5 : decode b_M_clear 5 = .ok (.aload_n 0, 1) := by decide +kernel
theorem d_M_clear_6 : decode b_M_clear 6 = .ok (.iconst 0, 1) := by decide +kernel
theorem d_M_clear_7 : decode b_M_clear 7 = .ok (.putfield 89, 3) := by decide +kernel
theorem d_M_clear_10 : decode b_M_clear 10 = .ok (.aload_n 0, 1) := by decide +kernel
theorem d_M_clear_11 : decode b_M_clear 11 = .ok (.iconst 0, 1) := by decide +kernel
theorem d_M_clear_12 : decode b_M_clear 12 = .ok (.putfield 96, 3) := by decide +kernel
theorem d_M_clear_15 : decode b_M_clear 15 = .ok (.iload_n 1, 1) := by decide +kernel
theorem d_M_clear_16 : decode b_M_clear 16 = .ok (.ireturn, 1) := by decide +kernel
theorem d_M_winding_0 : decode b_M_winding 0 = .ok (.iload_n 1, 1) := by decide +kernel
theorem d_M_winding_1 : decode b_M_winding 1 = .ok (.invokestatic 92, 3) := by decide +kernel
theorem d_M_winding_4 : decode b_M_winding 4 = .ok (.ifCond .ne 10, 3) := by decide +kernel
theorem d_M_winding_7 : decode b_M_winding 7 = .ok (.iload_n 2, 1) := by decide +kernel
theorem d_M_winding_8 : decode b_M_winding 8 = .ok (.invokestatic 92, 3) := by decide +kernel
theorem d_M_winding_11 : decode b_M_winding 11 = .ok (.ifCond .eq 7, 3) := by decide +kernel
theorem d_M_winding_14 : decode b_M_winding 14 = .ok (.sipush 2000, 3) := by decide +kernel
theorem d_M_winding_17 : decode b_M_winding 17 = .ok (.ireturn, 1) := by decide +kernel
theorem d_M_winding_18 : decode b_M_winding 18 = .ok (.aload_n 0, 1) := by decide +kernel
theorem d_M_winding_19 : decode b_M_winding 19 = .ok (.ldc2_w 76, 3) := by decide +kernel
theorem d_M_winding_22 : decode b_M_winding 22 = .ok (.iload_n 1, 1) := by decide +kernel
theorem d_M_winding_23 : decode b_M_winding 23 = .ok (.i2l, 1) := by decide +kernel
theorem d_M_winding_24 : decode b_M_winding 24 = .ok (.lmul, 1) := by decide +kernel
theorem d_M_winding_25 : decode b_M_winding 25 = .ok (.ldc2_w 76, 3) := by decide +kernel
theorem d_M_winding_28 : decode b_M_winding 28 = .ok (.iload_n 2, 1) := by decide +kernel
theorem d_M_winding_29 : decode b_M_winding 29 = .ok (.i2l, 1) := by decide +kernel
theorem d_M_winding_30 : decode b_M_winding 30 = .ok (.lmul, 1) := by decide +kernel
theorem d_M_winding_31 : decode b_M_winding 31 = .ok (.invokevirtual 107, 3) := by decide +kernel
theorem d_M_winding_34 : decode b_M_winding 34 = .ok (.aload_n 0, 1) := by decide +kernel
theorem d_M_winding_35 : decode b_M_winding 35 = .ok (.getfield 52, 3) := by decide +kernel
theorem d_M_winding_38 : decode b_M_winding 38 = .ok (.ifCond .eq 9, 3) := by decide +kernel
theorem d_M_winding_41 : decode b_M_winding 41 = .ok (.sipush 1000, 3) := by decide +kernel
theorem d_M_winding_44 : decode b_M_winding 44 = .ok (.goto 7, 3) := by decide +kernel
theorem d_M_winding_47 : decode b_M_winding 47 = .ok (.aload_n 0, 1) := by decide +kernel
theorem d_M_winding_48 : decode b_M_winding 48 = .ok (.getfield 56, 3) := by decide +kernel
theorem d_M_winding_51 : decode b_M_winding 51 = .ok (.ireturn, 1) := by decide +kernel
theorem d_M_go_0 : decode b_M_go 0 = .ok (.aload_n 0, 1) := by decide +kernel
theorem d_M_go_1 : decode b_M_go 1 = .ok (.iconst 0, 1) := by decide +kernel
theorem d_M_go_2 : decode b_M_go 2 = .ok (.putfield 52, 3) := by decide +kernel
theorem d_M_go_5 : decode b_M_go 5 = .ok (.aload_n 0, 1) := by decide +kernel
theorem d_M_go_6 : decode b_M_go 6 = .ok (.iconst 0, 1) := by decide +kernel
theorem d_M_go_7 : decode b_M_go 7 = .ok (.putfield 56, 3) := by decide +kernel
theorem d_M_go_10 : decode b_M_go 10 = .ok (.iconst 0, 1) := by decide +kernel
theorem d_M_go_11 : decode b_M_go 11 = .ok (.istore 5, 2) := by decide +kernel
theorem d_M_go_13 : decode b_M_go 13 = .ok (.iconst 0, 1) := by decide +kernel
theorem d_M_go_14 : decode b_M_go 14 = .ok (.istore 6, 2) := by decide +kernel
theorem d_M_go_16 : decode b_M_go 16 = .ok (.iload 6, 2) := by decide +kernel
theorem d_M_go_18 : decode b_M_go 18 = .ok (.aload_n 0, 1) := by decide +kernel
theorem d_M_go_19 : decode b_M_go 19 = .ok (.getfield 89, 3) := by decide +kernel
theorem d_M_go_22 : decode b_M_go 22 = .ok (.if_icmp .ge 34, 3) := by decide +kernel
theorem d_M_go_25 : decode b_M_go 25 = .ok (.aload_n 0, 1) := by decide +kernel
theorem d_M_go_26 : decode b_M_go 26 = .ok (.iconst 0, 1) := by decide +kernel
theorem d_M_go_27 : decode b_M_go 27 = .ok (.iload 5, 2) := by decide +kernel
theorem d_M_go_29 : decode b_M_go 29 = .ok (.aload_n 0, 1) := by decide +kernel
theorem d_M_go_30 : decode b_M_go 30 = .ok (.getfield 20, 3) := by decide +kernel
theorem d_M_go_33 : decode b_M_go 33 = .ok (.iload 6, 2) := by decide +kernel
theorem d_M_go_35 : decode b_M_go 35 = .ok (.iaload, 1) := by decide +kernel
theorem d_M_go_36 : decode b_M_go 36 = .ok (.lload_n 1, 1) := by decide +kernel
theorem d_M_go_37 : decode b_M_go 37 = .ok (.lload_n 3, 1) := by decide +kernel
theorem d_M_go_38 : decode b_M_go 38 = .ok (.invokevirtual 103, 3) := by decide +kernel
theorem d_M_go_41 : decode b_M_go 41 = .ok (.aload_n 0, 1) := by decide +kernel
theorem d_M_go_42 : decode b_M_go 42 = .ok (.getfield 20, 3) := by decide +kernel
theorem d_M_go_45 : decode b_M_go 45 = .ok (.iload 6, 2) := by decide +kernel
theorem d_M_go_47 : decode b_M_go 47 = .ok (.iaload, 1) := by decide +kernel
theorem d_M_go_48 : decode b_M_go 48 = .ok (.istore 5, 2) := by decide +kernel
theorem d_M_go_50 : decode b_M_go 50 = .ok (.iinc 6 1, 3) := by decide +kernel
theorem d_M_go_53 : decode b_M_go 53 = .ok (.goto (-37), 3) := by decide +kernel
theorem d_M_go_56 : decode b_M_go 56 = .ok (.return_, 1) := by decide +kernel
theorem d_M_line_0 : decode b_M_line 0 = .ok (.lload_n 1, 1) := by decide +kernel
theorem d_M_line_1 : decode b_M_line 1 = .ok (.lload 7, 2) := by decide +kernel
theorem d_M_line_3 : decode b_M_line 3 = .ok (.lmul, 1) := by decide +kernel
theorem d_M_line_4 : decode b_M_line 4 = .ok (.lload 5, 2) := by decide +kernel
theorem d_M_line_6 : decode b_M_line 6 = .ok (.lload_n 3, 1) := by decide +kernel
theorem d_M_line_7 : decode b_M_line 7 = .ok (.lmul, 1) := by decide +kernel
theorem d_M_line_8 : decode b_M_line 8 = .ok (.lsub, 1) := by decide +kernel
theorem d_M_line_9 : decode b_M_line 9 = .ok (.lstore 9, 2) := by decide +kernel
theorem d_M_line_11 : decode b_M_line 11 = .ok (.lload 9, 2) := by decide +kernel
theorem d_M_line_13 : decode b_M_line 13 = .ok (.lconst 0, 1) := by decide +kernel
theorem d_M_line_14 : decode b_M_line 14 = .ok (.lcmp, 1) := by decide +kernel
theorem d_M_line_15 : decode b_M_line 15 = .ok (.ifCond .ne 22, 3) := by decide +kernel
theorem d_M_line_18 : decode b_M_line 18 = .ok (.lload_n 1, 1) := by decide +kernel
theorem d_M_line_19 : decode b_M_line 19 = .ok (.lload 5, 2) := by decide +kernel
theorem d_M_line_21 : decode b_M_line 21 = .ok (.lmul, 1) := by decide +kernel
theorem d_M_line_22 : decode b_M_line 22 = .ok (.lload_n 3, 1) := by decide +kernel
theorem d_M_line_23 : decode b_M_line 23 = .ok (.lload 7, 2) := by decide +kernel
theorem d_M_line_25 : decode b_M_line 25 = .ok (.lmul, 1) := by decide +kernel
theorem d_M_line_26 : decode b_M_line 26 = .ok (.ladd, 1) := by decide +kernel
theorem d_M_line_27 : decode b_M_line 27 = .ok (.lconst 0, 1) := by decide +kernel
theorem d_M_line_28 : decode b_M_line 28 = .ok (.lcmp, 1) := by decide +kernel
theorem d_M_line_29 : decode b_M_line 29 = .ok (.ifCond .gt 8, 3) := by decide +kernel
theorem d_M_line_32 : decode b_M_line 32 = .ok (.aload_n 0, 1) := by decide +kernel
theorem d_M_line_33 : decode b_M_line 33 = .ok (.iconst 1, 1) := by decide +kernel
theorem d_M_line_34 : decode b_M_line 34 = .ok (.putfield 52, 3) := by decide +kernel
theorem d_M_line_37 : decode b_M_line 37 = .ok (.lload_n 3, 1) := by decide +kernel
theorem d_M_line_38 : decode b_M_line 38 = .ok (.lconst 0, 1) := by decide +kernel
theorem d_M_line_39 : decode b_M_line 39 = .ok (.lcmp, 1) := by decide +kernel
theorem d_M_line_40 : decode b_M_line 40 = .ok (.ifCond .lt 7, 3) := by decide +kernel
theorem d_M_line_43 : decode b_M_line 43 = .ok (.iconst 1, 1) := by decide +kernel
theorem d_M_line_44 : decode b_M_line 44 = .ok (.goto 4, 3) := by decide +kernel
theorem d_M_line_47 : decode b_M_line 47 = .ok (.iconst 0, 1) := by decide +kernel
theorem d_M_line_48 : decode b_M_line 48 = .ok (.lload 7, 2) := by decide +kernel
theorem d_M_line_50 : decode b_M_line 50 = .ok (.lconst 0, 1) := by decide +kernel
theorem d_M_line_51 : decode b_M_line 51 = .ok (.lcmp, 1) := by decide +kernel
theorem d_M_line_52 : decode b_M_line 52 = .ok (.ifCond .lt 7, 3) := by decide +kernel
theorem d_M_line_55 : decode b_M_line 55 = .ok (.iconst 1, 1) := by decide +kernel
theorem d_M_line_56 : decode b_M_line 56 = .ok (.goto 4, 3) := by decide +kernel
theorem d_M_line_59 : decode b_M_line 59 = .ok (.iconst 0, 1) := by decide +kernel
theorem d_M_line_60 : decode b_M_line 60 = .ok (.if_icmp .eq 43, 3) := by decide +kernel
theorem d_M_line_63 : decode b_M_line 63 = .ok (.aload_n 0, 1) := by decide +kernel
theorem d_M_line_64 : decode b_M_line 64 = .ok (.lload_n 3, 1) := by decide +kernel
theorem d_M_line_65 : decode b_M_line 65 = .ok (.lconst 0, 1) := by decide +kernel
theorem d_M_line_66 : decode b_M_line 66 = .ok (.lcmp, 1) := by decide +kernel
theorem d_M_line_67 : decode b_M_line 67 = .ok (.ifCond .lt 7, 3) := by decide +kernel
theorem d_M_line_70 : decode b_M_line 70 = .ok (.iconst 1, 1) := by decide +kernel
theorem d_M_line_71 : decode b_M_line 71 = .ok (.goto 4, 3) := by decide +kernel
theorem d_M_line_74 : decode b_M_line 74 = .ok (.iconst 0, 1) := by decide +kernel
theorem d_M_line_75 : decode b_M_line 75 = .ok (.lload 7, 2) := by decide +kernel
theorem d_M_line_77 : decode b_M_line 77 = .ok (.lconst 0, 1) := by decide +kernel
theorem d_M_line_78 : decode b_M_line 78 = .ok (.lcmp, 1) := by decide +kernel
theorem d_M_line_79 : decode b_M_line 79 = .ok (.ifCond .lt 7, 3) := by decide +kernel
theorem d_M_line_82 : decode b_M_line 82 = .ok (.iconst 1, 1) := by decide +kernel
theorem d_M_line_83 : decode b_M_line 83 = .ok (.goto 4, 3) := by decide +kernel
theorem d_M_line_86 : decode b_M_line 86 = .ok (.iconst 0, 1) := by decide +kernel
theorem d_M_line_87 : decode b_M_line 87 = .ok (.lload 9, 2) := by decide +kernel
theorem d_M_line_89 : decode b_M_line 89 = .ok (.invokestatic 44, 3) := by decide +kernel
theorem d_M_line_92 : decode b_M_line 92 = .ok (.lload 7, 2) := by decide +kernel
theorem d_M_line_94 : decode b_M_line 94 = .ok (.lload_n 3, 1) := by decide +kernel
theorem d_M_line_95 : decode b_M_line 95 = .ok (.lsub, 1) := by decide +kernel
theorem d_M_line_96 : decode b_M_line 96 = .ok (.invokestatic 44, 3) := by decide +kernel
theorem d_M_line_99 : decode b_M_line 99 = .ok (.imul, 1) := by decide +kernel
theorem d_M_line_100 : decode b_M_line 100 = .ok (.invokevirtual 59, 3) := by decide +kernel
theorem d_M_line_103 : decode b_M_line 103 = .ok (.return_, 1) := by decide +kernel
theorem d_M_sign_0 : decode b_M_sign 0 = .ok (.lload_n 0, 1) := by decide +kernel
theorem d_M_sign_1 : decode b_M_sign 1 = .ok (.lconst 0, 1) := by decide +kernel
theorem d_M_sign_2 : decode b_M_sign 2 = .ok (.lcmp, 1) := by decide +kernel
theorem d_M_sign_3 : decode b_M_sign 3 = .ok (.ifCond .ge 7, 3) := by decide +kernel
theorem d_M_sign_6 : decode b_M_sign 6 = .ok (.iconst (-1), 1) := by decide +kernel
theorem d_M_sign_7 : decode b_M_sign 7 = .ok (.goto 14, 3) := by decide +kernel
theorem d_M_sign_10 : decode b_M_sign 10 = .ok (.lload_n 0, 1) := by decide +kernel
theorem d_M_sign_11 : decode b_M_sign 11 = .ok (.lconst 0, 1) := by decide +kernel
theorem d_M_sign_12 : decode b_M_sign 12 = .ok (.lcmp, 1) := by decide +kernel
theorem d_M_sign_13 : decode b_M_sign 13 = .ok (.ifCond .le 7, 3) := by decide +kernel
theorem d_M_sign_16 : decode b_M_sign 16 = .ok (.iconst 1, 1) := by decide +kernel
theorem d_M_sign_17 : decode b_M_sign 17 = .ok (.goto 4, 3) := by decide +kernel
theorem d_M_sign_20 : decode b_M_sign 20 = .ok (.iconst 0, 1) := by decide +kernel
theorem d_M_sign_21 : decode b_M_sign 21 = .ok (.ireturn, 1) := by decide +kernel
theorem d_M_cross_0 : decode b_M_cross 0 = .ok (.iload_n 3, 1) := by decide +kernel
theorem d_M_cross_1 : decode b_M_cross 1 = .ok (.ifCond .ne 8, 3) := by decide +kernel
theorem d_M_cross_4 : decode b_M_cross 4 = .ok (.aload_n 0, 1) := by decide +kernel
theorem d_M_cross_5 : decode b_M_cross 5 = .ok (.iconst 1, 1) := by decide +kernel
theorem d_M_cross_6 : decode b_M_cross 6 = .ok (.putfield 52, 3) := by decide +kernel
theorem d_M_cross_9 : decode b_M_cross 9 = .ok (.iload_n 3, 1) := by decide +kernel
theorem d_M_cross_10 : decode b_M_cross 10 = .ok (.ifCond .le 37, 3) := by decide +kernel
theorem d_M_cross_13 : decode b_M_cross 13 = .ok (.aload_n 0, 1) := by decide +kernel
theorem d_M_cross_14 : decode b_M_cross 14 = .ok (.dup, 1) := by decide +kernel
theorem d_M_cross_15 : decode b_M_cross 15 = .ok (.getfield 56, 3) := by decide +kernel
theorem d_M_cross_18 : decode b_M_cross 18 = .ok (.iload_n 2, 1) := by decide +kernel
theorem d_M_cross_19 : decode b_M_cross 19 = .ok (.ifCond .eq 11, 3) := by decide +kernel
theorem d_M_cross_22 : decode b_M_cross 22 = .ok (.iload_n 1, 1) := by decide +kernel
theorem d_M_cross_23 : decode b_M_cross 23 = .ok (.ifCond .ne 7, 3) := by decide +kernel
theorem d_M_cross_26 : decode b_M_cross 26 = .ok (.iconst 1, 1) := by decide +kernel
theorem d_M_cross_27 : decode b_M_cross 27 = .ok (.goto 16, 3) := by decide +kernel
theorem d_M_cross_30 : decode b_M_cross 30 = .ok (.iload_n 1, 1) := by decide +kernel
theorem d_M_cross_31 : decode b_M_cross 31 = .ok (.ifCond .eq 11, 3) := by decide +kernel
theorem d_M_cross_34 : decode b_M_cross 34 = .ok (.iload_n 2, 1) := by decide +kernel
theorem d_M_cross_35 : decode b_M_cross 35 = .ok (.ifCond .ne 7, 3) := by decide +kernel
theorem d_M_cross_38 : decode b_M_cross 38 = .ok (.iconst (-1), 1) := by decide +kernel
theorem d_M_cross_39 : decode b_M_cross 39 = .ok (.goto 4, 3) := by decide +kernel
theorem d_M_cross_42 : decode b_M_cross 42 = .ok (.iconst 0, 1) := by decide +kernel
theorem d_M_cross_43 : decode b_M_cross 43 = .ok (.iadd, 1) := by decide +kernel
theorem d_M_cross_44 : decode b_M_cross 44 = .ok (.putfield 56, 3) := by decide +kernel
theorem d_M_cross_47 : decode b_M_cross 47 = .ok (.return_, 1) := by decide +kernel
theorem d_M_zero_0 : decode b_M_zero 0 = .ok (.lload_n 0, 1) := by decide +kernel
theorem d_M_zero_1 : decode b_M_zero 1 = .ok (.lconst 0, 1) := by decide +kernel
theorem d_M_zero_2 : decode b_M_zero 2 = .ok (.lcmp, 1) := by decide +kernel
theorem d_M_zero_3 : decode b_M_zero 3 = .ok (.ifCond .eq 36, 3) := by decide +kernel
theorem d_M_zero_6 : decode b_M_zero 6 = .ok (.lload 4, 2) := by decide +kernel
theorem d_M_zero_8 : decode b_M_zero 8 = .ok (.lconst 0, 1) := by decide +kernel
theorem d_M_zero_9 : decode b_M_zero 9 = .ok (.lcmp, 1) := by decide +kernel
theorem d_M_zero_10 : decode b_M_zero 10 = .ok (.ifCond .eq 29, 3) := by decide +kernel
theorem d_M_zero_13 : decode b_M_zero 13 = .ok (.lload_n 0, 1) := by decide +kernel
theorem d_M_zero_14 : decode b_M_zero 14 = .ok (.lconst 0, 1) := by decide +kernel
theorem d_M_zero_15 : decode b_M_zero 15 = .ok (.lcmp, 1) := by decide +kernel
theorem d_M_zero_16 : decode b_M_zero 16 = .ok (.ifCond .le 7, 3) := by decide +kernel
theorem d_M_zero_19 : decode b_M_zero 19 = .ok (.iconst 1, 1) := by decide +kernel
theorem d_M_zero_20 : decode b_M_zero 20 = .ok (.goto 4, 3) := by decide +kernel
theorem d_M_zero_23 : decode b_M_zero 23 = .ok (.iconst 0, 1) := by decide +kernel
theorem d_M_zero_24 : decode b_M_zero 24 = .ok (.lload 4, 2) := by decide +kernel
theorem d_M_zero_26 : decode b_M_zero 26 = .ok (.lconst 0, 1) := by decide +kernel
theorem d_M_zero_27 : decode b_M_zero 27 = .ok (.lcmp, 1) := by decide +kernel
theorem d_M_zero_28 : decode b_M_zero 28 = .ok (.ifCond .le 7, 3) := by decide +kernel
theorem d_M_zero_31 : decode b_M_zero 31 = .ok (.iconst 1, 1) := by decide +kernel
theorem d_M_zero_32 : decode b_M_zero 32 = .ok (.goto 4, 3) := by decide +kernel
theorem d_M_zero_35 : decode b_M_zero 35 = .ok (.iconst 0, 1) := by decide +kernel
theorem d_M_zero_36 : decode b_M_zero 36 = .ok (.if_icmp .eq 5, 3) := by decide +kernel
theorem d_M_zero_39 : decode b_M_zero 39 = .ok (.iconst 1, 1) := by decide +kernel
theorem d_M_zero_40 : decode b_M_zero 40 = .ok (.ireturn, 1) := by decide +kernel
theorem d_M_zero_41 : decode b_M_zero 41 = .ok (.lload_n 0, 1) := by decide +kernel
theorem d_M_zero_42 : decode b_M_zero 42 = .ok (.lconst 0, 1) := by decide +kernel
theorem d_M_zero_43 : decode b_M_zero 43 = .ok (.lcmp, 1) := by decide +kernel
theorem d_M_zero_44 : decode b_M_zero 44 = .ok (.ifCond .le 12, 3) := by decide +kernel
theorem d_M_zero_47 : decode b_M_zero 47 = .ok (.lload_n 2, 1) := by decide +kernel
theorem d_M_zero_48 : decode b_M_zero 48 = .ok (.lconst 0, 1) := by decide +kernel
theorem d_M_zero_49 : decode b_M_zero 49 = .ok (.lcmp, 1) := by decide +kernel
theorem d_M_zero_50 : decode b_M_zero 50 = .ok (.ifCond .ge 27, 3) := by decide +kernel
theorem d_M_zero_53 : decode b_M_zero 53 = .ok (.goto 9, 3) := by decide +kernel
theorem d_M_zero_56 : decode b_M_zero 56 = .ok (.lload_n 2, 1) := by decide +kernel
theorem d_M_zero_57 : decode b_M_zero 57 = .ok (.lconst 0, 1) := by decide +kernel
theorem d_M_zero_58 : decode b_M_zero 58 = .ok (.lcmp, 1) := by decide +kernel
theorem d_M_zero_59 : decode b_M_zero 59 = .ok (.ifCond .le 18, 3) := by decide +kernel
theorem d_M_zero_62 : decode b_M_zero 62 = .ok (.lload_n 2, 1) := by decide +kernel
theorem d_M_zero_63 : decode b_M_zero 63 = .ok (.lload_n 2, 1) := by decide +kernel
theorem d_M_zero_64 : decode b_M_zero 64 = .ok (.lmul, 1) := by decide +kernel
theorem d_M_zero_65 : decode b_M_zero 65 = .ok (.lload_n 0, 1) := by decide +kernel
theorem d_M_zero_66 : decode b_M_zero 66 = .ok (.lload 4, 2) := by decide +kernel
theorem d_M_zero_68 : decode b_M_zero 68 = .ok (.lmul, 1) := by decide +kernel
theorem d_M_zero_69 : decode b_M_zero 69 = .ok (.lcmp, 1) := by decide +kernel
theorem d_M_zero_70 : decode b_M_zero 70 = .ok (.ifCond .lt 7, 3) := by decide +kernel
theorem d_M_zero_73 : decode b_M_zero 73 = .ok (.iconst 1, 1) := by decide +kernel
theorem d_M_zero_74 : decode b_M_zero 74 = .ok (.goto 4, 3) := by decide +kernel
theorem d_M_zero_77 : decode b_M_zero 77 = .ok (.iconst 0, 1) := by decide +kernel
theorem d_M_zero_78 : decode b_M_zero 78 = .ok (.ireturn, 1) := by decide +kernel
theorem d_M_through_0 : decode b_M_through 0 = .ok (.aload_n 0, 1) := by decide +kernel
theorem d_M_through_1 : decode b_M_through 1 = .ok (.getfield 24, 3) := by decide +kernel
theorem d_M_through_4 : decode b_M_through 4 = .ok (.lload_n 3, 1) := by decide +kernel
theorem d_M_through_5 : decode b_M_through 5 = .ok (.lload_n 3, 1) := by decide +kernel
theorem d_M_through_6 : decode b_M_through 6 = .ok (.lconst 1, 1) := by decide +kernel
theorem d_M_through_7 : decode b_M_through 7 = .ok (.invokestatic 34, 3) := by decide +kernel
theorem d_M_through_10 : decode b_M_through 10 = .ok (.aload_n 0, 1) := by decide +kernel
theorem d_M_through_11 : decode b_M_through 11 = .ok (.getfield 27, 3) := by decide +kernel
theorem d_M_through_14 : decode b_M_through 14 = .ok (.lload_n 1, 1) := by decide +kernel
theorem d_M_through_15 : decode b_M_through 15 = .ok (.lload 5, 2) := by decide +kernel
theorem d_M_through_17 : decode b_M_through 17 = .ok (.ldc2_w 74, 3) := by decide +kernel
theorem d_M_through_20 : decode b_M_through 20 = .ok (.invokestatic 34, 3) := by decide +kernel
theorem d_M_through_23 : decode b_M_through 23 = .ok (.iconst 0, 1) := by decide +kernel
theorem d_M_through_24 : decode b_M_through 24 = .ok (.istore 7, 2) := by decide +kernel
theorem d_M_through_26 : decode b_M_through 26 = .ok (.iload 7, 2) := by decide +kernel
theorem d_M_through_28 : decode b_M_through 28 = .ok (.bipush 6, 2) := by decide +kernel
theorem d_M_through_30 : decode b_M_through 30 = .ok (.if_icmp .ge 29, 3) := by decide +kernel
theorem d_M_through_33 : decode b_M_through 33 = .ok (.aload_n 0, 1) := by decide +kernel
theorem d_M_through_34 : decode b_M_through 34 = .ok (.getfield 24, 3) := by decide +kernel
theorem d_M_through_37 : decode b_M_through 37 = .ok (.iload 7, 2) := by decide +kernel
theorem d_M_through_39 : decode b_M_through 39 = .ok (.laload, 1) := by decide +kernel
theorem d_M_through_40 : decode b_M_through 40 = .ok (.aload_n 0, 1) := by decide +kernel
theorem d_M_through_41 : decode b_M_through 41 = .ok (.getfield 27, 3) := by decide +kernel
theorem d_M_through_44 : decode b_M_through 44 = .ok (.iload 7, 2) := by decide +kernel
theorem d_M_through_46 : decode b_M_through 46 = .ok (.laload, 1) := by decide +kernel
theorem d_M_through_47 : decode b_M_through 47 = .ok (.lcmp, 1) := by decide +kernel
theorem d_M_through_48 : decode b_M_through 48 = .ok (.ifCond .eq 5, 3) := by decide +kernel
theorem d_M_through_51 : decode b_M_through 51 = .ok (.iconst 0, 1) := by decide +kernel
theorem d_M_through_52 : decode b_M_through 52 = .ok (.ireturn, 1) := by decide +kernel
theorem d_M_through_53 : decode b_M_through 53 = .ok (.iinc 7 1, 3) := by decide +kernel
theorem d_M_through_56 : decode b_M_through 56 = .ok (.goto (-30), 3) := by decide +kernel
theorem d_M_through_59 : decode b_M_through 59 = .ok (.iconst 1, 1) := by decide +kernel
theorem d_M_through_60 : decode b_M_through 60 = .ok (.ireturn, 1) := by decide +kernel
theorem d_M_product_0 : decode b_M_product 0 = .ok (.iconst 0, 1) := by decide +kernel
theorem d_M_product_1 : decode b_M_product 1 = .ok (.istore 7, 2) := by decide +kernel
theorem d_M_product_3 : decode b_M_product 3 = .ok (.iload 7, 2) := by decide +kernel
theorem d_M_product_5 : decode b_M_product 5 = .ok (.bipush 6, 2) := by decide +kernel
theorem d_M_product_7 : decode b_M_product 7 = .ok (.if_icmp .ge 23, 3) := by decide +kernel
theorem d_M_product_10 : decode b_M_product 10 = .ok (.aload_n 0, 1) := by decide +kernel
theorem d_M_product_11 : decode b_M_product 11 = .ok (.iload 7, 2) := by decide +kernel
theorem d_M_product_13 : decode b_M_product 13 = .ok (.iload 7, 2) := by decide +kernel
theorem d_M_product_15 : decode b_M_product 15 = .ok (.ifCond .ne 7, 3) := by decide +kernel
theorem d_M_product_18 : decode b_M_product 18 = .ok (.lconst 1, 1) := by decide +kernel
theorem d_M_product_19 : decode b_M_product 19 = .ok (.goto 4, 3) := by decide +kernel
theorem d_M_product_22 : decode b_M_product 22 = .ok (.lconst 0, 1) := by decide +kernel
theorem d_M_product_23 : decode b_M_product 23 = .ok (.lastore, 1) := by decide +kernel
theorem d_M_product_24 : decode b_M_product 24 = .ok (.iinc 7 1, 3) := by decide +kernel
theorem d_M_product_27 : decode b_M_product 27 = .ok (.goto (-24), 3) := by decide +kernel
theorem d_M_product_30 : decode b_M_product 30 = .ok (.aload_n 0, 1) := by decide +kernel
theorem d_M_product_31 : decode b_M_product 31 = .ok (.lload_n 1, 1) := by decide +kernel
theorem d_M_product_32 : decode b_M_product 32 = .ok (.invokestatic 38, 3) := by decide +kernel
theorem d_M_product_35 : decode b_M_product 35 = .ok (.aload_n 0, 1) := by decide +kernel
theorem d_M_product_36 : decode b_M_product 36 = .ok (.lload_n 3, 1) := by decide +kernel
theorem d_M_product_37 : decode b_M_product 37 = .ok (.invokestatic 38, 3) := by decide +kernel
theorem d_M_product_40 : decode b_M_product 40 = .ok (.aload_n 0, 1) := by decide +kernel
theorem d_M_product_41 : decode b_M_product 41 = .ok (.lload 5, 2) := by decide +kernel
theorem d_M_product_43 : decode b_M_product 43 = .ok (.invokestatic 38, 3) := by decide +kernel
theorem d_M_product_46 : decode b_M_product 46 = .ok (.return_, 1) := by decide +kernel
theorem d_M_times_0 : decode b_M_times 0 = .ok (.lload_n 1, 1) := by decide +kernel
theorem d_M_times_1 : decode b_M_times 1 = .ok (.ldc2_w 42, 3) := by decide +kernel
theorem d_M_times_4 : decode b_M_times 4 = .ok (.land, 1) := by decide +kernel
theorem d_M_times_5 : decode b_M_times 5 = .ok (.lstore_n 3, 1) := by decide +kernel
theorem d_M_times_6 : decode b_M_times 6 = .ok (.lload_n 1, 1) := by decide +kernel
theorem d_M_times_7 : decode b_M_times 7 = .ok (.bipush 32, 2) := by decide +kernel
theorem d_M_times_9 : decode b_M_times 9 = .ok (.lushr, 1) := by decide +kernel
theorem d_M_times_10 : decode b_M_times 10 = .ok (.lstore 5, 2) := by decide +kernel
theorem d_M_times_12 : decode b_M_times 12 = .ok (.lconst 0, 1) := by decide +kernel
theorem d_M_times_13 : decode b_M_times 13 = .ok (.lstore 7, 2) := by decide +kernel
theorem d_M_times_15 : decode b_M_times 15 = .ok (.lconst 0, 1) := by decide +kernel
theorem d_M_times_16 : decode b_M_times 16 = .ok (.lstore 9, 2) := by decide +kernel
theorem d_M_times_18 : decode b_M_times 18 = .ok (.iconst 0, 1) := by decide +kernel
theorem d_M_times_19 : decode b_M_times 19 = .ok (.istore 11, 2) := by decide +kernel
theorem d_M_times_21 : decode b_M_times 21 = .ok (.iload 11, 2) := by decide +kernel
theorem d_M_times_23 : decode b_M_times 23 = .ok (.bipush 6, 2) := by decide +kernel
theorem d_M_times_25 : decode b_M_times 25 = .ok (.if_icmp .ge 91, 3) := by decide +kernel
theorem d_M_times_28 : decode b_M_times 28 = .ok (.aload_n 0, 1) := by decide +kernel
theorem d_M_times_29 : decode b_M_times 29 = .ok (.iload 11, 2) := by decide +kernel
theorem d_M_times_31 : decode b_M_times 31 = .ok (.laload, 1) := by decide +kernel
theorem d_M_times_32 : decode b_M_times 32 = .ok (.lload_n 3, 1) := by decide +kernel
theorem d_M_times_33 : decode b_M_times 33 = .ok (.lmul, 1) := by decide +kernel
theorem d_M_times_34 : decode b_M_times 34 = .ok (.lstore 12, 2) := by decide +kernel
theorem d_M_times_36 : decode b_M_times 36 = .ok (.lload 9, 2) := by decide +kernel
theorem d_M_times_38 : decode b_M_times 38 = .ok (.lload 5, 2) := by decide +kernel
theorem d_M_times_40 : decode b_M_times 40 = .ok (.lmul, 1) := by decide +kernel
theorem d_M_times_41 : decode b_M_times 41 = .ok (.lstore 14, 2) := by decide +kernel
theorem d_M_times_43 : decode b_M_times 43 = .ok (.lload 12, 2) := by decide +kernel
theorem d_M_times_45 : decode b_M_times 45 = .ok (.ldc2_w 42, 3) := by decide +kernel
theorem d_M_times_48 : decode b_M_times 48 = .ok (.land, 1) := by decide +kernel
theorem d_M_times_49 : decode b_M_times 49 = .ok (.lload 14, 2) := by decide +kernel
theorem d_M_times_51 : decode b_M_times 51 = .ok (.ldc2_w 42, 3) := by decide +kernel
theorem d_M_times_54 : decode b_M_times 54 = .ok (.land, 1) := by decide +kernel
theorem d_M_times_55 : decode b_M_times 55 = .ok (.ladd, 1) := by decide +kernel
theorem d_M_times_56 : decode b_M_times 56 = .ok (.lload 7, 2) := by decide +kernel
theorem d_M_times_58 : decode b_M_times 58 = .ok (.ldc2_w 42, 3) := by decide +kernel
theorem d_M_times_61 : decode b_M_times 61 = .ok (.land, 1) := by decide +kernel
theorem d_M_times_62 : decode b_M_times 62 = .ok (.ladd, 1) := by decide +kernel
theorem d_M_times_63 : decode b_M_times 63 = .ok (.lstore 16, 2) := by decide +kernel
theorem d_M_times_65 : decode b_M_times 65 = .ok (.lload 12, 2) := by decide +kernel
theorem d_M_times_67 : decode b_M_times 67 = .ok (.bipush 32, 2) := by decide +kernel
theorem d_M_times_69 : decode b_M_times 69 = .ok (.lushr, 1) := by decide +kernel
theorem d_M_times_70 : decode b_M_times 70 = .ok (.lload 14, 2) := by decide +kernel
theorem d_M_times_72 : decode b_M_times 72 = .ok (.bipush 32, 2) := by decide +kernel
theorem d_M_times_74 : decode b_M_times 74 = .ok (.lushr, 1) := by decide +kernel
theorem d_M_times_75 : decode b_M_times 75 = .ok (.ladd, 1) := by decide +kernel
theorem d_M_times_76 : decode b_M_times 76 = .ok (.lload 7, 2) := by decide +kernel
theorem d_M_times_78 : decode b_M_times 78 = .ok (.bipush 32, 2) := by decide +kernel
theorem d_M_times_80 : decode b_M_times 80 = .ok (.lushr, 1) := by decide +kernel
theorem d_M_times_81 : decode b_M_times 81 = .ok (.ladd, 1) := by decide +kernel
theorem d_M_times_82 : decode b_M_times 82 = .ok (.lload 16, 2) := by decide +kernel
theorem d_M_times_84 : decode b_M_times 84 = .ok (.bipush 32, 2) := by decide +kernel
theorem d_M_times_86 : decode b_M_times 86 = .ok (.lushr, 1) := by decide +kernel
theorem d_M_times_87 : decode b_M_times 87 = .ok (.ladd, 1) := by decide +kernel
theorem d_M_times_88 : decode b_M_times 88 = .ok (.lstore 18, 2) := by decide +kernel
theorem d_M_times_90 : decode b_M_times 90 = .ok (.aload_n 0, 1) := by decide +kernel
theorem d_M_times_91 : decode b_M_times 91 = .ok (.iload 11, 2) := by decide +kernel
theorem d_M_times_93 : decode b_M_times 93 = .ok (.laload, 1) := by decide +kernel
theorem d_M_times_94 : decode b_M_times 94 = .ok (.lstore 9, 2) := by decide +kernel
theorem d_M_times_96 : decode b_M_times 96 = .ok (.aload_n 0, 1) := by decide +kernel
theorem d_M_times_97 : decode b_M_times 97 = .ok (.iload 11, 2) := by decide +kernel
theorem d_M_times_99 : decode b_M_times 99 = .ok (.lload 16, 2) := by decide +kernel
theorem d_M_times_101 : decode b_M_times 101 = .ok (.ldc2_w 42, 3) := by decide +kernel
theorem d_M_times_104 : decode b_M_times 104 = .ok (.land, 1) := by decide +kernel
theorem d_M_times_105 : decode b_M_times 105 = .ok (.lastore, 1) := by decide +kernel
theorem d_M_times_106 : decode b_M_times 106 = .ok (.lload 18, 2) := by decide +kernel
theorem d_M_times_108 : decode b_M_times 108 = .ok (.lstore 7, 2) := by decide +kernel
theorem d_M_times_110 : decode b_M_times 110 = .ok (.iinc 11 1, 3) := by decide +kernel
theorem d_M_times_113 : decode b_M_times 113 = .ok (.goto (-92), 3) := by decide +kernel
theorem d_M_times_116 : decode b_M_times 116 = .ok (.return_, 1) := by decide +kernel
theorem d_M_signOf_0 : decode b_M_signOf 0 = .ok (.lload_n 1, 1) := by decide +kernel
theorem d_M_signOf_1 : decode b_M_signOf 1 = .ok (.invokestatic 44, 3) := by decide +kernel
theorem d_M_signOf_4 : decode b_M_signOf 4 = .ok (.istore 7, 2) := by decide +kernel
theorem d_M_signOf_6 : decode b_M_signOf 6 = .ok (.lload 5, 2) := by decide +kernel
theorem d_M_signOf_8 : decode b_M_signOf 8 = .ok (.lconst 0, 1) := by decide +kernel
theorem d_M_signOf_9 : decode b_M_signOf 9 = .ok (.lcmp, 1) := by decide +kernel
theorem d_M_signOf_10 : decode b_M_signOf 10 = .ok (.ifCond .ne 7, 3) := by decide +kernel
theorem d_M_signOf_13 : decode b_M_signOf 13 = .ok (.iconst 0, 1) := by decide +kernel
theorem d_M_signOf_14 : decode b_M_signOf 14 = .ok (.goto 7, 3) := by decide +kernel
theorem d_M_signOf_17 : decode b_M_signOf 17 = .ok (.lload_n 3, 1) := by decide +kernel
theorem d_M_signOf_18 : decode b_M_signOf 18 = .ok (.invokestatic 44, 3) := by decide +kernel
theorem d_M_signOf_21 : decode b_M_signOf 21 = .ok (.istore 8, 2) := by decide +kernel
theorem d_M_signOf_23 : decode b_M_signOf 23 = .ok (.iload 7, 2) := by decide +kernel
theorem d_M_signOf_25 : decode b_M_signOf 25 = .ok (.iload 8, 2) := by decide +kernel
theorem d_M_signOf_27 : decode b_M_signOf 27 = .ok (.if_icmp .eq 8, 3) := by decide +kernel
theorem d_M_signOf_30 : decode b_M_signOf 30 = .ok (.iload 8, 2) := by decide +kernel
theorem d_M_signOf_32 : decode b_M_signOf 32 = .ok (.ifCond .ne 6, 3) := by decide +kernel
theorem d_M_signOf_35 : decode b_M_signOf 35 = .ok (.iload 7, 2) := by decide +kernel
theorem d_M_signOf_37 : decode b_M_signOf 37 = .ok (.ireturn, 1) := by decide +kernel
theorem d_M_signOf_38 : decode b_M_signOf 38 = .ok (.iload 7, 2) := by decide +kernel
theorem d_M_signOf_40 : decode b_M_signOf 40 = .ok (.ifCond .ne 6, 3) := by decide +kernel
theorem d_M_signOf_43 : decode b_M_signOf 43 = .ok (.iload 8, 2) := by decide +kernel
theorem d_M_signOf_45 : decode b_M_signOf 45 = .ok (.ireturn, 1) := by decide +kernel
theorem d_M_signOf_46 : decode b_M_signOf 46 = .ok (.aload_n 0, 1) := by decide +kernel
theorem d_M_signOf_47 : decode b_M_signOf 47 = .ok (.lload_n 1, 1) := by decide +kernel
theorem d_M_signOf_48 : decode b_M_signOf 48 = .ok (.lconst 0, 1) := by decide +kernel
theorem d_M_signOf_49 : decode b_M_signOf 49 = .ok (.lcmp, 1) := by decide +kernel
theorem d_M_signOf_50 : decode b_M_signOf 50 = .ok (.ifCond .ge 8, 3) := by decide +kernel
theorem d_M_signOf_53 : decode b_M_signOf 53 = .ok (.lload_n 1, 1) := by decide +kernel
theorem d_M_signOf_54 : decode b_M_signOf 54 = .ok (.lneg, 1) := by decide +kernel
theorem d_M_signOf_55 : decode b_M_signOf 55 = .ok (.goto 4, 3) := by decide +kernel
theorem d_M_signOf_58 : decode b_M_signOf 58 = .ok (.lload_n 1, 1) := by decide +kernel
theorem d_M_signOf_59 : decode b_M_signOf 59 = .ok (.lload_n 3, 1) := by decide +kernel
theorem d_M_signOf_60 : decode b_M_signOf 60 = .ok (.lconst 0, 1) := by decide +kernel
theorem d_M_signOf_61 : decode b_M_signOf 61 = .ok (.lcmp, 1) := by decide +kernel
theorem d_M_signOf_62 : decode b_M_signOf 62 = .ok (.ifCond .ge 8, 3) := by decide +kernel
theorem d_M_signOf_65 : decode b_M_signOf 65 = .ok (.lload_n 3, 1) := by decide +kernel
theorem d_M_signOf_66 : decode b_M_signOf 66 = .ok (.lneg, 1) := by decide +kernel
theorem d_M_signOf_67 : decode b_M_signOf 67 = .ok (.goto 4, 3) := by decide +kernel
theorem d_M_signOf_70 : decode b_M_signOf 70 = .ok (.lload_n 3, 1) := by decide +kernel
theorem d_M_signOf_71 : decode b_M_signOf 71 = .ok (.lload 5, 2) := by decide +kernel
theorem d_M_signOf_73 : decode b_M_signOf 73 = .ok (.invokevirtual 48, 3) := by decide +kernel
theorem d_M_signOf_76 : decode b_M_signOf 76 = .ok (.istore 9, 2) := by decide +kernel
theorem d_M_signOf_78 : decode b_M_signOf 78 = .ok (.iload 9, 2) := by decide +kernel
theorem d_M_signOf_80 : decode b_M_signOf 80 = .ok (.ifCond .ne 7, 3) := by decide +kernel
theorem d_M_signOf_83 : decode b_M_signOf 83 = .ok (.iconst 0, 1) := by decide +kernel
theorem d_M_signOf_84 : decode b_M_signOf 84 = .ok (.goto 15, 3) := by decide +kernel
theorem d_M_signOf_87 : decode b_M_signOf 87 = .ok (.iload 9, 2) := by decide +kernel
theorem d_M_signOf_89 : decode b_M_signOf 89 = .ok (.ifCond .le 8, 3) := by decide +kernel
theorem d_M_signOf_92 : decode b_M_signOf 92 = .ok (.iload 7, 2) := by decide +kernel
theorem d_M_signOf_94 : decode b_M_signOf 94 = .ok (.goto 5, 3) := by decide +kernel
theorem d_M_signOf_97 : decode b_M_signOf 97 = .ok (.iload 8, 2) := by decide +kernel
theorem d_M_signOf_99 : decode b_M_signOf 99 = .ok (.ireturn, 1) := by decide +kernel
theorem d_M_compare_0 : decode b_M_compare 0 = .ok (.aload_n 0, 1) := by decide +kernel
theorem d_M_compare_1 : decode b_M_compare 1 = .ok (.getfield 24, 3) := by decide +kernel
theorem d_M_compare_4 : decode b_M_compare 4 = .ok (.lload_n 1, 1) := by decide +kernel
theorem d_M_compare_5 : decode b_M_compare 5 = .ok (.lload_n 1, 1) := by decide +kernel
theorem d_M_compare_6 : decode b_M_compare 6 = .ok (.lconst 1, 1) := by decide +kernel
theorem d_M_compare_7 : decode b_M_compare 7 = .ok (.invokestatic 34, 3) := by decide +kernel
theorem d_M_compare_10 : decode b_M_compare 10 = .ok (.aload_n 0, 1) := by decide +kernel
theorem d_M_compare_11 : decode b_M_compare 11 = .ok (.getfield 27, 3) := by decide +kernel
theorem d_M_compare_14 : decode b_M_compare 14 = .ok (.lload_n 3, 1) := by decide +kernel
theorem d_M_compare_15 : decode b_M_compare 15 = .ok (.lload_n 3, 1) := by decide +kernel
theorem d_M_compare_16 : decode b_M_compare 16 = .ok (.lload 5, 2) := by decide +kernel
theorem d_M_compare_18 : decode b_M_compare 18 = .ok (.invokestatic 34, 3) := by decide +kernel
theorem d_M_compare_21 : decode b_M_compare 21 = .ok (.iconst 5, 1) := by decide +kernel
theorem d_M_compare_22 : decode b_M_compare 22 = .ok (.istore 7, 2) := by decide +kernel
theorem d_M_compare_24 : decode b_M_compare 24 = .ok (.iload 7, 2) := by decide +kernel
theorem d_M_compare_26 : decode b_M_compare 26 = .ok (.ifCond .lt 51, 3) := by decide +kernel
theorem d_M_compare_29 : decode b_M_compare 29 = .ok (.aload_n 0, 1) := by decide +kernel
theorem d_M_compare_30 : decode b_M_compare 30 = .ok (.getfield 24, 3) := by decide +kernel
theorem d_M_compare_33 : decode b_M_compare 33 = .ok (.iload 7, 2) := by decide +kernel
theorem d_M_compare_35 : decode b_M_compare 35 = .ok (.laload, 1) := by decide +kernel
theorem d_M_compare_36 : decode b_M_compare 36 = .ok (.aload_n 0, 1) := by decide +kernel
theorem d_M_compare_37 : decode b_M_compare 37 = .ok (.getfield 27, 3) := by decide +kernel
theorem d_M_compare_40 : decode b_M_compare 40 = .ok (.iload 7, 2) := by decide +kernel
theorem d_M_compare_42 : decode b_M_compare 42 = .ok (.laload, 1) := by decide +kernel
theorem d_M_compare_43 : decode b_M_compare 43 = .ok (.lcmp, 1) := by decide +kernel
theorem d_M_compare_44 : decode b_M_compare 44 = .ok (.ifCond .eq 27, 3) := by decide +kernel
theorem d_M_compare_47 : decode b_M_compare 47 = .ok (.aload_n 0, 1) := by decide +kernel
theorem d_M_compare_48 : decode b_M_compare 48 = .ok (.getfield 24, 3) := by decide +kernel
theorem d_M_compare_51 : decode b_M_compare 51 = .ok (.iload 7, 2) := by decide +kernel
theorem d_M_compare_53 : decode b_M_compare 53 = .ok (.laload, 1) := by decide +kernel
theorem d_M_compare_54 : decode b_M_compare 54 = .ok (.aload_n 0, 1) := by decide +kernel
theorem d_M_compare_55 : decode b_M_compare 55 = .ok (.getfield 27, 3) := by decide +kernel
theorem d_M_compare_58 : decode b_M_compare 58 = .ok (.iload 7, 2) := by decide +kernel
theorem d_M_compare_60 : decode b_M_compare 60 = .ok (.laload, 1) := by decide +kernel
theorem d_M_compare_61 : decode b_M_compare 61 = .ok (.lcmp, 1) := by decide +kernel
theorem d_M_compare_62 : decode b_M_compare 62 = .ok (.ifCond .ge 7, 3) := by decide +kernel
theorem d_M_compare_65 : decode b_M_compare 65 = .ok (.iconst (-1), 1) := by decide +kernel
theorem d_M_compare_66 : decode b_M_compare 66 = .ok (.goto 4, 3) := by decide +kernel
theorem d_M_compare_69 : decode b_M_compare 69 = .ok (.iconst 1, 1) := by decide +kernel
theorem d_M_compare_70 : decode b_M_compare 70 = .ok (.ireturn, 1) := by decide +kernel
theorem d_M_compare_71 : decode b_M_compare 71 = .ok (.iinc 7 (-1), 3) := by decide +kernel
theorem d_M_compare_74 : decode b_M_compare 74 = .ok (.goto (-50), 3) := by decide +kernel
theorem d_M_compare_77 : decode b_M_compare 77 = .ok (.iconst 0, 1) := by decide +kernel
theorem d_M_compare_78 : decode b_M_compare 78 = .ok (.ireturn, 1) := by decide +kernel
theorem d_M_row_0 : decode b_M_row 0 = .ok (.iload_n 1, 1) := by decide +kernel
theorem d_M_row_1 : decode b_M_row 1 = .ok (.sipush (-300), 3) := by decide +kernel
theorem d_M_row_4 : decode b_M_row 4 = .ok (.if_icmp .lt 10, 3) := by decide +kernel
theorem d_M_row_7 : decode b_M_row 7 = .ok (.iload_n 1, 1) := by decide +kernel
theorem d_M_row_8 : decode b_M_row 8 = .ok (.sipush 300, 3) := by decide +kernel
theorem d_M_row_11 : decode b_M_row 11 = .ok (.if_icmp .le 5, 3) := by decide +kernel
theorem d_M_row_14 : decode b_M_row 14 = .ok (.lconst 0, 1) := by decide +kernel
theorem d_M_row_15 : decode b_M_row 15 = .ok (.lreturn, 1) := by decide +kernel
theorem d_M_row_16 : decode b_M_row 16 = .ok (.lconst 0, 1) := by decide +kernel
theorem d_M_row_17 : decode b_M_row 17 = .ok (.lstore_n 2, 1) := by decide +kernel
theorem d_M_row_18 : decode b_M_row 18 = .ok (.iconst 0, 1) := by decide +kernel
theorem d_M_row_19 : decode b_M_row 19 = .ok (.istore 4, 2) := by decide +kernel
theorem d_M_row_21 : decode b_M_row 21 = .ok (.iload 4, 2) := by decide +kernel
theorem d_M_row_23 : decode b_M_row 23 = .ok (.aload_n 0, 1) := by decide +kernel
theorem d_M_row_24 : decode b_M_row 24 = .ok (.getfield 30, 3) := by decide +kernel
theorem d_M_row_27 : decode b_M_row 27 = .ok (.if_icmp .ge 55, 3) := by decide +kernel
theorem d_M_row_30 : decode b_M_row 30 = .ok (.aload_n 0, 1) := by decide +kernel
theorem d_M_row_31 : decode b_M_row 31 = .ok (.ldc2_w 111, 3) := by decide +kernel
theorem d_M_row_34 : decode b_M_row 34 = .ok (.iload 4, 2) := by decide +kernel
theorem d_M_row_36 : decode b_M_row 36 = .ok (.i2l, 1) := by decide +kernel
theorem d_M_row_37 : decode b_M_row 37 = .ok (.lmul, 1) := by decide +kernel
theorem d_M_row_38 : decode b_M_row 38 = .ok (.ldc2_w 113, 3) := by decide +kernel
theorem d_M_row_41 : decode b_M_row 41 = .ok (.ladd, 1) := by decide +kernel
theorem d_M_row_42 : decode b_M_row 42 = .ok (.ldc2_w 111, 3) := by decide +kernel
theorem d_M_row_45 : decode b_M_row 45 = .ok (.iload_n 1, 1) := by decide +kernel
theorem d_M_row_46 : decode b_M_row 46 = .ok (.i2l, 1) := by decide +kernel
theorem d_M_row_47 : decode b_M_row 47 = .ok (.lmul, 1) := by decide +kernel
theorem d_M_row_48 : decode b_M_row 48 = .ok (.ldc2_w 113, 3) := by decide +kernel
theorem d_M_row_51 : decode b_M_row 51 = .ok (.ladd, 1) := by decide +kernel
theorem d_M_row_52 : decode b_M_row 52 = .ok (.invokevirtual 107, 3) := by decide +kernel
theorem d_M_row_55 : decode b_M_row 55 = .ok (.aload_n 0, 1) := by decide +kernel
theorem d_M_row_56 : decode b_M_row 56 = .ok (.getfield 52, 3) := by decide +kernel
theorem d_M_row_59 : decode b_M_row 59 = .ok (.ifCond .ne 10, 3) := by decide +kernel
theorem d_M_row_62 : decode b_M_row 62 = .ok (.aload_n 0, 1) := by decide +kernel
theorem d_M_row_63 : decode b_M_row 63 = .ok (.getfield 56, 3) := by decide +kernel
theorem d_M_row_66 : decode b_M_row 66 = .ok (.ifCond .eq 10, 3) := by decide +kernel
theorem d_M_row_69 : decode b_M_row 69 = .ok (.lload_n 2, 1) := by decide +kernel
theorem d_M_row_70 : decode b_M_row 70 = .ok (.lconst 1, 1) := by decide +kernel
theorem d_M_row_71 : decode b_M_row 71 = .ok (.iload 4, 2) := by decide +kernel
theorem d_M_row_73 : decode b_M_row 73 = .ok (.lshl, 1) := by decide +kernel
theorem d_M_row_74 : decode b_M_row 74 = .ok (.lor, 1) := by decide +kernel
theorem d_M_row_75 : decode b_M_row 75 = .ok (.lstore_n 2, 1) := by decide +kernel
theorem d_M_row_76 : decode b_M_row 76 = .ok (.iinc 4 1, 3) := by decide +kernel
theorem d_M_row_79 : decode b_M_row 79 = .ok (.goto (-58), 3) := by decide +kernel
theorem d_M_row_82 : decode b_M_row 82 = .ok (.lload_n 2, 1) := by decide +kernel
theorem d_M_row_83 : decode b_M_row 83 = .ok (.lreturn, 1) := by decide +kernel
theorem d_M_count_0 : decode b_M_count 0 = .ok (.iload_n 1, 1) := by decide +kernel
theorem d_M_count_1 : decode b_M_count 1 = .ok (.tableswitch 56 0 3 #[31, 36, 41, 46], 31) := by decide +kernel
theorem d_M_count_32 : decode b_M_count 32 = .ok (.aload_n 0, 1) := by decide +kernel
theorem d_M_count_33 : decode b_M_count 33 = .ok (.getfield 30, 3) := by decide +kernel
theorem d_M_count_36 : decode b_M_count 36 = .ok (.ireturn, 1) := by decide +kernel
theorem d_M_count_37 : decode b_M_count 37 = .ok (.aload_n 0, 1) := by decide +kernel
theorem d_M_count_38 : decode b_M_count 38 = .ok (.getfield 89, 3) := by decide +kernel
theorem d_M_count_41 : decode b_M_count 41 = .ok (.ireturn, 1) := by decide +kernel
theorem d_M_count_42 : decode b_M_count 42 = .ok (.aload_n 0, 1) := by decide +kernel
theorem d_M_count_43 : decode b_M_count 43 = .ok (.getfield 96, 3) := by decide +kernel
theorem d_M_count_46 : decode b_M_count 46 = .ok (.ireturn, 1) := by decide +kernel
theorem d_M_count_47 : decode b_M_count 47 = .ok (.aload_n 0, 1) := by decide +kernel
theorem d_M_count_48 : decode b_M_count 48 = .ok (.getfield 96, 3) := by decide +kernel
theorem d_M_count_51 : decode b_M_count 51 = .ok (.aload_n 0, 1) := by decide +kernel
theorem d_M_count_52 : decode b_M_count 52 = .ok (.invokevirtual 99, 3) := by decide +kernel
theorem d_M_count_55 : decode b_M_count 55 = .ok (.isub, 1) := by decide +kernel
theorem d_M_count_56 : decode b_M_count 56 = .ok (.ireturn, 1) := by decide +kernel
theorem d_M_count_57 : decode b_M_count 57 = .ok (.iconst (-1), 1) := by decide +kernel
theorem d_M_count_58 : decode b_M_count 58 = .ok (.ireturn, 1) := by decide +kernel
