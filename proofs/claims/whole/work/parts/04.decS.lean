theorem d_S_init_0 : decode b_S_init 0 = .ok (.aload_n 0, 1) := by decide +kernel
theorem d_S_init_1 : decode b_S_init 1 = .ok (.invokespecial 1, 3) := by decide +kernel
theorem d_S_init_4 : decode b_S_init 4 = .ok (.aload_n 0, 1) := by decide +kernel
theorem d_S_init_5 : decode b_S_init 5 = .ok (.iconst 1, 1) := by decide +kernel
theorem d_S_init_6 : decode b_S_init 6 = .ok (.bipush 64, 2) := by decide +kernel
theorem d_S_init_8 : decode b_S_init 8 = .ok (.iload_n 1, 1) := by decide +kernel
theorem d_S_init_9 : decode b_S_init 9 = .ok (.invokestatic 9, 3) := by decide +kernel
theorem d_S_init_12 : decode b_S_init 12 = .ok (.invokestatic 15, 3) := by decide +kernel
theorem d_S_init_15 : decode b_S_init 15 = .ok (.putfield 18, 3) := by decide +kernel
theorem d_S_init_18 : decode b_S_init 18 = .ok (.aload_n 0, 1) := by decide +kernel
theorem d_S_init_19 : decode b_S_init 19 = .ok (.sipush 256, 3) := by decide +kernel
theorem d_S_init_22 : decode b_S_init 22 = .ok (.newarray .int, 2) := by decide +kernel
theorem d_S_init_24 : decode b_S_init 24 = .ok (.putfield 22, 3) := by decide +kernel
theorem d_S_init_27 : decode b_S_init 27 = .ok (.aload_n 0, 1) := by decide +kernel
theorem d_S_init_28 : decode b_S_init 28 = .ok (.sipush 256, 3) := by decide +kernel
theorem d_S_init_31 : decode b_S_init 31 = .ok (.newarray .int, 2) := by decide +kernel
theorem d_S_init_33 : decode b_S_init 33 = .ok (.putfield 26, 3) := by decide +kernel
theorem d_S_init_36 : decode b_S_init 36 = .ok (.aload_n 0, 1) := by decide +kernel
theorem d_S_init_37 : decode b_S_init 37 = .ok (.sipush 256, 3) := by decide +kernel
theorem d_S_init_40 : decode b_S_init 40 = .ok (.newarray .boolean, 2) := by decide +kernel
theorem d_S_init_42 : decode b_S_init 42 = .ok (.putfield 29, 3) := by decide +kernel
theorem d_S_init_45 : decode b_S_init 45 = .ok (.aload_n 0, 1) := by decide +kernel
theorem d_S_init_46 : decode b_S_init 46 = .ok (.bipush 64, 2) := by decide +kernel
theorem d_S_init_48 : decode b_S_init 48 = .ok (.newarray .int, 2) := by decide +kernel
theorem d_S_init_50 : decode b_S_init 50 = .ok (.putfield 33, 3) := by decide +kernel
theorem d_S_init_53 : decode b_S_init 53 = .ok (.aload_n 0, 1) := by decide +kernel
theorem d_S_init_54 : decode b_S_init 54 = .ok (.new 36, 3) := by decide +kernel
theorem d_S_init_57 : decode b_S_init 57 = .ok (.dup, 1) := by decide +kernel
theorem d_S_init_58 : decode b_S_init 58 = .ok (.invokespecial 38, 3) := by decide +kernel
theorem d_S_init_61 : decode b_S_init 61 = .ok (.putfield 39, 3) := by decide +kernel
theorem d_S_init_64 : decode b_S_init 64 = .ok (.return_, 1) := by decide +kernel
theorem d_S_point_0 : decode b_S_point 0 = .ok (.iload_n 1, 1) := by decide +kernel
theorem d_S_point_1 : decode b_S_point 1 = .ok (.invokestatic 43, 3) := by decide +kernel
theorem d_S_point_4 : decode b_S_point 4 = .ok (.ifCond .eq 10, 3) := by decide +kernel
theorem d_S_point_7 : decode b_S_point 7 = .ok (.iload_n 2, 1) := by decide +kernel
theorem d_S_point_8 : decode b_S_point 8 = .ok (.invokestatic 43, 3) := by decide +kernel
theorem d_S_point_11 : decode b_S_point 11 = .ok (.ifCond .ne 5, 3) := by decide +kernel
theorem d_S_point_14 : decode b_S_point 14 = .ok (.iconst (-1), 1) := by decide +kernel
theorem d_S_point_15 : decode b_S_point 15 = .ok (.ireturn, 1) := by decide +kernel
theorem d_S_point_16 : decode b_S_point 16 = .ok (.aload_n 0, 1) := by decide +kernel
theorem d_S_point_17 : decode b_S_point 17 = .ok (.getfield 47, 3) := by decide +kernel
theorem d_S_point_20 : decode b_S_point 20 = .ok (.aload_n 0, 1) := by decide +kernel
theorem d_S_point_21 : decode b_S_point 21 = .ok (.getfield 50, 3) := by decide +kernel
theorem d_S_point_24 : decode b_S_point 24 = .ok (.iadd, 1) := by decide +kernel
theorem d_S_point_25 : decode b_S_point 25 = .ok (.sipush 256, 3) := by decide +kernel
theorem d_S_point_28 : decode b_S_point 28 = .ok (.if_icmp .lt 6, 3) := by decide +kernel
theorem d_S_point_31 : decode b_S_point 31 = .ok (.bipush (-3), 2) := by decide +kernel
theorem d_S_point_33 : decode b_S_point 33 = .ok (.ireturn, 1) := by decide +kernel
theorem d_S_point_34 : decode b_S_point 34 = .ok (.aload_n 0, 1) := by decide +kernel
theorem d_S_point_35 : decode b_S_point 35 = .ok (.getfield 22, 3) := by decide +kernel
theorem d_S_point_38 : decode b_S_point 38 = .ok (.aload_n 0, 1) := by decide +kernel
theorem d_S_point_39 : decode b_S_point 39 = .ok (.getfield 50, 3) := by decide +kernel
theorem d_S_point_42 : decode b_S_point 42 = .ok (.iload_n 1, 1) := by decide +kernel
theorem d_S_point_43 : decode b_S_point 43 = .ok (.iastore, 1) := by decide +kernel
theorem d_S_point_44 : decode b_S_point 44 = .ok (.aload_n 0, 1) := by decide +kernel
theorem d_S_point_45 : decode b_S_point 45 = .ok (.getfield 26, 3) := by decide +kernel
theorem d_S_point_48 : decode b_S_point 48 = .ok (.aload_n 0, 1) := by decide +kernel
theorem d_S_point_49 : decode b_S_point 49 = .ok (.getfield 50, 3) := by decide +kernel
theorem d_S_point_52 : decode b_S_point 52 = .ok (.iload_n 2, 1) := by decide +kernel
theorem d_S_point_53 : decode b_S_point 53 = .ok (.iastore, 1) := by decide +kernel
theorem d_S_point_54 : decode b_S_point 54 = .ok (.aload_n 0, 1) := by decide +kernel
theorem d_S_point_55 : decode b_S_point 55 = .ok (.getfield 29, 3) := by decide +kernel
theorem d_S_point_58 : decode b_S_point 58 = .ok (.aload_n 0, 1) := by decide +kernel
theorem d_S_point_59 : decode b_S_point 59 = .ok (.getfield 50, 3) := by decide +kernel
theorem d_S_point_62 : decode b_S_point 62 = .ok (.iload_n 3, 1) := by decide +kernel
theorem d_S_point_63 : decode b_S_point 63 = .ok (.bastore, 1) := by decide +kernel
theorem d_S_point_64 : decode b_S_point 64 = .ok (.aload_n 0, 1) := by decide +kernel
theorem d_S_point_65 : decode b_S_point 65 = .ok (.dup, 1) := by decide +kernel
theorem d_S_point_66 : decode b_S_point 66 = .ok (.getfield 50, 3) := by decide +kernel
theorem d_S_point_69 : decode b_S_point 69 = .ok (.iconst 1, 1) := by decide +kernel
theorem d_S_point_70 : decode b_S_point 70 = .ok (.iadd, 1) := by decide +kernel
theorem d_S_point_71 : decode b_S_point 71 = .ok (.putfield 50, 3) := by decide +kernel
theorem d_S_point_74 : decode b_S_point 74 = .ok (.aload_n 0, 1) := by decide +kernel
theorem d_S_point_75 : decode b_S_point 75 = .ok (.getfield 50, 3) := by decide +kernel
theorem d_S_point_78 : decode b_S_point 78 = .ok (.ireturn, 1) := by decide +kernel
theorem d_S_inReach_0 : decode b_S_inReach 0 = .ok (.iload_n 0, 1) := by decide +kernel
theorem d_S_inReach_1 : decode b_S_inReach 1 = .ok (.sipush (-20000), 3) := by decide +kernel
theorem d_S_inReach_4 : decode b_S_inReach 4 = .ok (.if_icmp .lt 14, 3) := by decide +kernel
theorem d_S_inReach_7 : decode b_S_inReach 7 = .ok (.iload_n 0, 1) := by decide +kernel
theorem d_S_inReach_8 : decode b_S_inReach 8 = .ok (.sipush 20000, 3) := by decide +kernel
theorem d_S_inReach_11 : decode b_S_inReach 11 = .ok (.if_icmp .gt 7, 3) := by decide +kernel
theorem d_S_inReach_14 : decode b_S_inReach 14 = .ok (.iconst 1, 1) := by decide +kernel
theorem d_S_inReach_15 : decode b_S_inReach 15 = .ok (.goto 4, 3) := by decide +kernel
theorem d_S_inReach_18 : decode b_S_inReach 18 = .ok (.iconst 0, 1) := by decide +kernel
theorem d_S_inReach_19 : decode b_S_inReach 19 = .ok (.ireturn, 1) := by decide +kernel
theorem d_S_close_0 : decode b_S_close 0 = .ok (.aload_n 0, 1) := by decide +kernel
theorem d_S_close_1 : decode b_S_close 1 = .ok (.getfield 50, 3) := by decide +kernel
theorem d_S_close_4 : decode b_S_close 4 = .ok (.ifCond .ne 6, 3) := by decide +kernel
theorem d_S_close_7 : decode b_S_close 7 = .ok (.bipush (-2), 2) := by decide +kernel
theorem d_S_close_9 : decode b_S_close 9 = .ok (.ireturn, 1) := by decide +kernel
theorem d_S_close_10 : decode b_S_close 10 = .ok (.iconst 0, 1) := by decide +kernel
theorem d_S_close_11 : decode b_S_close 11 = .ok (.istore_n 1, 1) := by decide +kernel
theorem d_S_close_12 : decode b_S_close 12 = .ok (.iload_n 1, 1) := by decide +kernel
theorem d_S_close_13 : decode b_S_close 13 = .ok (.aload_n 0, 1) := by decide +kernel
theorem d_S_close_14 : decode b_S_close 14 = .ok (.getfield 50, 3) := by decide +kernel
theorem d_S_close_17 : decode b_S_close 17 = .ok (.if_icmp .ge 14, 3) := by decide +kernel
theorem d_S_close_20 : decode b_S_close 20 = .ok (.aload_n 0, 1) := by decide +kernel
theorem d_S_close_21 : decode b_S_close 21 = .ok (.iload_n 1, 1) := by decide +kernel
theorem d_S_close_22 : decode b_S_close 22 = .ok (.invokevirtual 53, 3) := by decide +kernel
theorem d_S_close_25 : decode b_S_close 25 = .ok (.iinc 1 1, 3) := by decide +kernel
theorem d_S_close_28 : decode b_S_close 28 = .ok (.goto (-16), 3) := by decide +kernel
theorem d_S_close_31 : decode b_S_close 31 = .ok (.aload_n 0, 1) := by decide +kernel
theorem d_S_close_32 : decode b_S_close 32 = .ok (.dup, 1) := by decide +kernel
theorem d_S_close_33 : decode b_S_close 33 = .ok (.getfield 47, 3) := by decide +kernel
theorem d_S_close_36 : decode b_S_close 36 = .ok (.aload_n 0, 1) := by decide +kernel
theorem d_S_close_37 : decode b_S_close 37 = .ok (.getfield 50, 3) := by decide +kernel
theorem d_S_close_40 : decode b_S_close 40 = .ok (.iadd, 1) := by decide +kernel
theorem d_S_close_41 : decode b_S_close 41 = .ok (.putfield 47, 3) := by decide +kernel
theorem d_S_close_44 : decode b_S_close 44 = .ok (.aload_n 0, 1) := by decide +kernel
theorem d_S_close_45 : decode b_S_close 45 = .ok (.iconst 0, 1) := by decide +kernel
theorem d_S_close_46 : decode b_S_close 46 = .ok (.putfield 50, 3) := by decide +kernel
theorem d_S_close_49 : decode b_S_close 49 = .ok (.aload_n 0, 1) := by decide +kernel
theorem d_S_close_50 : decode b_S_close 50 = .ok (.dup, 1) := by decide +kernel
theorem d_S_close_51 : decode b_S_close 51 = .ok (.getfield 57, 3) := by decide +kernel
theorem d_S_close_54 : decode b_S_close 54 = .ok (.iconst 1, 1) := by decide +kernel
theorem d_S_close_55 : decode b_S_close 55 = .ok (.iadd, 1) := by decide +kernel
theorem d_S_close_56 : decode b_S_close 56 = .ok (.putfield 57, 3) := by decide +kernel
theorem d_S_close_59 : decode b_S_close 59 = .ok (.aload_n 0, 1) := by decide +kernel
theorem d_S_close_60 : decode b_S_close 60 = .ok (.getfield 57, 3) := by decide +kernel
theorem d_S_close_63 : decode b_S_close 63 = .ok (.ireturn, 1) := by decide +kernel
theorem d_S_addArcOf_0 : decode b_S_addArcOf 0 = .ok (.iload_n 1, 1) := by decide +kernel
theorem d_S_addArcOf_1 : decode b_S_addArcOf 1 = .ok (.ifCond .ne 12, 3) := by decide +kernel
theorem d_S_addArcOf_4 : decode b_S_addArcOf 4 = .ok (.aload_n 0, 1) := by decide +kernel
theorem d_S_addArcOf_5 : decode b_S_addArcOf 5 = .ok (.getfield 50, 3) := by decide +kernel
theorem d_S_addArcOf_8 : decode b_S_addArcOf 8 = .ok (.iconst 1, 1) := by decide +kernel
theorem d_S_addArcOf_9 : decode b_S_addArcOf 9 = .ok (.isub, 1) := by decide +kernel
theorem d_S_addArcOf_10 : decode b_S_addArcOf 10 = .ok (.goto 6, 3) := by decide +kernel
theorem d_S_addArcOf_13 : decode b_S_addArcOf 13 = .ok (.iload_n 1, 1) := by decide +kernel
theorem d_S_addArcOf_14 : decode b_S_addArcOf 14 = .ok (.iconst 1, 1) := by decide +kernel
theorem d_S_addArcOf_15 : decode b_S_addArcOf 15 = .ok (.isub, 1) := by decide +kernel
theorem d_S_addArcOf_16 : decode b_S_addArcOf 16 = .ok (.istore_n 2, 1) := by decide +kernel
theorem d_S_addArcOf_17 : decode b_S_addArcOf 17 = .ok (.iload_n 1, 1) := by decide +kernel
theorem d_S_addArcOf_18 : decode b_S_addArcOf 18 = .ok (.iconst 1, 1) := by decide +kernel
theorem d_S_addArcOf_19 : decode b_S_addArcOf 19 = .ok (.iadd, 1) := by decide +kernel
theorem d_S_addArcOf_20 : decode b_S_addArcOf 20 = .ok (.aload_n 0, 1) := by decide +kernel
theorem d_S_addArcOf_21 : decode b_S_addArcOf 21 = .ok (.getfield 50, 3) := by decide +kernel
theorem d_S_addArcOf_24 : decode b_S_addArcOf 24 = .ok (.if_icmp .ne 7, 3) := by decide +kernel
theorem d_S_addArcOf_27 : decode b_S_addArcOf 27 = .ok (.iconst 0, 1) := by decide +kernel
theorem d_S_addArcOf_28 : decode b_S_addArcOf 28 = .ok (.goto 6, 3) := by decide +kernel
theorem d_S_addArcOf_31 : decode b_S_addArcOf 31 = .ok (.iload_n 1, 1) := by decide +kernel
theorem d_S_addArcOf_32 : decode b_S_addArcOf 32 = .ok (.iconst 1, 1) := by decide +kernel
theorem d_S_addArcOf_33 : decode b_S_addArcOf 33 = .ok (.iadd, 1) := by decide +kernel
theorem d_S_addArcOf_34 : decode b_S_addArcOf 34 = .ok (.istore_n 3, 1) := by decide +kernel
theorem d_S_addArcOf_35 : decode b_S_addArcOf 35 = .ok (.aload_n 0, 1) := by decide +kernel
theorem d_S_addArcOf_36 : decode b_S_addArcOf 36 = .ok (.getfield 29, 3) := by decide +kernel
theorem d_S_addArcOf_39 : decode b_S_addArcOf 39 = .ok (.iload_n 1, 1) := by decide +kernel
theorem d_S_addArcOf_40 : decode b_S_addArcOf 40 = .ok (.baload, 1) := by decide +kernel
theorem d_S_addArcOf_41 : decode b_S_addArcOf 41 = .ok (.ifCond .ne 77, 3) := by decide +kernel
theorem d_S_addArcOf_44 : decode b_S_addArcOf 44 = .ok (.aload_n 0, 1) := by decide +kernel
theorem d_S_addArcOf_45 : decode b_S_addArcOf 45 = .ok (.getfield 39, 3) := by decide +kernel
theorem d_S_addArcOf_48 : decode b_S_addArcOf 48 = .ok (.new 71, 3) := by decide +kernel
theorem d_S_addArcOf_51 : decode b_S_addArcOf 51 = .ok (.dup, 1) := by decide +kernel
theorem d_S_addArcOf_52 : decode b_S_addArcOf 52 = .ok (.aload_n 0, 1) := by decide +kernel
theorem d_S_addArcOf_53 : decode b_S_addArcOf 53 = .ok (.aload_n 0, 1) := by decide +kernel
theorem d_S_addArcOf_54 : decode b_S_addArcOf 54 = .ok (.getfield 22, 3) := by decide +kernel
theorem d_S_addArcOf_57 : decode b_S_addArcOf 57 = .ok (.iload_n 2, 1) := by decide +kernel
theorem d_S_addArcOf_58 : decode b_S_addArcOf 58 = .ok (.iload_n 1, 1) := by decide +kernel
theorem d_S_addArcOf_59 : decode b_S_addArcOf 59 = .ok (.invokevirtual 89, 3) := by decide +kernel
theorem d_S_addArcOf_62 : decode b_S_addArcOf 62 = .ok (.aload_n 0, 1) := by decide +kernel
theorem d_S_addArcOf_63 : decode b_S_addArcOf 63 = .ok (.aload_n 0, 1) := by decide +kernel
theorem d_S_addArcOf_64 : decode b_S_addArcOf 64 = .ok (.getfield 26, 3) := by decide +kernel
theorem d_S_addArcOf_67 : decode b_S_addArcOf 67 = .ok (.iload_n 2, 1) := by decide +kernel
theorem d_S_addArcOf_68 : decode b_S_addArcOf 68 = .ok (.iload_n 1, 1) := by decide +kernel
theorem d_S_addArcOf_69 : decode b_S_addArcOf 69 = .ok (.invokevirtual 89, 3) := by decide +kernel
theorem d_S_addArcOf_72 : decode b_S_addArcOf 72 = .ok (.iconst 2, 1) := by decide +kernel
theorem d_S_addArcOf_73 : decode b_S_addArcOf 73 = .ok (.aload_n 0, 1) := by decide +kernel
theorem d_S_addArcOf_74 : decode b_S_addArcOf 74 = .ok (.getfield 22, 3) := by decide +kernel
theorem d_S_addArcOf_77 : decode b_S_addArcOf 77 = .ok (.iload_n 1, 1) := by decide +kernel
theorem d_S_addArcOf_78 : decode b_S_addArcOf 78 = .ok (.iaload, 1) := by decide +kernel
theorem d_S_addArcOf_79 : decode b_S_addArcOf 79 = .ok (.imul, 1) := by decide +kernel
theorem d_S_addArcOf_80 : decode b_S_addArcOf 80 = .ok (.iconst 2, 1) := by decide +kernel
theorem d_S_addArcOf_81 : decode b_S_addArcOf 81 = .ok (.aload_n 0, 1) := by decide +kernel
theorem d_S_addArcOf_82 : decode b_S_addArcOf 82 = .ok (.getfield 26, 3) := by decide +kernel
theorem d_S_addArcOf_85 : decode b_S_addArcOf 85 = .ok (.iload_n 1, 1) := by decide +kernel
theorem d_S_addArcOf_86 : decode b_S_addArcOf 86 = .ok (.iaload, 1) := by decide +kernel
theorem d_S_addArcOf_87 : decode b_S_addArcOf 87 = .ok (.imul, 1) := by decide +kernel
theorem d_S_addArcOf_88 : decode b_S_addArcOf 88 = .ok (.aload_n 0, 1) := by decide +kernel
theorem d_S_addArcOf_89 : decode b_S_addArcOf 89 = .ok (.aload_n 0, 1) := by decide +kernel
theorem d_S_addArcOf_90 : decode b_S_addArcOf 90 = .ok (.getfield 22, 3) := by decide +kernel
theorem d_S_addArcOf_93 : decode b_S_addArcOf 93 = .ok (.iload_n 3, 1) := by decide +kernel
theorem d_S_addArcOf_94 : decode b_S_addArcOf 94 = .ok (.iload_n 1, 1) := by decide +kernel
theorem d_S_addArcOf_95 : decode b_S_addArcOf 95 = .ok (.invokevirtual 89, 3) := by decide +kernel
theorem d_S_addArcOf_98 : decode b_S_addArcOf 98 = .ok (.aload_n 0, 1) := by decide +kernel
theorem d_S_addArcOf_99 : decode b_S_addArcOf 99 = .ok (.aload_n 0, 1) := by decide +kernel
theorem d_S_addArcOf_100 : decode b_S_addArcOf 100 = .ok (.getfield 26, 3) := by decide +kernel
theorem d_S_addArcOf_103 : decode b_S_addArcOf 103 = .ok (.iload_n 3, 1) := by decide +kernel
theorem d_S_addArcOf_104 : decode b_S_addArcOf 104 = .ok (.iload_n 1, 1) := by decide +kernel
theorem d_S_addArcOf_105 : decode b_S_addArcOf 105 = .ok (.invokevirtual 89, 3) := by decide +kernel
theorem d_S_addArcOf_108 : decode b_S_addArcOf 108 = .ok (.invokespecial 93, 3) := by decide +kernel
theorem d_S_addArcOf_111 : decode b_S_addArcOf 111 = .ok (.invokevirtual 96, 3) := by decide +kernel
theorem d_S_addArcOf_114 : decode b_S_addArcOf 114 = .ok (.pop, 1) := by decide +kernel
theorem d_S_addArcOf_115 : decode b_S_addArcOf 115 = .ok (.goto 75, 3) := by decide +kernel
theorem d_S_addArcOf_118 : decode b_S_addArcOf 118 = .ok (.aload_n 0, 1) := by decide +kernel
theorem d_S_addArcOf_119 : decode b_S_addArcOf 119 = .ok (.getfield 29, 3) := by decide +kernel
theorem d_S_addArcOf_122 : decode b_S_addArcOf 122 = .ok (.iload_n 3, 1) := by decide +kernel
theorem d_S_addArcOf_123 : decode b_S_addArcOf 123 = .ok (.baload, 1) := by decide +kernel
theorem d_S_addArcOf_124 : decode b_S_addArcOf 124 = .ok (.ifCond .eq 66, 3) := by decide +kernel
theorem d_S_addArcOf_127 : decode b_S_addArcOf 127 = .ok (.aload_n 0, 1) := by decide +kernel
theorem d_S_addArcOf_128 : decode b_S_addArcOf 128 = .ok (.getfield 39, 3) := by decide +kernel
theorem d_S_addArcOf_131 : decode b_S_addArcOf 131 = .ok (.new 71, 3) := by decide +kernel
theorem d_S_addArcOf_134 : decode b_S_addArcOf 134 = .ok (.dup, 1) := by decide +kernel
theorem d_S_addArcOf_135 : decode b_S_addArcOf 135 = .ok (.iconst 2, 1) := by decide +kernel
theorem d_S_addArcOf_136 : decode b_S_addArcOf 136 = .ok (.aload_n 0, 1) := by decide +kernel
theorem d_S_addArcOf_137 : decode b_S_addArcOf 137 = .ok (.getfield 22, 3) := by decide +kernel
theorem d_S_addArcOf_140 : decode b_S_addArcOf 140 = .ok (.iload_n 1, 1) := by decide +kernel
theorem d_S_addArcOf_141 : decode b_S_addArcOf 141 = .ok (.iaload, 1) := by decide +kernel
theorem d_S_addArcOf_142 : decode b_S_addArcOf 142 = .ok (.imul, 1) := by decide +kernel
theorem d_S_addArcOf_143 : decode b_S_addArcOf 143 = .ok (.iconst 2, 1) := by decide +kernel
theorem d_S_addArcOf_144 : decode b_S_addArcOf 144 = .ok (.aload_n 0, 1) := by decide +kernel
theorem d_S_addArcOf_145 : decode b_S_addArcOf 145 = .ok (.getfield 26, 3) := by decide +kernel
theorem d_S_addArcOf_148 : decode b_S_addArcOf 148 = .ok (.iload_n 1, 1) := by decide +kernel
theorem d_S_addArcOf_149 : decode b_S_addArcOf 149 = .ok (.iaload, 1) := by decide +kernel
theorem d_S_addArcOf_150 : decode b_S_addArcOf 150 = .ok (.imul, 1) := by decide +kernel
theorem d_S_addArcOf_151 : decode b_S_addArcOf 151 = .ok (.iconst 2, 1) := by decide +kernel
theorem d_S_addArcOf_152 : decode b_S_addArcOf 152 = .ok (.aload_n 0, 1) := by decide +kernel
theorem d_S_addArcOf_153 : decode b_S_addArcOf 153 = .ok (.getfield 22, 3) := by decide +kernel
theorem d_S_addArcOf_156 : decode b_S_addArcOf 156 = .ok (.iload_n 1, 1) := by decide +kernel
theorem d_S_addArcOf_157 : decode b_S_addArcOf 157 = .ok (.iaload, 1) := by decide +kernel
theorem d_S_addArcOf_158 : decode b_S_addArcOf 158 = .ok (.imul, 1) := by decide +kernel
theorem d_S_addArcOf_159 : decode b_S_addArcOf 159 = .ok (.iconst 2, 1) := by decide +kernel
theorem d_S_addArcOf_160 : decode b_S_addArcOf 160 = .ok (.aload_n 0, 1) := by decide +kernel
theorem d_S_addArcOf_161 : decode b_S_addArcOf 161 = .ok (.getfield 26, 3) := by decide +kernel
theorem d_S_addArcOf_164 : decode b_S_addArcOf 164 = .ok (.iload_n 1, 1) := by decide +kernel
theorem d_S_addArcOf_165 : decode b_S_addArcOf 165 = .ok (.iaload, 1) := by decide +kernel
theorem d_S_addArcOf_166 : decode b_S_addArcOf 166 = .ok (.imul, 1) := by decide +kernel
theorem d_S_addArcOf_167 : decode b_S_addArcOf 167 = .ok (.iconst 2, 1) := by decide +kernel
theorem d_S_addArcOf_168 : decode b_S_addArcOf 168 = .ok (.aload_n 0, 1) := by decide +kernel
theorem d_S_addArcOf_169 : decode b_S_addArcOf 169 = .ok (.getfield 22, 3) := by decide +kernel
theorem d_S_addArcOf_172 : decode b_S_addArcOf 172 = .ok (.iload_n 3, 1) := by decide +kernel
theorem d_S_addArcOf_173 : decode b_S_addArcOf 173 = .ok (.iaload, 1) := by decide +kernel
theorem d_S_addArcOf_174 : decode b_S_addArcOf 174 = .ok (.imul, 1) := by decide +kernel
theorem d_S_addArcOf_175 : decode b_S_addArcOf 175 = .ok (.iconst 2, 1) := by decide +kernel
theorem d_S_addArcOf_176 : decode b_S_addArcOf 176 = .ok (.aload_n 0, 1) := by decide +kernel
theorem d_S_addArcOf_177 : decode b_S_addArcOf 177 = .ok (.getfield 26, 3) := by decide +kernel
theorem d_S_addArcOf_180 : decode b_S_addArcOf 180 = .ok (.iload_n 3, 1) := by decide +kernel
theorem d_S_addArcOf_181 : decode b_S_addArcOf 181 = .ok (.iaload, 1) := by decide +kernel
theorem d_S_addArcOf_182 : decode b_S_addArcOf 182 = .ok (.imul, 1) := by decide +kernel
theorem d_S_addArcOf_183 : decode b_S_addArcOf 183 = .ok (.invokespecial 93, 3) := by decide +kernel
theorem d_S_addArcOf_186 : decode b_S_addArcOf 186 = .ok (.invokevirtual 96, 3) := by decide +kernel
theorem d_S_addArcOf_189 : decode b_S_addArcOf 189 = .ok (.pop, 1) := by decide +kernel
theorem d_S_addArcOf_190 : decode b_S_addArcOf 190 = .ok (.return_, 1) := by decide +kernel
theorem d_S_joint_0 : decode b_S_joint 0 = .ok (.aload_n 0, 1) := by decide +kernel
theorem d_S_joint_1 : decode b_S_joint 1 = .ok (.getfield 29, 3) := by decide +kernel
theorem d_S_joint_4 : decode b_S_joint 4 = .ok (.iload_n 2, 1) := by decide +kernel
theorem d_S_joint_5 : decode b_S_joint 5 = .ok (.baload, 1) := by decide +kernel
theorem d_S_joint_6 : decode b_S_joint 6 = .ok (.ifCond .eq 11, 3) := by decide +kernel
theorem d_S_joint_9 : decode b_S_joint 9 = .ok (.iconst 2, 1) := by decide +kernel
theorem d_S_joint_10 : decode b_S_joint 10 = .ok (.aload_n 1, 1) := by decide +kernel
theorem d_S_joint_11 : decode b_S_joint 11 = .ok (.iload_n 2, 1) := by decide +kernel
theorem d_S_joint_12 : decode b_S_joint 12 = .ok (.iaload, 1) := by decide +kernel
theorem d_S_joint_13 : decode b_S_joint 13 = .ok (.imul, 1) := by decide +kernel
theorem d_S_joint_14 : decode b_S_joint 14 = .ok (.goto 10, 3) := by decide +kernel
theorem d_S_joint_17 : decode b_S_joint 17 = .ok (.aload_n 1, 1) := by decide +kernel
theorem d_S_joint_18 : decode b_S_joint 18 = .ok (.iload_n 2, 1) := by decide +kernel
theorem d_S_joint_19 : decode b_S_joint 19 = .ok (.iaload, 1) := by decide +kernel
theorem d_S_joint_20 : decode b_S_joint 20 = .ok (.aload_n 1, 1) := by decide +kernel
theorem d_S_joint_21 : decode b_S_joint 21 = .ok (.iload_n 3, 1) := by decide +kernel
theorem d_S_joint_22 : decode b_S_joint 22 = .ok (.iaload, 1) := by decide +kernel
theorem d_S_joint_23 : decode b_S_joint 23 = .ok (.iadd, 1) := by decide +kernel
theorem d_S_joint_24 : decode b_S_joint 24 = .ok (.ireturn, 1) := by decide +kernel
theorem d_S_clear_0 : decode b_S_clear 0 = .ok (.aload_n 0, 1) := by decide +kernel
theorem d_S_clear_1 : decode b_S_clear 1 = .ok (.getfield 57, 3) := by decide +kernel
theorem d_S_clear_4 : decode b_S_clear 4 = .ok (.istore_n 1, 1) := by decide +kernel
theorem d_S_clear_5 : decode b_S_clear 5 = .ok (.aload_n 0, 1) := by decide +kernel
theorem d_S_clear_6 : decode b_S_clear 6 = .ok (.getfield 39, 3) := by decide +kernel
theorem d_S_clear_9 : decode b_S_clear 9 = .ok (.invokevirtual 60, 3) := by decide +kernel
theorem d_S_clear_12 : decode b_S_clear 12 = .ok (.aload_n 0, 1) := by decide +kernel
theorem d_S_clear_13 : decode b_S_clear 13 = .ok (.iconst 0, 1) := by decide +kernel
theorem d_S_clear_14 : decode b_S_clear 14 = .ok (.putfield 50, 3) := by decide +kernel
theorem d_S_clear_17 : decode b_S_clear 17 = .ok (.aload_n 0, 1) := by decide +kernel
theorem d_S_clear_18 : decode b_S_clear 18 = .ok (.iconst 0, 1) := by decide +kernel
theorem d_S_clear_19 : decode b_S_clear 19 = .ok (.putfield 47, 3) := by decide +kernel
theorem d_S_clear_22 : decode b_S_clear 22 = .ok (.aload_n 0, 1) := by decide +kernel
theorem d_S_clear_23 : decode b_S_clear 23 = .ok (.iconst 0, 1) := by decide +kernel
theorem d_S_clear_24 : decode b_S_clear 24 = .ok (.putfield 57, 3) := by decide +kernel
theorem d_S_clear_27 : decode b_S_clear 27 = .ok (.iload_n 1, 1) := by decide +kernel
theorem d_S_clear_28 : decode b_S_clear 28 = .ok (.ireturn, 1) := by decide +kernel
theorem d_S_winding_0 : decode b_S_winding 0 = .ok (.iload_n 1, 1) := by decide +kernel
theorem d_S_winding_1 : decode b_S_winding 1 = .ok (.invokestatic 43, 3) := by decide +kernel
theorem d_S_winding_4 : decode b_S_winding 4 = .ok (.ifCond .eq 10, 3) := by decide +kernel
theorem d_S_winding_7 : decode b_S_winding 7 = .ok (.iload_n 2, 1) := by decide +kernel
theorem d_S_winding_8 : decode b_S_winding 8 = .ok (.invokestatic 43, 3) := by decide +kernel
theorem d_S_winding_11 : decode b_S_winding 11 = .ok (.ifCond .ne 7, 3) := by decide +kernel
theorem d_S_winding_14 : decode b_S_winding 14 = .ok (.sipush 2000, 3) := by decide +kernel
theorem d_S_winding_17 : decode b_S_winding 17 = .ok (.ireturn, 1) := by decide +kernel
theorem d_S_winding_18 : decode b_S_winding 18 = .ok (.iconst 0, 1) := by decide +kernel
theorem d_S_winding_19 : decode b_S_winding 19 = .ok (.istore_n 3, 1) := by decide +kernel
theorem d_S_winding_20 : decode b_S_winding 20 = .ok (.iconst 0, 1) := by decide +kernel
theorem d_S_winding_21 : decode b_S_winding 21 = .ok (.istore 4, 2) := by decide +kernel
theorem d_S_winding_23 : decode b_S_winding 23 = .ok (.iload 4, 2) := by decide +kernel
theorem d_S_winding_25 : decode b_S_winding 25 = .ok (.aload_n 0, 1) := by decide +kernel
theorem d_S_winding_26 : decode b_S_winding 26 = .ok (.getfield 39, 3) := by decide +kernel
theorem d_S_winding_29 : decode b_S_winding 29 = .ok (.invokevirtual 63, 3) := by decide +kernel
theorem d_S_winding_32 : decode b_S_winding 32 = .ok (.if_icmp .ge 49, 3) := by decide +kernel
theorem d_S_winding_35 : decode b_S_winding 35 = .ok (.aload_n 0, 1) := by decide +kernel
theorem d_S_winding_36 : decode b_S_winding 36 = .ok (.getfield 39, 3) := by decide +kernel
theorem d_S_winding_39 : decode b_S_winding 39 = .ok (.iload 4, 2) := by decide +kernel
theorem d_S_winding_41 : decode b_S_winding 41 = .ok (.invokevirtual 67, 3) := by decide +kernel
theorem d_S_winding_44 : decode b_S_winding 44 = .ok (.checkcast 71, 3) := by decide +kernel
theorem d_S_winding_47 : decode b_S_winding 47 = .ok (.iconst 2, 1) := by decide +kernel
theorem d_S_winding_48 : decode b_S_winding 48 = .ok (.iload_n 1, 1) := by decide +kernel
theorem d_S_winding_49 : decode b_S_winding 49 = .ok (.imul, 1) := by decide +kernel
theorem d_S_winding_50 : decode b_S_winding 50 = .ok (.iconst 2, 1) := by decide +kernel
theorem d_S_winding_51 : decode b_S_winding 51 = .ok (.iload_n 2, 1) := by decide +kernel
theorem d_S_winding_52 : decode b_S_winding 52 = .ok (.imul, 1) := by decide +kernel
theorem d_S_winding_53 : decode b_S_winding 53 = .ok (.invokevirtual 73, 3) := by decide +kernel
theorem d_S_winding_56 : decode b_S_winding 56 = .ok (.istore 5, 2) := by decide +kernel
theorem d_S_winding_58 : decode b_S_winding 58 = .ok (.iload 5, 2) := by decide +kernel
theorem d_S_winding_60 : decode b_S_winding 60 = .ok (.sipush 1000, 3) := by decide +kernel
theorem d_S_winding_63 : decode b_S_winding 63 = .ok (.if_icmp .ne 7, 3) := by decide +kernel
theorem d_S_winding_66 : decode b_S_winding 66 = .ok (.sipush 1000, 3) := by decide +kernel
theorem d_S_winding_69 : decode b_S_winding 69 = .ok (.ireturn, 1) := by decide +kernel
theorem d_S_winding_70 : decode b_S_winding 70 = .ok (.iload_n 3, 1) := by decide +kernel
theorem d_S_winding_71 : decode b_S_winding 71 = .ok (.iload 5, 2) := by decide +kernel
theorem d_S_winding_73 : decode b_S_winding 73 = .ok (.iadd, 1) := by decide +kernel
theorem d_S_winding_74 : decode b_S_winding 74 = .ok (.istore_n 3, 1) := by decide +kernel
theorem d_S_winding_75 : decode b_S_winding 75 = .ok (.iinc 4 1, 3) := by decide +kernel
theorem d_S_winding_78 : decode b_S_winding 78 = .ok (.goto (-55), 3) := by decide +kernel
theorem d_S_winding_81 : decode b_S_winding 81 = .ok (.iload_n 3, 1) := by decide +kernel
theorem d_S_winding_82 : decode b_S_winding 82 = .ok (.ireturn, 1) := by decide +kernel
theorem d_S_row_0 : decode b_S_row 0 = .ok (.iload_n 1, 1) := by decide +kernel
theorem d_S_row_1 : decode b_S_row 1 = .ok (.sipush (-300), 3) := by decide +kernel
theorem d_S_row_4 : decode b_S_row 4 = .ok (.if_icmp .lt 10, 3) := by decide +kernel
theorem d_S_row_7 : decode b_S_row 7 = .ok (.iload_n 1, 1) := by decide +kernel
theorem d_S_row_8 : decode b_S_row 8 = .ok (.sipush 300, 3) := by decide +kernel
theorem d_S_row_11 : decode b_S_row 11 = .ok (.if_icmp .le 5, 3) := by decide +kernel
theorem d_S_row_14 : decode b_S_row 14 = .ok (.lconst 0, 1) := by decide +kernel
theorem d_S_row_15 : decode b_S_row 15 = .ok (.lreturn, 1) := by decide +kernel
theorem d_S_row_16 : decode b_S_row 16 = .ok (.sipush 128, 3) := by decide +kernel
theorem d_S_row_19 : decode b_S_row 19 = .ok (.iload_n 1, 1) := by decide +kernel
theorem d_S_row_20 : decode b_S_row 20 = .ok (.imul, 1) := by decide +kernel
theorem d_S_row_21 : decode b_S_row 21 = .ok (.bipush 64, 2) := by decide +kernel
theorem d_S_row_23 : decode b_S_row 23 = .ok (.iadd, 1) := by decide +kernel
theorem d_S_row_24 : decode b_S_row 24 = .ok (.istore_n 2, 1) := by decide +kernel
theorem d_S_row_25 : decode b_S_row 25 = .ok (.lconst 0, 1) := by decide +kernel
theorem d_S_row_26 : decode b_S_row 26 = .ok (.lstore_n 3, 1) := by decide +kernel
theorem d_S_row_27 : decode b_S_row 27 = .ok (.aload_n 0, 1) := by decide +kernel
theorem d_S_row_28 : decode b_S_row 28 = .ok (.getfield 33, 3) := by decide +kernel
theorem d_S_row_31 : decode b_S_row 31 = .ok (.iconst 0, 1) := by decide +kernel
theorem d_S_row_32 : decode b_S_row 32 = .ok (.invokestatic 76, 3) := by decide +kernel
theorem d_S_row_35 : decode b_S_row 35 = .ok (.iconst 0, 1) := by decide +kernel
theorem d_S_row_36 : decode b_S_row 36 = .ok (.istore 5, 2) := by decide +kernel
theorem d_S_row_38 : decode b_S_row 38 = .ok (.iload 5, 2) := by decide +kernel
theorem d_S_row_40 : decode b_S_row 40 = .ok (.aload_n 0, 1) := by decide +kernel
theorem d_S_row_41 : decode b_S_row 41 = .ok (.getfield 39, 3) := by decide +kernel
theorem d_S_row_44 : decode b_S_row 44 = .ok (.invokevirtual 63, 3) := by decide +kernel
theorem d_S_row_47 : decode b_S_row 47 = .ok (.if_icmp .ge 42, 3) := by decide +kernel
theorem d_S_row_50 : decode b_S_row 50 = .ok (.aload_n 0, 1) := by decide +kernel
theorem d_S_row_51 : decode b_S_row 51 = .ok (.getfield 39, 3) := by decide +kernel
theorem d_S_row_54 : decode b_S_row 54 = .ok (.iload 5, 2) := by decide +kernel
theorem d_S_row_56 : decode b_S_row 56 = .ok (.invokevirtual 67, 3) := by decide +kernel
theorem d_S_row_59 : decode b_S_row 59 = .ok (.checkcast 71, 3) := by decide +kernel
theorem d_S_row_62 : decode b_S_row 62 = .ok (.astore 6, 2) := by decide +kernel
theorem d_S_row_64 : decode b_S_row 64 = .ok (.aload 6, 2) := by decide +kernel
theorem d_S_row_66 : decode b_S_row 66 = .ok (.iload_n 2, 1) := by decide +kernel
theorem d_S_row_67 : decode b_S_row 67 = .ok (.invokevirtual 82, 3) := by decide +kernel
theorem d_S_row_70 : decode b_S_row 70 = .ok (.ifCond .eq 13, 3) := by decide +kernel
theorem d_S_row_73 : decode b_S_row 73 = .ok (.lload_n 3, 1) := by decide +kernel
theorem d_S_row_74 : decode b_S_row 74 = .ok (.aload_n 0, 1) := by decide +kernel
theorem d_S_row_75 : decode b_S_row 75 = .ok (.aload 6, 2) := by decide +kernel
theorem d_S_row_77 : decode b_S_row 77 = .ok (.iload_n 2, 1) := by decide +kernel
theorem d_S_row_78 : decode b_S_row 78 = .ok (.invokevirtual 85, 3) := by decide +kernel
theorem d_S_row_81 : decode b_S_row 81 = .ok (.lor, 1) := by decide +kernel
theorem d_S_row_82 : decode b_S_row 82 = .ok (.lstore_n 3, 1) := by decide +kernel
theorem d_S_row_83 : decode b_S_row 83 = .ok (.iinc 5 1, 3) := by decide +kernel
theorem d_S_row_86 : decode b_S_row 86 = .ok (.goto (-48), 3) := by decide +kernel
theorem d_S_row_89 : decode b_S_row 89 = .ok (.iconst 0, 1) := by decide +kernel
theorem d_S_row_90 : decode b_S_row 90 = .ok (.istore 5, 2) := by decide +kernel
theorem d_S_row_92 : decode b_S_row 92 = .ok (.iload 5, 2) := by decide +kernel
theorem d_S_row_94 : decode b_S_row 94 = .ok (.aload_n 0, 1) := by decide +kernel
theorem d_S_row_95 : decode b_S_row 95 = .ok (.getfield 18, 3) := by decide +kernel
theorem d_S_row_98 : decode b_S_row 98 = .ok (.if_icmp .ge 26, 3) := by decide +kernel
theorem d_S_row_101 : decode b_S_row 101 = .ok (.aload_n 0, 1) := by decide +kernel
theorem d_S_row_102 : decode b_S_row 102 = .ok (.getfield 33, 3) := by decide +kernel
theorem d_S_row_105 : decode b_S_row 105 = .ok (.iload 5, 2) := by decide +kernel
theorem d_S_row_107 : decode b_S_row 107 = .ok (.iaload, 1) := by decide +kernel
theorem d_S_row_108 : decode b_S_row 108 = .ok (.ifCond .eq 10, 3) := by decide +kernel
theorem d_S_row_111 : decode b_S_row 111 = .ok (.lload_n 3, 1) := by decide +kernel
theorem d_S_row_112 : decode b_S_row 112 = .ok (.lconst 1, 1) := by decide +kernel
theorem d_S_row_113 : decode b_S_row 113 = .ok (.iload 5, 2) := by decide +kernel
theorem d_S_row_115 : decode b_S_row 115 = .ok (.lshl, 1) := by decide +kernel
theorem d_S_row_116 : decode b_S_row 116 = .ok (.lor, 1) := by decide +kernel
theorem d_S_row_117 : decode b_S_row 117 = .ok (.lstore_n 3, 1) := by decide +kernel
theorem d_S_row_118 : decode b_S_row 118 = .ok (.iinc 5 1, 3) := by decide +kernel
theorem d_S_row_121 : decode b_S_row 121 = .ok (.goto (-29), 3) := by decide +kernel
theorem d_S_row_124 : decode b_S_row 124 = .ok (.lload_n 3, 1) := by decide +kernel
theorem d_S_row_125 : decode b_S_row 125 = .ok (.lreturn, 1) := by decide +kernel
theorem d_S_addRowTurns_0 : decode b_S_addRowTurns 0 = .ok (.lconst 0, 1) := by decide +kernel
theorem d_S_addRowTurns_1 : decode b_S_addRowTurns 1 = .ok (.lstore_n 3, 1) := by decide +kernel
theorem d_S_addRowTurns_2 : decode b_S_addRowTurns 2 = .ok (.iconst 0, 1) := by decide +kernel
theorem d_S_addRowTurns_3 : decode b_S_addRowTurns 3 = .ok (.istore 5, 2) := by decide +kernel
theorem d_S_addRowTurns_5 : decode b_S_addRowTurns 5 = .ok (.iload 5, 2) := by decide +kernel
theorem d_S_addRowTurns_7 : decode b_S_addRowTurns 7 = .ok (.aload_n 0, 1) := by decide +kernel
theorem d_S_addRowTurns_8 : decode b_S_addRowTurns 8 = .ok (.getfield 18, 3) := by decide +kernel
theorem d_S_addRowTurns_11 : decode b_S_addRowTurns 11 = .ok (.if_icmp .ge 55, 3) := by decide +kernel
theorem d_S_addRowTurns_14 : decode b_S_addRowTurns 14 = .ok (.aload_n 1, 1) := by decide +kernel
theorem d_S_addRowTurns_15 : decode b_S_addRowTurns 15 = .ok (.sipush 128, 3) := by decide +kernel
theorem d_S_addRowTurns_18 : decode b_S_addRowTurns 18 = .ok (.iload 5, 2) := by decide +kernel
theorem d_S_addRowTurns_20 : decode b_S_addRowTurns 20 = .ok (.imul, 1) := by decide +kernel
theorem d_S_addRowTurns_21 : decode b_S_addRowTurns 21 = .ok (.bipush 64, 2) := by decide +kernel
theorem d_S_addRowTurns_23 : decode b_S_addRowTurns 23 = .ok (.iadd, 1) := by decide +kernel
theorem d_S_addRowTurns_24 : decode b_S_addRowTurns 24 = .ok (.iload_n 2, 1) := by decide +kernel
theorem d_S_addRowTurns_25 : decode b_S_addRowTurns 25 = .ok (.invokevirtual 73, 3) := by decide +kernel
theorem d_S_addRowTurns_28 : decode b_S_addRowTurns 28 = .ok (.istore 6, 2) := by decide +kernel
theorem d_S_addRowTurns_30 : decode b_S_addRowTurns 30 = .ok (.iload 6, 2) := by decide +kernel
theorem d_S_addRowTurns_32 : decode b_S_addRowTurns 32 = .ok (.sipush 1000, 3) := by decide +kernel
theorem d_S_addRowTurns_35 : decode b_S_addRowTurns 35 = .ok (.if_icmp .ne 13, 3) := by decide +kernel
theorem d_S_addRowTurns_38 : decode b_S_addRowTurns 38 = .ok (.lload_n 3, 1) := by decide +kernel
theorem d_S_addRowTurns_39 : decode b_S_addRowTurns 39 = .ok (.lconst 1, 1) := by decide +kernel
theorem d_S_addRowTurns_40 : decode b_S_addRowTurns 40 = .ok (.iload 5, 2) := by decide +kernel
theorem d_S_addRowTurns_42 : decode b_S_addRowTurns 42 = .ok (.lshl, 1) := by decide +kernel
theorem d_S_addRowTurns_43 : decode b_S_addRowTurns 43 = .ok (.lor, 1) := by decide +kernel
theorem d_S_addRowTurns_44 : decode b_S_addRowTurns 44 = .ok (.lstore_n 3, 1) := by decide +kernel
theorem d_S_addRowTurns_45 : decode b_S_addRowTurns 45 = .ok (.goto 15, 3) := by decide +kernel
theorem d_S_addRowTurns_48 : decode b_S_addRowTurns 48 = .ok (.aload_n 0, 1) := by decide +kernel
theorem d_S_addRowTurns_49 : decode b_S_addRowTurns 49 = .ok (.getfield 33, 3) := by decide +kernel
theorem d_S_addRowTurns_52 : decode b_S_addRowTurns 52 = .ok (.iload 5, 2) := by decide +kernel
theorem d_S_addRowTurns_54 : decode b_S_addRowTurns 54 = .ok (.dup2, 1) := by decide +kernel
theorem d_S_addRowTurns_55 : decode b_S_addRowTurns 55 = .ok (.iaload, 1) := by decide +kernel
theorem d_S_addRowTurns_56 : decode b_S_addRowTurns 56 = .ok (.iload 6, 2) := by decide +kernel
theorem d_S_addRowTurns_58 : decode b_S_addRowTurns 58 = .ok (.iadd, 1) := by decide +kernel
theorem d_S_addRowTurns_59 : decode b_S_addRowTurns 59 = .ok (.iastore, 1) := by decide +kernel
theorem d_S_addRowTurns_60 : decode b_S_addRowTurns 60 = .ok (.iinc 5 1, 3) := by decide +kernel
theorem d_S_addRowTurns_63 : decode b_S_addRowTurns 63 = .ok (.goto (-58), 3) := by decide +kernel
theorem d_S_addRowTurns_66 : decode b_S_addRowTurns 66 = .ok (.lload_n 3, 1) := by decide +kernel
theorem d_S_addRowTurns_67 : decode b_S_addRowTurns 67 = .ok (.lreturn, 1) := by decide +kernel
theorem d_S_count_0 : decode b_S_count 0 = .ok (.iload_n 1, 1) := by decide +kernel
theorem d_S_count_1 : decode b_S_count 1 = .ok (.tableswitch 56 0 3 #[31, 36, 41, 51], 31) := by decide +kernel
theorem d_S_count_32 : decode b_S_count 32 = .ok (.aload_n 0, 1) := by decide +kernel
theorem d_S_count_33 : decode b_S_count 33 = .ok (.getfield 18, 3) := by decide +kernel
theorem d_S_count_36 : decode b_S_count 36 = .ok (.ireturn, 1) := by decide +kernel
theorem d_S_count_37 : decode b_S_count 37 = .ok (.aload_n 0, 1) := by decide +kernel
theorem d_S_count_38 : decode b_S_count 38 = .ok (.getfield 57, 3) := by decide +kernel
theorem d_S_count_41 : decode b_S_count 41 = .ok (.ireturn, 1) := by decide +kernel
theorem d_S_count_42 : decode b_S_count 42 = .ok (.aload_n 0, 1) := by decide +kernel
theorem d_S_count_43 : decode b_S_count 43 = .ok (.getfield 47, 3) := by decide +kernel
theorem d_S_count_46 : decode b_S_count 46 = .ok (.aload_n 0, 1) := by decide +kernel
theorem d_S_count_47 : decode b_S_count 47 = .ok (.getfield 50, 3) := by decide +kernel
theorem d_S_count_50 : decode b_S_count 50 = .ok (.iadd, 1) := by decide +kernel
theorem d_S_count_51 : decode b_S_count 51 = .ok (.ireturn, 1) := by decide +kernel
theorem d_S_count_52 : decode b_S_count 52 = .ok (.aload_n 0, 1) := by decide +kernel
theorem d_S_count_53 : decode b_S_count 53 = .ok (.getfield 50, 3) := by decide +kernel
theorem d_S_count_56 : decode b_S_count 56 = .ok (.ireturn, 1) := by decide +kernel
theorem d_S_count_57 : decode b_S_count 57 = .ok (.iconst (-1), 1) := by decide +kernel
theorem d_S_count_58 : decode b_S_count 58 = .ok (.ireturn, 1) := by decide +kernel
