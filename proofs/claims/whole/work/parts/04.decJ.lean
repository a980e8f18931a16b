theorem d_H_min_0 : decode b_H_min 0 = .ok (.iload_n 0, 1) := by decide +kernel
theorem d_H_min_1 : decode b_H_min 1 = .ok (.iload_n 1, 1) := by decide +kernel
theorem d_H_min_2 : decode b_H_min 2 = .ok (.if_icmp .gt 7, 3) := by decide +kernel
theorem d_H_min_5 : decode b_H_min 5 = .ok (.iload_n 0, 1) := by decide +kernel
theorem d_H_min_6 : decode b_H_min 6 = .ok (.goto 4, 3) := by decide +kernel
theorem d_H_min_9 : decode b_H_min 9 = .ok (.iload_n 1, 1) := by decide +kernel
theorem d_H_min_10 : decode b_H_min 10 = .ok (.ireturn, 1) := by decide +kernel
theorem d_H_max_0 : decode b_H_max 0 = .ok (.iload_n 0, 1) := by decide +kernel
theorem d_H_max_1 : decode b_H_max 1 = .ok (.iload_n 1, 1) := by decide +kernel
theorem d_H_max_2 : decode b_H_max 2 = .ok (.if_icmp .lt 7, 3) := by decide +kernel
theorem d_H_max_5 : decode b_H_max 5 = .ok (.iload_n 0, 1) := by decide +kernel
theorem d_H_max_6 : decode b_H_max 6 = .ok (.goto 4, 3) := by decide +kernel
theorem d_H_max_9 : decode b_H_max 9 = .ok (.iload_n 1, 1) := by decide +kernel
theorem d_H_max_10 : decode b_H_max 10 = .ok (.ireturn, 1) := by decide +kernel
theorem d_T_init_0 : decode b_T_init 0 = .ok (.aload_n 0, 1) := by decide +kernel
theorem d_T_init_1 : decode b_T_init 1 = .ok (.invokespecial 1, 3) := by decide +kernel
theorem d_T_init_4 : decode b_T_init 4 = .ok (.aload_n 0, 1) := by decide +kernel
theorem d_T_init_5 : decode b_T_init 5 = .ok (.getstatic 39, 3) := by decide +kernel
theorem d_T_init_8 : decode b_T_init 8 = .ok (.putfield 9, 3) := by decide +kernel
theorem d_T_init_11 : decode b_T_init 11 = .ok (.return_, 1) := by decide +kernel
theorem d_U_init_0 : decode b_U_init 0 = .ok (.aload_n 0, 1) := by decide +kernel
theorem d_U_init_1 : decode b_U_init 1 = .ok (.invokespecial 1, 3) := by decide +kernel
theorem d_U_init_4 : decode b_U_init 4 = .ok (.aload_n 0, 1) := by decide +kernel
theorem d_U_init_5 : decode b_U_init 5 = .ok (.iconst 0, 1) := by decide +kernel
theorem d_U_init_6 : decode b_U_init 6 = .ok (.putfield 7, 3) := by decide +kernel
theorem d_U_init_9 : decode b_U_init 9 = .ok (.return_, 1) := by decide +kernel
theorem d_V_init_0 : decode b_V_init 0 = .ok (.aload_n 0, 1) := by decide +kernel
theorem d_V_init_1 : decode b_V_init 1 = .ok (.invokespecial 1, 3) := by decide +kernel
theorem d_V_init_4 : decode b_V_init 4 = .ok (.return_, 1) := by decide +kernel
theorem d_T_add1_0 : decode b_T_add1 0 = .ok (.aload_n 0, 1) := by decide +kernel
theorem d_T_add1_1 : decode b_T_add1 1 = .ok (.dup, 1) := by decide +kernel
theorem d_T_add1_2 : decode b_T_add1 2 = .ok (.getfield 63, 3) := by decide +kernel
theorem d_T_add1_5 : decode b_T_add1 5 = .ok (.iconst 1, 1) := by decide +kernel
theorem d_T_add1_6 : decode b_T_add1 6 = .ok (.iadd, 1) := by decide +kernel
theorem d_T_add1_7 : decode b_T_add1 7 = .ok (.putfield 63, 3) := by decide +kernel
theorem d_T_add1_10 : decode b_T_add1 10 = .ok (.aload_n 0, 1) := by decide +kernel
theorem d_T_add1_11 : decode b_T_add1 11 = .ok (.aload_n 1, 1) := by decide +kernel
theorem d_T_add1_12 : decode b_T_add1 12 = .ok (.aload_n 0, 1) := by decide +kernel
theorem d_T_add1_13 : decode b_T_add1 13 = .ok (.getfield 9, 3) := by decide +kernel
theorem d_T_add1_16 : decode b_T_add1 16 = .ok (.aload_n 0, 1) := by decide +kernel
theorem d_T_add1_17 : decode b_T_add1 17 = .ok (.getfield 48, 3) := by decide +kernel
theorem d_T_add1_20 : decode b_T_add1 20 = .ok (.invokevirtual 131, 3) := by decide +kernel
theorem d_T_add1_23 : decode b_T_add1 23 = .ok (.iconst 1, 1) := by decide +kernel
theorem d_T_add1_24 : decode b_T_add1 24 = .ok (.ireturn, 1) := by decide +kernel
theorem d_T_add2_0 : decode b_T_add2 0 = .ok (.iload_n 3, 1) := by decide +kernel
theorem d_T_add2_1 : decode b_T_add2 1 = .ok (.aload_n 2, 1) := by decide +kernel
theorem d_T_add2_2 : decode b_T_add2 2 = .ok (.arraylength, 1) := by decide +kernel
theorem d_T_add2_3 : decode b_T_add2 3 = .ok (.if_icmp .ne 8, 3) := by decide +kernel
theorem d_T_add2_6 : decode b_T_add2 6 = .ok (.aload_n 0, 1) := by decide +kernel
theorem d_T_add2_7 : decode b_T_add2 7 = .ok (.invokevirtual 129, 3) := by decide +kernel
theorem d_T_add2_10 : decode b_T_add2 10 = .ok (.astore_n 2, 1) := by decide +kernel
theorem d_T_add2_11 : decode b_T_add2 11 = .ok (.aload_n 2, 1) := by decide +kernel
theorem d_T_add2_12 : decode b_T_add2 12 = .ok (.iload_n 3, 1) := by decide +kernel
theorem d_T_add2_13 : decode b_T_add2 13 = .ok (.aload_n 1, 1) := by decide +kernel
theorem d_T_add2_14 : decode b_T_add2 14 = .ok (.aastore, 1) := by decide +kernel
theorem d_T_add2_15 : decode b_T_add2 15 = .ok (.aload_n 0, 1) := by decide +kernel
theorem d_T_add2_16 : decode b_T_add2 16 = .ok (.iload_n 3, 1) := by decide +kernel
theorem d_T_add2_17 : decode b_T_add2 17 = .ok (.iconst 1, 1) := by decide +kernel
theorem d_T_add2_18 : decode b_T_add2 18 = .ok (.iadd, 1) := by decide +kernel
theorem d_T_add2_19 : decode b_T_add2 19 = .ok (.putfield 48, 3) := by decide +kernel
theorem d_T_add2_22 : decode b_T_add2 22 = .ok (.return_, 1) := by decide +kernel
theorem d_T_grow1_0 : decode b_T_grow1 0 = .ok (.aload_n 0, 1) := by decide +kernel
theorem d_T_grow1_1 : decode b_T_grow1 1 = .ok (.aload_n 0, 1) := by decide +kernel
theorem d_T_grow1_2 : decode b_T_grow1 2 = .ok (.getfield 48, 3) := by decide +kernel
theorem d_T_grow1_5 : decode b_T_grow1 5 = .ok (.iconst 1, 1) := by decide +kernel
theorem d_T_grow1_6 : decode b_T_grow1 6 = .ok (.iadd, 1) := by decide +kernel
theorem d_T_grow1_7 : decode b_T_grow1 7 = .ok (.invokevirtual 69, 3) := by decide +kernel
theorem d_T_grow1_10 : decode b_T_grow1 10 = .ok (.areturn, 1) := by decide +kernel
theorem d_T_grow2_0 : decode b_T_grow2 0 = .ok (.aload_n 0, 1) := by decide +kernel
theorem d_T_grow2_1 : decode b_T_grow2 1 = .ok (.getfield 9, 3) := by decide +kernel
theorem d_T_grow2_4 : decode b_T_grow2 4 = .ok (.arraylength, 1) := by decide +kernel
theorem d_T_grow2_5 : decode b_T_grow2 5 = .ok (.istore_n 2, 1) := by decide +kernel
theorem d_T_grow2_6 : decode b_T_grow2 6 = .ok (.iload_n 2, 1) := by decide +kernel
theorem d_T_grow2_7 : decode b_T_grow2 7 = .ok (.ifCond .gt 13, 3) := by decide +kernel
theorem d_T_grow2_10 : decode b_T_grow2 10 = .ok (.aload_n 0, 1) := by decide +kernel
theorem d_T_grow2_11 : decode b_T_grow2 11 = .ok (.getfield 9, 3) := by decide +kernel
theorem d_T_grow2_14 : decode b_T_grow2 14 = .ok (.getstatic 39, 3) := by decide +kernel
theorem d_T_grow2_17 : decode b_T_grow2 17 = .ok (.if_acmp .eq 28, 3) := by decide +kernel
theorem d_T_grow2_20 : decode b_T_grow2 20 = .ok (.iload_n 2, 1) := by decide +kernel
theorem d_T_grow2_21 : decode b_T_grow2 21 = .ok (.iload_n 1, 1) := by decide +kernel
theorem d_T_grow2_22 : decode b_T_grow2 22 = .ok (.iload_n 2, 1) := by decide +kernel
theorem d_T_grow2_23 : decode b_T_grow2 23 = .ok (.isub, 1) := by decide +kernel
theorem d_T_grow2_24 : decode b_T_grow2 24 = .ok (.iload_n 2, 1) := by decide +kernel
theorem d_T_grow2_25 : decode b_T_grow2 25 = .ok (.iconst 1, 1) := by decide +kernel
theorem d_T_grow2_26 : decode b_T_grow2 26 = .ok (.ishr, 1) := by decide +kernel
theorem d_T_grow2_27 : decode b_T_grow2 27 = .ok (.invokestatic 73, 3) := by decide +kernel
theorem d_T_grow2_30 : decode b_T_grow2 30 = .ok (.istore_n 3, 1) := by decide +kernel
theorem d_T_grow2_31 : decode b_T_grow2 31 = .ok (.aload_n 0, 1) := by decide +kernel
theorem d_T_grow2_32 : decode b_T_grow2 32 = .ok (.aload_n 0, 1) := by decide +kernel
theorem d_T_grow2_33 : decode b_T_grow2 33 = .ok (.getfield 9, 3) := by decide +kernel
theorem d_T_grow2_36 : decode b_T_grow2 36 = .ok (.iload_n 3, 1) := by decide +kernel
theorem d_T_grow2_37 : decode b_T_grow2 37 = .ok (.invokestatic 66, 3) := by decide +kernel
theorem d_T_grow2_40 : decode b_T_grow2 40 = .ok (.dup_x1, 1) := by decide +kernel
theorem d_T_grow2_41 : decode b_T_grow2 41 = .ok (.putfield 9, 3) := by decide +kernel
theorem d_T_grow2_44 : decode b_T_grow2 44 = .ok (.areturn, 1) := by decide +kernel
theorem d_T_grow2_45 : decode b_T_grow2 45 = .ok (.aload_n 0, 1) := by decide +kernel
theorem d_T_grow2_46 : decode b_T_grow2 46 = .ok (.bipush 10, 2) := by decide +kernel
theorem d_T_grow2_48 : decode b_T_grow2 48 = .ok (.iload_n 1, 1) := by decide +kernel
theorem d_T_grow2_49 : decode b_T_grow2 49 = .ok (.invokestatic 79, 3) := by decide +kernel
theorem d_T_grow2_52 : decode b_T_grow2 52 = .ok (.anewarray 7, 3) := by decide +kernel
theorem d_T_grow2_55 : decode b_T_grow2 55 = .ok (.dup_x1, 1) := by decide +kernel
theorem d_T_grow2_56 : decode b_T_grow2 56 = .ok (.putfield 9, 3) := by decide +kernel
theorem d_T_grow2_59 : decode b_T_grow2 59 = .ok (.areturn, 1) := by decide +kernel
theorem d_P_newLength_0 : decode b_P_newLength 0 = .ok (.iload_n 0, 1) := by decide +kernel
theorem d_P_newLength_1 : decode b_P_newLength 1 = .ok (.iload_n 1, 1) := by decide +kernel
theorem d_P_newLength_2 : decode b_P_newLength 2 = .ok (.iload_n 2, 1) := by decide +kernel
theorem d_P_newLength_3 : decode b_P_newLength 3 = .ok (.invokestatic 194, 3) := by decide +kernel
theorem d_P_newLength_6 : decode b_P_newLength 6 = .ok (.iadd, 1) := by decide +kernel
theorem d_P_newLength_7 : decode b_P_newLength 7 = .ok (.istore_n 3, 1) := by decide +kernel
theorem d_P_newLength_8 : decode b_P_newLength 8 = .ok (.iconst 0, 1) := by decide +kernel
theorem d_P_newLength_9 : decode b_P_newLength 9 = .ok (.iload_n 3, 1) := by decide +kernel
theorem d_P_newLength_10 : decode b_P_newLength 10 = .ok (.if_icmp .ge 11, 3) := by decide +kernel
theorem d_P_newLength_13 : decode b_P_newLength 13 = .ok (.iload_n 3, 1) := by decide +kernel
theorem d_P_newLength_14 : decode b_P_newLength 14 = .ok (.ldc 200, 2) := by decide +kernel
theorem d_P_newLength_16 : decode b_P_newLength 16 = .ok (.if_icmp .gt 5, 3) := by decide +kernel
theorem d_P_newLength_19 : decode b_P_newLength 19 = .ok (.iload_n 3, 1) := by decide +kernel
theorem d_P_newLength_20 : decode b_P_newLength 20 = .ok (.ireturn, 1) := by decide +kernel
theorem d_P_newLength_21 : decode b_P_newLength 21 = .ok (.iload_n 0, 1) := by decide +kernel
theorem d_P_newLength_22 : decode b_P_newLength 22 = .ok (.iload_n 1, 1) := by decide +kernel
theorem d_P_newLength_23 : decode b_P_newLength 23 = .ok (.invokestatic 201, 3) := by decide +kernel
theorem d_P_newLength_26 : decode b_P_newLength 26 = .ok (.ireturn, 1) := by decide +kernel
theorem d_P_hugeLength_0 : decode b_P_hugeLength 0 = .ok (.iload_n 0, 1) := by decide +kernel
theorem d_P_hugeLength_1 : decode b_P_hugeLength 1 = .ok (.iload_n 1, 1) := by decide +kernel
theorem d_P_hugeLength_2 : decode b_P_hugeLength 2 = .ok (.iadd, 1) := by decide +kernel
theorem d_P_hugeLength_3 : decode b_P_hugeLength 3 = .ok (.istore_n 2, 1) := by decide +kernel
theorem d_P_hugeLength_4 : decode b_P_hugeLength 4 = .ok (.iload_n 2, 1) := by decide +kernel
theorem d_P_hugeLength_5 : decode b_P_hugeLength 5 = .ok (.ifCond .ge 44, 3) := by decide +kernel
theorem d_P_hugeLength_8 : decode b_P_hugeLength 8 = .ok (.new 204, 3) := by decide +kernel
theorem d_P_hugeLength_11 : decode b_P_hugeLength 11 = .ok (.dup, 1) := by decide +kernel
theorem d_P_hugeLength_12 : decode b_P_hugeLength 12 = .ok (.new 89, 3) := by decide +kernel
theorem d_P_hugeLength_15 : decode b_P_hugeLength 15 = .ok (.dup, 1) := by decide +kernel
theorem d_P_hugeLength_16 : decode b_P_hugeLength 16 = .ok (.invokespecial 91, 3) := by decide +kernel
theorem d_P_hugeLength_19 : decode b_P_hugeLength 19 = .ok (.ldc 206, 2) := by decide +kernel
theorem d_P_hugeLength_21 : decode b_P_hugeLength 21 = .ok (.invokevirtual 94, 3) := by decide +kernel
theorem d_P_hugeLength_24 : decode b_P_hugeLength 24 = .ok (.iload_n 0, 1) := by decide +kernel
theorem d_P_hugeLength_25 : decode b_P_hugeLength 25 = .ok (.invokevirtual 98, 3) := by decide +kernel
theorem d_P_hugeLength_28 : decode b_P_hugeLength 28 = .ok (.ldc 208, 2) := by decide +kernel
theorem d_P_hugeLength_30 : decode b_P_hugeLength 30 = .ok (.invokevirtual 94, 3) := by decide +kernel
theorem d_P_hugeLength_33 : decode b_P_hugeLength 33 = .ok (.iload_n 1, 1) := by decide +kernel
theorem d_P_hugeLength_34 : decode b_P_hugeLength 34 = .ok (.invokevirtual 98, 3) := by decide +kernel
theorem d_P_hugeLength_37 : decode b_P_hugeLength 37 = .ok (.ldc 210, 2) := by decide +kernel
theorem d_P_hugeLength_39 : decode b_P_hugeLength 39 = .ok (.invokevirtual 94, 3) := by decide +kernel
theorem d_P_hugeLength_42 : decode b_P_hugeLength 42 = .ok (.invokevirtual 101, 3) := by decide +kernel
theorem d_P_hugeLength_45 : decode b_P_hugeLength 45 = .ok (.invokespecial 212, 3) := by decide +kernel
theorem d_P_hugeLength_48 : decode b_P_hugeLength 48 = .ok (.athrow, 1) := by decide +kernel
theorem d_P_hugeLength_49 : decode b_P_hugeLength 49 = .ok (.iload_n 2, 1) := by decide +kernel
theorem d_P_hugeLength_50 : decode b_P_hugeLength 50 = .ok (.ldc 200, 2) := by decide +kernel
theorem d_P_hugeLength_52 : decode b_P_hugeLength 52 = .ok (.if_icmp .gt 6, 3) := by decide +kernel
theorem d_P_hugeLength_55 : decode b_P_hugeLength 55 = .ok (.ldc 200, 2) := by decide +kernel
theorem d_P_hugeLength_57 : decode b_P_hugeLength 57 = .ok (.ireturn, 1) := by decide +kernel
theorem d_P_hugeLength_58 : decode b_P_hugeLength 58 = .ok (.iload_n 2, 1) := by decide +kernel
theorem d_P_hugeLength_59 : decode b_P_hugeLength 59 = .ok (.ireturn, 1) := by decide +kernel
theorem d_Y_copyOf1_0 : decode b_Y_copyOf1 0 = .ok (.aload_n 0, 1) := by decide +kernel
theorem d_Y_copyOf1_1 : decode b_Y_copyOf1 1 = .ok (.iload_n 1, 1) := by decide +kernel
theorem d_Y_copyOf1_2 : decode b_Y_copyOf1 2 = .ok (.aload_n 0, 1) := by decide +kernel
theorem d_Y_copyOf1_3 : decode b_Y_copyOf1 3 = .ok (.invokevirtual 86, 3) := by decide +kernel
theorem d_Y_copyOf1_6 : decode b_Y_copyOf1 6 = .ok (.invokestatic 300, 3) := by decide +kernel
theorem d_Y_copyOf1_9 : decode b_Y_copyOf1 9 = .ok (.areturn, 1) := by decide +kernel
theorem d_Y_copyOf2_0 : decode b_Y_copyOf2 0 = .ok (.aload_n 2, 1) := by decide +kernel
theorem d_Y_copyOf2_1 : decode b_Y_copyOf2 1 = .ok (.ldc 110, 2) := by decide +kernel
theorem d_Y_copyOf2_3 : decode b_Y_copyOf2 3 = .ok (.if_acmp .ne 10, 3) := by decide +kernel
theorem d_Y_copyOf2_6 : decode b_Y_copyOf2 6 = .ok (.iload_n 1, 1) := by decide +kernel
theorem d_Y_copyOf2_7 : decode b_Y_copyOf2 7 = .ok (.anewarray 2, 3) := by decide +kernel
theorem d_Y_copyOf2_10 : decode b_Y_copyOf2 10 = .ok (.goto 14, 3) := by decide +kernel
theorem d_Y_copyOf2_13 : decode b_Y_copyOf2 13 = .ok (.aload_n 2, 1) := by decide +kernel
theorem d_Y_copyOf2_14 : decode b_Y_copyOf2 14 = .ok (.invokevirtual 90, 3) := by decide +kernel
theorem d_Y_copyOf2_17 : decode b_Y_copyOf2 17 = .ok (.iload_n 1, 1) := by decide +kernel
theorem d_Y_copyOf2_18 : decode b_Y_copyOf2 18 = .ok (.invokestatic 95, 3) := by decide +kernel
theorem d_Y_copyOf2_21 : decode b_Y_copyOf2 21 = .ok (.checkcast 110, 3) := by decide +kernel
theorem d_Y_copyOf2_24 : decode b_Y_copyOf2 24 = .ok (.astore_n 3, 1) := by decide +kernel
theorem d_Y_copyOf2_25 : decode b_Y_copyOf2 25 = .ok (.aload_n 0, 1) := by decide +kernel
theorem d_Y_copyOf2_26 : decode b_Y_copyOf2 26 = .ok (.iconst 0, 1) := by decide +kernel
theorem d_Y_copyOf2_27 : decode b_Y_copyOf2 27 = .ok (.aload_n 3, 1) := by decide +kernel
theorem d_Y_copyOf2_28 : decode b_Y_copyOf2 28 = .ok (.iconst 0, 1) := by decide +kernel
theorem d_Y_copyOf2_29 : decode b_Y_copyOf2 29 = .ok (.aload_n 0, 1) := by decide +kernel
theorem d_Y_copyOf2_30 : decode b_Y_copyOf2 30 = .ok (.arraylength, 1) := by decide +kernel
theorem d_Y_copyOf2_31 : decode b_Y_copyOf2 31 = .ok (.iload_n 1, 1) := by decide +kernel
theorem d_Y_copyOf2_32 : decode b_Y_copyOf2 32 = .ok (.invokestatic 304, 3) := by decide +kernel
theorem d_Y_copyOf2_35 : decode b_Y_copyOf2 35 = .ok (.invokestatic 150, 3) := by decide +kernel
theorem d_Y_copyOf2_38 : decode b_Y_copyOf2 38 = .ok (.aload_n 3, 1) := by decide +kernel
theorem d_Y_copyOf2_39 : decode b_Y_copyOf2 39 = .ok (.areturn, 1) := by decide +kernel
theorem d_T_clear_0 : decode b_T_clear 0 = .ok (.aload_n 0, 1) := by decide +kernel
theorem d_T_clear_1 : decode b_T_clear 1 = .ok (.dup, 1) := by decide +kernel
theorem d_T_clear_2 : decode b_T_clear 2 = .ok (.getfield 63, 3) := by decide +kernel
theorem d_T_clear_5 : decode b_T_clear 5 = .ok (.iconst 1, 1) := by decide +kernel
theorem d_T_clear_6 : decode b_T_clear 6 = .ok (.iadd, 1) := by decide +kernel
theorem d_T_clear_7 : decode b_T_clear 7 = .ok (.putfield 63, 3) := by decide +kernel
theorem d_T_clear_10 : decode b_T_clear 10 = .ok (.aload_n 0, 1) := by decide +kernel
theorem d_T_clear_11 : decode b_T_clear 11 = .ok (.getfield 9, 3) := by decide +kernel
theorem d_T_clear_14 : decode b_T_clear 14 = .ok (.astore_n 1, 1) := by decide +kernel
theorem d_T_clear_15 : decode b_T_clear 15 = .ok (.aload_n 0, 1) := by decide +kernel
theorem d_T_clear_16 : decode b_T_clear 16 = .ok (.getfield 48, 3) := by decide +kernel
theorem d_T_clear_19 : decode b_T_clear 19 = .ok (.istore_n 2, 1) := by decide +kernel
theorem d_T_clear_20 : decode b_T_clear 20 = .ok (.aload_n 0, 1) := by decide +kernel
theorem d_T_clear_21 : decode b_T_clear 21 = .ok (.iconst 0, 1) := by decide +kernel
theorem d_T_clear_22 : decode b_T_clear 22 = .ok (.dup_x1, 1) := by decide +kernel
theorem d_T_clear_23 : decode b_T_clear 23 = .ok (.putfield 48, 3) := by decide +kernel
theorem d_T_clear_26 : decode b_T_clear 26 = .ok (.istore_n 3, 1) := by decide +kernel
theorem d_T_clear_27 : decode b_T_clear 27 = .ok (.iload_n 3, 1) := by decide +kernel
theorem d_T_clear_28 : decode b_T_clear 28 = .ok (.iload_n 2, 1) := by decide +kernel
theorem d_T_clear_29 : decode b_T_clear 29 = .ok (.if_icmp .ge 13, 3) := by decide +kernel
theorem d_T_clear_32 : decode b_T_clear 32 = .ok (.aload_n 1, 1) := by decide +kernel
theorem d_T_clear_33 : decode b_T_clear 33 = .ok (.iload_n 3, 1) := by decide +kernel
theorem d_T_clear_34 : decode b_T_clear 34 = .ok (.aconst_null, 1) := by decide +kernel
theorem d_T_clear_35 : decode b_T_clear 35 = .ok (.aastore, 1) := by decide +kernel
theorem d_T_clear_36 : decode b_T_clear 36 = .ok (.iinc 3 1, 3) := by decide +kernel
theorem d_T_clear_39 : decode b_T_clear 39 = .ok (.goto (-12), 3) := by decide +kernel
theorem d_T_clear_42 : decode b_T_clear 42 = .ok (.return_, 1) := by decide +kernel
theorem d_T_size_0 : decode b_T_size 0 = .ok (.aload_n 0, 1) := by decide +kernel
theorem d_T_size_1 : decode b_T_size 1 = .ok (.getfield 48, 3) := by decide +kernel
theorem d_T_size_4 : decode b_T_size 4 = .ok (.ireturn, 1) := by decide +kernel
theorem d_T_get_0 : decode b_T_get 0 = .ok (.iload_n 1, 1) := by decide +kernel
theorem d_T_get_1 : decode b_T_get 1 = .ok (.aload_n 0, 1) := by decide +kernel
theorem d_T_get_2 : decode b_T_get 2 = .ok (.getfield 48, 3) := by decide +kernel
theorem d_T_get_5 : decode b_T_get 5 = .ok (.invokestatic 118, 3) := by decide +kernel
theorem d_T_get_8 : decode b_T_get 8 = .ok (.pop, 1) := by decide +kernel
theorem d_T_get_9 : decode b_T_get 9 = .ok (.aload_n 0, 1) := by decide +kernel
theorem d_T_get_10 : decode b_T_get 10 = .ok (.iload_n 1, 1) := by decide +kernel
theorem d_T_get_11 : decode b_T_get 11 = .ok (.invokevirtual 123, 3) := by decide +kernel
theorem d_T_get_14 : decode b_T_get 14 = .ok (.areturn, 1) := by decide +kernel
theorem d_O_checkIndex_0 : decode b_O_checkIndex 0 = .ok (.iload_n 0, 1) := by decide +kernel
theorem d_O_checkIndex_1 : decode b_O_checkIndex 1 = .ok (.iload_n 1, 1) := by decide +kernel
theorem d_O_checkIndex_2 : decode b_O_checkIndex 2 = .ok (.aconst_null, 1) := by decide +kernel
theorem d_O_checkIndex_3 : decode b_O_checkIndex 3 = .ok (.invokestatic 105, 3) := by decide +kernel
theorem d_O_checkIndex_6 : decode b_O_checkIndex 6 = .ok (.ireturn, 1) := by decide +kernel
theorem d_Q_checkIndex_0 : decode b_Q_checkIndex 0 = .ok (.iload_n 0, 1) := by decide +kernel
theorem d_Q_checkIndex_1 : decode b_Q_checkIndex 1 = .ok (.ifCond .lt 8, 3) := by decide +kernel
theorem d_Q_checkIndex_4 : decode b_Q_checkIndex 4 = .ok (.iload_n 0, 1) := by decide +kernel
theorem d_Q_checkIndex_5 : decode b_Q_checkIndex 5 = .ok (.iload_n 1, 1) := by decide +kernel
theorem d_Q_checkIndex_6 : decode b_Q_checkIndex 6 = .ok (.if_icmp .lt 10, 3) := by decide +kernel
theorem d_Q_checkIndex_9 : decode b_Q_checkIndex 9 = .ok (.aload_n 2, 1) := by decide +kernel
theorem d_Q_checkIndex_10 : decode b_Q_checkIndex 10 = .ok (.iload_n 0, 1) := by decide +kernel
theorem d_Q_checkIndex_11 : decode b_Q_checkIndex 11 = .ok (.iload_n 1, 1) := by decide +kernel
theorem d_Q_checkIndex_12 : decode b_Q_checkIndex 12 = .ok (.invokestatic 95, 3) := by decide +kernel
theorem d_Q_checkIndex_15 : decode b_Q_checkIndex 15 = .ok (.athrow, 1) := by decide +kernel
theorem d_Q_checkIndex_16 : decode b_Q_checkIndex 16 = .ok (.iload_n 0, 1) := by decide +kernel
theorem d_Q_checkIndex_17 : decode b_Q_checkIndex 17 = .ok (.ireturn, 1) := by decide +kernel
theorem d_T_elementData_0 : decode b_T_elementData 0 = .ok (.aload_n 0, 1) := by decide +kernel
theorem d_T_elementData_1 : decode b_T_elementData 1 = .ok (.getfield 9, 3) := by decide +kernel
theorem d_T_elementData_4 : decode b_T_elementData 4 = .ok (.iload_n 1, 1) := by decide +kernel
theorem d_T_elementData_5 : decode b_T_elementData 5 = .ok (.aaload, 1) := by decide +kernel
theorem d_T_elementData_6 : decode b_T_elementData 6 = .ok (.areturn, 1) := by decide +kernel
theorem d_J_compare_0 : decode b_J_compare 0 = .ok (.lload_n 0, 1) := by decide +kernel
theorem d_J_compare_1 : decode b_J_compare 1 = .ok (.lload_n 2, 1) := by decide +kernel
theorem d_J_compare_2 : decode b_J_compare 2 = .ok (.lcmp, 1) := by decide +kernel
theorem d_J_compare_3 : decode b_J_compare 3 = .ok (.ifCond .ge 7, 3) := by decide +kernel
theorem d_J_compare_6 : decode b_J_compare 6 = .ok (.iconst (-1), 1) := by decide +kernel
theorem d_J_compare_7 : decode b_J_compare 7 = .ok (.goto 14, 3) := by decide +kernel
theorem d_J_compare_10 : decode b_J_compare 10 = .ok (.lload_n 0, 1) := by decide +kernel
theorem d_J_compare_11 : decode b_J_compare 11 = .ok (.lload_n 2, 1) := by decide +kernel
theorem d_J_compare_12 : decode b_J_compare 12 = .ok (.lcmp, 1) := by decide +kernel
theorem d_J_compare_13 : decode b_J_compare 13 = .ok (.ifCond .ne 7, 3) := by decide +kernel
theorem d_J_compare_16 : decode b_J_compare 16 = .ok (.iconst 0, 1) := by decide +kernel
theorem d_J_compare_17 : decode b_J_compare 17 = .ok (.goto 4, 3) := by decide +kernel
theorem d_J_compare_20 : decode b_J_compare 20 = .ok (.iconst 1, 1) := by decide +kernel
theorem d_J_compare_21 : decode b_J_compare 21 = .ok (.ireturn, 1) := by decide +kernel
theorem d_I_compare_0 : decode b_I_compare 0 = .ok (.iload_n 0, 1) := by decide +kernel
theorem d_I_compare_1 : decode b_I_compare 1 = .ok (.iload_n 1, 1) := by decide +kernel
theorem d_I_compare_2 : decode b_I_compare 2 = .ok (.if_icmp .ge 7, 3) := by decide +kernel
theorem d_I_compare_5 : decode b_I_compare 5 = .ok (.iconst (-1), 1) := by decide +kernel
theorem d_I_compare_6 : decode b_I_compare 6 = .ok (.goto 13, 3) := by decide +kernel
theorem d_I_compare_9 : decode b_I_compare 9 = .ok (.iload_n 0, 1) := by decide +kernel
theorem d_I_compare_10 : decode b_I_compare 10 = .ok (.iload_n 1, 1) := by decide +kernel
theorem d_I_compare_11 : decode b_I_compare 11 = .ok (.if_icmp .ne 7, 3) := by decide +kernel
theorem d_I_compare_14 : decode b_I_compare 14 = .ok (.iconst 0, 1) := by decide +kernel
theorem d_I_compare_15 : decode b_I_compare 15 = .ok (.goto 4, 3) := by decide +kernel
theorem d_I_compare_18 : decode b_I_compare 18 = .ok (.iconst 1, 1) := by decide +kernel
theorem d_I_compare_19 : decode b_I_compare 19 = .ok (.ireturn, 1) := by decide +kernel
theorem d_H_abs_0 : decode b_H_abs 0 = .ok (.lload_n 0, 1) := by decide +kernel
theorem d_H_abs_1 : decode b_H_abs 1 = .ok (.lconst 0, 1) := by decide +kernel
theorem d_H_abs_2 : decode b_H_abs 2 = .ok (.lcmp, 1) := by decide +kernel
theorem d_H_abs_3 : decode b_H_abs 3 = .ok (.ifCond .ge 8, 3) := by decide +kernel
theorem d_H_abs_6 : decode b_H_abs 6 = .ok (.lload_n 0, 1) := by decide +kernel
theorem d_H_abs_7 : decode b_H_abs 7 = .ok (.lneg, 1) := by decide +kernel
theorem d_H_abs_8 : decode b_H_abs 8 = .ok (.goto 4, 3) := by decide +kernel
theorem d_H_abs_11 : decode b_H_abs 11 = .ok (.lload_n 0, 1) := by decide +kernel
theorem d_H_abs_12 : decode b_H_abs 12 = .ok (.lreturn, 1) := by decide +kernel
theorem d_Y_fill_0 : decode b_Y_fill 0 = .ok (.iconst 0, 1) := by decide +kernel
theorem d_Y_fill_1 : decode b_Y_fill 1 = .ok (.istore_n 2, 1) := by decide +kernel
theorem d_Y_fill_2 : decode b_Y_fill 2 = .ok (.aload_n 0, 1) := by decide +kernel
theorem d_Y_fill_3 : decode b_Y_fill 3 = .ok (.arraylength, 1) := by decide +kernel
theorem d_Y_fill_4 : decode b_Y_fill 4 = .ok (.istore_n 3, 1) := by decide +kernel
theorem d_Y_fill_5 : decode b_Y_fill 5 = .ok (.iload_n 2, 1) := by decide +kernel
theorem d_Y_fill_6 : decode b_Y_fill 6 = .ok (.iload_n 3, 1) := by decide +kernel
theorem d_Y_fill_7 : decode b_Y_fill 7 = .ok (.if_icmp .ge 13, 3) := by decide +kernel
theorem d_Y_fill_10 : decode b_Y_fill 10 = .ok (.aload_n 0, 1) := by decide +kernel
theorem d_Y_fill_11 : decode b_Y_fill 11 = .ok (.iload_n 2, 1) := by decide +kernel
theorem d_Y_fill_12 : decode b_Y_fill 12 = .ok (.iload_n 1, 1) := by decide +kernel
theorem d_Y_fill_13 : decode b_Y_fill 13 = .ok (.iastore, 1) := by decide +kernel
theorem d_Y_fill_14 : decode b_Y_fill 14 = .ok (.iinc 2 1, 3) := by decide +kernel
theorem d_Y_fill_17 : decode b_Y_fill 17 = .ok (.goto (-12), 3) := by decide +kernel
theorem d_Y_fill_20 : decode b_Y_fill 20 = .ok (.return_, 1) := by decide +kernel
