theorem d_A_init_0 : decode c_A_init 0 = .ok (.aload_n 0, 1) := by decide +kernel
theorem d_A_init_1 : decode c_A_init 1 = .ok (.invokespecial 1, 3) := by decide +kernel
theorem d_A_init_4 : decode c_A_init 4 = .ok (.aload_n 0, 1) := by decide +kernel
theorem d_A_init_5 : decode c_A_init 5 = .ok (.getstatic 39, 3) := by decide +kernel
theorem d_A_init_8 : decode c_A_init 8 = .ok (.putfield 9, 3) := by decide +kernel
theorem d_A_init_11 : decode c_A_init 11 = .ok (.return_, 1) := by decide +kernel
theorem d_Al_init_0 : decode c_Al_init 0 = .ok (.aload_n 0, 1) := by decide +kernel
theorem d_Al_init_1 : decode c_Al_init 1 = .ok (.invokespecial 1, 3) := by decide +kernel
theorem d_Al_init_4 : decode c_Al_init 4 = .ok (.aload_n 0, 1) := by decide +kernel
theorem d_Al_init_5 : decode c_Al_init 5 = .ok (.iconst 0, 1) := by decide +kernel
theorem d_Al_init_6 : decode c_Al_init 6 = .ok (.putfield 7, 3) := by decide +kernel
theorem d_Al_init_9 : decode c_Al_init 9 = .ok (.return_, 1) := by decide +kernel
theorem d_Ac_init_0 : decode c_Ac_init 0 = .ok (.aload_n 0, 1) := by decide +kernel
theorem d_Ac_init_1 : decode c_Ac_init 1 = .ok (.invokespecial 1, 3) := by decide +kernel
theorem d_Ac_init_4 : decode c_Ac_init 4 = .ok (.return_, 1) := by decide +kernel
theorem d_A_add_0 : decode c_A_add 0 = .ok (.aload_n 0, 1) := by decide +kernel
theorem d_A_add_1 : decode c_A_add 1 = .ok (.dup, 1) := by decide +kernel
theorem d_A_add_2 : decode c_A_add 2 = .ok (.getfield 63, 3) := by decide +kernel
theorem d_A_add_5 : decode c_A_add 5 = .ok (.iconst 1, 1) := by decide +kernel
theorem d_A_add_6 : decode c_A_add 6 = .ok (.iadd, 1) := by decide +kernel
theorem d_A_add_7 : decode c_A_add 7 = .ok (.putfield 63, 3) := by decide +kernel
theorem d_A_add_10 : decode c_A_add 10 = .ok (.aload_n 0, 1) := by decide +kernel
theorem d_A_add_11 : decode c_A_add 11 = .ok (.aload_n 1, 1) := by decide +kernel
theorem d_A_add_12 : decode c_A_add 12 = .ok (.aload_n 0, 1) := by decide +kernel
theorem d_A_add_13 : decode c_A_add 13 = .ok (.getfield 9, 3) := by decide +kernel
theorem d_A_add_16 : decode c_A_add 16 = .ok (.aload_n 0, 1) := by decide +kernel
theorem d_A_add_17 : decode c_A_add 17 = .ok (.getfield 48, 3) := by decide +kernel
theorem d_A_add_20 : decode c_A_add 20 = .ok (.invokevirtual 131, 3) := by decide +kernel
theorem d_A_add_23 : decode c_A_add 23 = .ok (.iconst 1, 1) := by decide +kernel
theorem d_A_add_24 : decode c_A_add 24 = .ok (.ireturn, 1) := by decide +kernel
theorem d_A_add2_0 : decode c_A_add2 0 = .ok (.iload_n 3, 1) := by decide +kernel
theorem d_A_add2_1 : decode c_A_add2 1 = .ok (.aload_n 2, 1) := by decide +kernel
theorem d_A_add2_2 : decode c_A_add2 2 = .ok (.arraylength, 1) := by decide +kernel
theorem d_A_add2_3 : decode c_A_add2 3 = .ok (.if_icmp .ne 8, 3) := by decide +kernel
theorem d_A_add2_6 : decode c_A_add2 6 = .ok (.aload_n 0, 1) := by decide +kernel
theorem d_A_add2_7 : decode c_A_add2 7 = .ok (.invokevirtual 129, 3) := by decide +kernel
theorem d_A_add2_10 : decode c_A_add2 10 = .ok (.astore_n 2, 1) := by decide +kernel
theorem d_A_add2_11 : decode c_A_add2 11 = .ok (.aload_n 2, 1) := by decide +kernel
theorem d_A_add2_12 : decode c_A_add2 12 = .ok (.iload_n 3, 1) := by decide +kernel
theorem d_A_add2_13 : decode c_A_add2 13 = .ok (.aload_n 1, 1) := by decide +kernel
theorem d_A_add2_14 : decode c_A_add2 14 = .ok (.aastore, 1) := by decide +kernel
theorem d_A_add2_15 : decode c_A_add2 15 = .ok (.aload_n 0, 1) := by decide +kernel
theorem d_A_add2_16 : decode c_A_add2 16 = .ok (.iload_n 3, 1) := by decide +kernel
theorem d_A_add2_17 : decode c_A_add2 17 = .ok (.iconst 1, 1) := by decide +kernel
theorem d_A_add2_18 : decode c_A_add2 18 = .ok (.iadd, 1) := by decide +kernel
theorem d_A_add2_19 : decode c_A_add2 19 = .ok (.putfield 48, 3) := by decide +kernel
theorem d_A_add2_22 : decode c_A_add2 22 = .ok (.return_, 1) := by decide +kernel
theorem d_A_grow_0 : decode c_A_grow 0 = .ok (.aload_n 0, 1) := by decide +kernel
theorem d_A_grow_1 : decode c_A_grow 1 = .ok (.aload_n 0, 1) := by decide +kernel
theorem d_A_grow_2 : decode c_A_grow 2 = .ok (.getfield 48, 3) := by decide +kernel
theorem d_A_grow_5 : decode c_A_grow 5 = .ok (.iconst 1, 1) := by decide +kernel
theorem d_A_grow_6 : decode c_A_grow 6 = .ok (.iadd, 1) := by decide +kernel
theorem d_A_grow_7 : decode c_A_grow 7 = .ok (.invokevirtual 69, 3) := by decide +kernel
theorem d_A_grow_10 : decode c_A_grow 10 = .ok (.areturn, 1) := by decide +kernel
theorem d_A_grow2_0 : decode c_A_grow2 0 = .ok (.aload_n 0, 1) := by decide +kernel
theorem d_A_grow2_1 : decode c_A_grow2 1 = .ok (.getfield 9, 3) := by decide +kernel
theorem d_A_grow2_4 : decode c_A_grow2 4 = .ok (.arraylength, 1) := by decide +kernel
theorem d_A_grow2_5 : decode c_A_grow2 5 = .ok (.istore_n 2, 1) := by decide +kernel
theorem d_A_grow2_6 : decode c_A_grow2 6 = .ok (.iload_n 2, 1) := by decide +kernel
theorem d_A_grow2_7 : decode c_A_grow2 7 = .ok (.ifCond .gt 13, 3) := by decide +kernel
theorem d_A_grow2_10 : decode c_A_grow2 10 = .ok (.aload_n 0, 1) := by decide +kernel
theorem d_A_grow2_11 : decode c_A_grow2 11 = .ok (.getfield 9, 3) := by decide +kernel
theorem d_A_grow2_14 : decode c_A_grow2 14 = .ok (.getstatic 39, 3) := by decide +kernel
theorem d_A_grow2_17 : decode c_A_grow2 17 = .ok (.if_acmp .eq 28, 3) := by decide +kernel
theorem d_A_grow2_20 : decode c_A_grow2 20 = .ok (.iload_n 2, 1) := by decide +kernel
theorem d_A_grow2_21 : decode c_A_grow2 21 = .ok (.iload_n 1, 1) := by decide +kernel
theorem d_A_grow2_22 : decode c_A_grow2 22 = .ok (.iload_n 2, 1) := by decide +kernel
theorem d_A_grow2_23 : decode c_A_grow2 23 = .ok (.isub, 1) := by decide +kernel
theorem d_A_grow2_24 : decode c_A_grow2 24 = .ok (.iload_n 2, 1) := by decide +kernel
theorem d_A_grow2_25 : decode c_A_grow2 25 = .ok (.iconst 1, 1) := by decide +kernel
theorem d_A_grow2_26 : decode c_A_grow2 26 = .ok (.ishr, 1) := by decide +kernel
theorem d_A_grow2_27 : decode c_A_grow2 27 = .ok (.invokestatic 73, 3) := by decide +kernel
theorem d_A_grow2_30 : decode c_A_grow2 30 = .ok (.istore_n 3, 1) := by decide +kernel
theorem d_A_grow2_31 : decode c_A_grow2 31 = .ok (.aload_n 0, 1) := by decide +kernel
theorem d_A_grow2_32 : decode c_A_grow2 32 = .ok (.aload_n 0, 1) := by decide +kernel
theorem d_A_grow2_33 : decode c_A_grow2 33 = .ok (.getfield 9, 3) := by decide +kernel
theorem d_A_grow2_36 : decode c_A_grow2 36 = .ok (.iload_n 3, 1) := by decide +kernel
theorem d_A_grow2_37 : decode c_A_grow2 37 = .ok (.invokestatic 66, 3) := by decide +kernel
theorem d_A_grow2_40 : decode c_A_grow2 40 = .ok (.dup_x1, 1) := by decide +kernel
theorem d_A_grow2_41 : decode c_A_grow2 41 = .ok (.putfield 9, 3) := by decide +kernel
theorem d_A_grow2_44 : decode c_A_grow2 44 = .ok (.areturn, 1) := by decide +kernel
theorem d_A_grow2_45 : decode c_A_grow2 45 = .ok (.aload_n 0, 1) := by decide +kernel
theorem d_A_grow2_46 : decode c_A_grow2 46 = .ok (.bipush 10, 2) := by decide +kernel
theorem d_A_grow2_48 : decode c_A_grow2 48 = .ok (.iload_n 1, 1) := by decide +kernel
theorem d_A_grow2_49 : decode c_A_grow2 49 = .ok (.invokestatic 79, 3) := by decide +kernel
theorem d_A_grow2_52 : decode c_A_grow2 52 = .ok (.anewarray 7, 3) := by decide +kernel
theorem d_A_grow2_55 : decode c_A_grow2 55 = .ok (.dup_x1, 1) := by decide +kernel
theorem d_A_grow2_56 : decode c_A_grow2 56 = .ok (.putfield 9, 3) := by decide +kernel
theorem d_A_grow2_59 : decode c_A_grow2 59 = .ok (.areturn, 1) := by decide +kernel
theorem d_Su_newLength_0 : decode c_Su_newLength 0 = .ok (.iload_n 0, 1) := by decide +kernel
theorem d_Su_newLength_1 : decode c_Su_newLength 1 = .ok (.iload_n 1, 1) := by decide +kernel
theorem d_Su_newLength_2 : decode c_Su_newLength 2 = .ok (.iload_n 2, 1) := by decide +kernel
theorem d_Su_newLength_3 : decode c_Su_newLength 3 = .ok (.invokestatic 194, 3) := by decide +kernel
theorem d_Su_newLength_6 : decode c_Su_newLength 6 = .ok (.iadd, 1) := by decide +kernel
theorem d_Su_newLength_7 : decode c_Su_newLength 7 = .ok (.istore_n 3, 1) := by decide +kernel
theorem d_Su_newLength_8 : decode c_Su_newLength 8 = .ok (.iconst 0, 1) := by decide +kernel
theorem d_Su_newLength_9 : decode c_Su_newLength 9 = .ok (.iload_n 3, 1) := by decide +kernel
theorem d_Su_newLength_10 : decode c_Su_newLength 10 = .ok (.if_icmp .ge 11, 3) := by decide +kernel
theorem d_Su_newLength_13 : decode c_Su_newLength 13 = .ok (.iload_n 3, 1) := by decide +kernel
theorem d_Su_newLength_14 : decode c_Su_newLength 14 = .ok (.ldc 200, 2) := by decide +kernel
theorem d_Su_newLength_16 : decode c_Su_newLength 16 = .ok (.if_icmp .gt 5, 3) := by decide +kernel
theorem d_Su_newLength_19 : decode c_Su_newLength 19 = .ok (.iload_n 3, 1) := by decide +kernel
theorem d_Su_newLength_20 : decode c_Su_newLength 20 = .ok (.ireturn, 1) := by decide +kernel
theorem d_Su_newLength_21 : decode c_Su_newLength 21 = .ok (.iload_n 0, 1) := by decide +kernel
theorem d_Su_newLength_22 : decode c_Su_newLength 22 = .ok (.iload_n 1, 1) := by decide +kernel
theorem d_Su_newLength_23 : decode c_Su_newLength 23 = .ok (.invokestatic 201, 3) := by decide +kernel
theorem d_Su_newLength_26 : decode c_Su_newLength 26 = .ok (.ireturn, 1) := by decide +kernel
theorem d_Su_hugeLength_0 : decode c_Su_hugeLength 0 = .ok (.iload_n 0, 1) := by decide +kernel
theorem d_Su_hugeLength_1 : decode c_Su_hugeLength 1 = .ok (.iload_n 1, 1) := by decide +kernel
theorem d_Su_hugeLength_2 : decode c_Su_hugeLength 2 = .ok (.iadd, 1) := by decide +kernel
theorem d_Su_hugeLength_3 : decode c_Su_hugeLength 3 = .ok (.istore_n 2, 1) := by decide +kernel
theorem d_Su_hugeLength_4 : decode c_Su_hugeLength 4 = .ok (.iload_n 2, 1) := by decide +kernel
theorem d_Su_hugeLength_5 : decode c_Su_hugeLength 5 = .ok (.ifCond .ge 44, 3) := by decide +kernel
theorem d_Su_hugeLength_8 : decode c_Su_hugeLength 8 = .ok (.new 204, 3) := by decide +kernel
theorem d_Su_hugeLength_11 : decode c_Su_hugeLength 11 = .ok (.dup, 1) := by decide +kernel
theorem d_Su_hugeLength_12 : decode c_Su_hugeLength 12 = .ok (.new 89, 3) := by decide +kernel
theorem d_Su_hugeLength_15 : decode c_Su_hugeLength 15 = .ok (.dup, 1) := by decide +kernel
theorem d_Su_hugeLength_16 : decode c_Su_hugeLength 16 = .ok (.invokespecial 91, 3) := by decide +kernel
theorem d_Su_hugeLength_19 : decode c_Su_hugeLength 19 = .ok (.ldc 206, 2) := by decide +kernel
theorem d_Su_hugeLength_21 : decode c_Su_hugeLength 21 = .ok (.invokevirtual 94, 3) := by decide +kernel
theorem d_Su_hugeLength_24 : decode c_Su_hugeLength 24 = .ok (.iload_n 0, 1) := by decide +kernel
theorem d_Su_hugeLength_25 : decode c_Su_hugeLength 25 = .ok (.invokevirtual 98, 3) := by decide +kernel
theorem d_Su_hugeLength_28 : decode c_Su_hugeLength 28 = .ok (.ldc 208, 2) := by decide +kernel
theorem d_Su_hugeLength_30 : decode c_Su_hugeLength 30 = .ok (.invokevirtual 94, 3) := by decide +kernel
theorem d_Su_hugeLength_33 : decode c_Su_hugeLength 33 = .ok (.iload_n 1, 1) := by decide +kernel
theorem d_Su_hugeLength_34 : decode c_Su_hugeLength 34 = .ok (.invokevirtual 98, 3) := by decide +kernel
theorem d_Su_hugeLength_37 : decode c_Su_hugeLength 37 = .ok (.ldc 210, 2) := by decide +kernel
theorem d_Su_hugeLength_39 : decode c_Su_hugeLength 39 = .ok (.invokevirtual 94, 3) := by decide +kernel
theorem d_Su_hugeLength_42 : decode c_Su_hugeLength 42 = .ok (.invokevirtual 101, 3) := by decide +kernel
theorem d_Su_hugeLength_45 : decode c_Su_hugeLength 45 = .ok (.invokespecial 212, 3) := by decide +kernel
theorem d_Su_hugeLength_48 : decode c_Su_hugeLength 48 = .ok (.athrow, 1) := by decide +kernel
theorem d_Su_hugeLength_49 : decode c_Su_hugeLength 49 = .ok (.iload_n 2, 1) := by decide +kernel
theorem d_Su_hugeLength_50 : decode c_Su_hugeLength 50 = .ok (.ldc 200, 2) := by decide +kernel
theorem d_Su_hugeLength_52 : decode c_Su_hugeLength 52 = .ok (.if_icmp .gt 6, 3) := by decide +kernel
theorem d_Su_hugeLength_55 : decode c_Su_hugeLength 55 = .ok (.ldc 200, 2) := by decide +kernel
theorem d_Su_hugeLength_57 : decode c_Su_hugeLength 57 = .ok (.ireturn, 1) := by decide +kernel
theorem d_Su_hugeLength_58 : decode c_Su_hugeLength 58 = .ok (.iload_n 2, 1) := by decide +kernel
theorem d_Su_hugeLength_59 : decode c_Su_hugeLength 59 = .ok (.ireturn, 1) := by decide +kernel
theorem d_As_copyOf_0 : decode c_As_copyOf 0 = .ok (.aload_n 0, 1) := by decide +kernel
theorem d_As_copyOf_1 : decode c_As_copyOf 1 = .ok (.iload_n 1, 1) := by decide +kernel
theorem d_As_copyOf_2 : decode c_As_copyOf 2 = .ok (.aload_n 0, 1) := by decide +kernel
theorem d_As_copyOf_3 : decode c_As_copyOf 3 = .ok (.invokevirtual 86, 3) := by decide +kernel
theorem d_As_copyOf_6 : decode c_As_copyOf 6 = .ok (.invokestatic 300, 3) := by decide +kernel
theorem d_As_copyOf_9 : decode c_As_copyOf 9 = .ok (.areturn, 1) := by decide +kernel
theorem d_As_copyOf2_0 : decode c_As_copyOf2 0 = .ok (.aload_n 2, 1) := by decide +kernel
theorem d_As_copyOf2_1 : decode c_As_copyOf2 1 = .ok (.ldc 110, 2) := by decide +kernel
theorem d_As_copyOf2_3 : decode c_As_copyOf2 3 = .ok (.if_acmp .ne 10, 3) := by decide +kernel
theorem d_As_copyOf2_6 : decode c_As_copyOf2 6 = .ok (.iload_n 1, 1) := by decide +kernel
theorem d_As_copyOf2_7 : decode c_As_copyOf2 7 = .ok (.anewarray 2, 3) := by decide +kernel
theorem d_As_copyOf2_10 : decode c_As_copyOf2 10 = .ok (.goto 14, 3) := by decide +kernel
theorem d_As_copyOf2_13 : decode c_As_copyOf2 13 = .ok (.aload_n 2, 1) := by decide +kernel
theorem d_As_copyOf2_14 : decode c_As_copyOf2 14 = .ok (.invokevirtual 90, 3) := by decide +kernel
theorem d_As_copyOf2_17 : decode c_As_copyOf2 17 = .ok (.iload_n 1, 1) := by decide +kernel
theorem d_As_copyOf2_18 : decode c_As_copyOf2 18 = .ok (.invokestatic 95, 3) := by decide +kernel
theorem d_As_copyOf2_21 : decode c_As_copyOf2 21 = .ok (.checkcast 110, 3) := by decide +kernel
theorem d_As_copyOf2_24 : decode c_As_copyOf2 24 = .ok (.astore_n 3, 1) := by decide +kernel
theorem d_As_copyOf2_25 : decode c_As_copyOf2 25 = .ok (.aload_n 0, 1) := by decide +kernel
theorem d_As_copyOf2_26 : decode c_As_copyOf2 26 = .ok (.iconst 0, 1) := by decide +kernel
theorem d_As_copyOf2_27 : decode c_As_copyOf2 27 = .ok (.aload_n 3, 1) := by decide +kernel
theorem d_As_copyOf2_28 : decode c_As_copyOf2 28 = .ok (.iconst 0, 1) := by decide +kernel
theorem d_As_copyOf2_29 : decode c_As_copyOf2 29 = .ok (.aload_n 0, 1) := by decide +kernel
theorem d_As_copyOf2_30 : decode c_As_copyOf2 30 = .ok (.arraylength, 1) := by decide +kernel
theorem d_As_copyOf2_31 : decode c_As_copyOf2 31 = .ok (.iload_n 1, 1) := by decide +kernel
theorem d_As_copyOf2_32 : decode c_As_copyOf2 32 = .ok (.invokestatic 304, 3) := by decide +kernel
theorem d_As_copyOf2_35 : decode c_As_copyOf2 35 = .ok (.invokestatic 150, 3) := by decide +kernel
theorem d_As_copyOf2_38 : decode c_As_copyOf2 38 = .ok (.aload_n 3, 1) := by decide +kernel
theorem d_As_copyOf2_39 : decode c_As_copyOf2 39 = .ok (.areturn, 1) := by decide +kernel
theorem d_A_size_0 : decode c_A_size 0 = .ok (.aload_n 0, 1) := by decide +kernel
theorem d_A_size_1 : decode c_A_size 1 = .ok (.getfield 48, 3) := by decide +kernel
theorem d_A_size_4 : decode c_A_size 4 = .ok (.ireturn, 1) := by decide +kernel
theorem d_A_isEmpty_0 : decode c_A_isEmpty 0 = .ok (.aload_n 0, 1) := by decide +kernel
theorem d_A_isEmpty_1 : decode c_A_isEmpty 1 = .ok (.getfield 48, 3) := by decide +kernel
theorem d_A_isEmpty_4 : decode c_A_isEmpty 4 = .ok (.ifCond .ne 7, 3) := by decide +kernel
theorem d_A_isEmpty_7 : decode c_A_isEmpty 7 = .ok (.iconst 1, 1) := by decide +kernel
theorem d_A_isEmpty_8 : decode c_A_isEmpty 8 = .ok (.goto 4, 3) := by decide +kernel
theorem d_A_isEmpty_11 : decode c_A_isEmpty 11 = .ok (.iconst 0, 1) := by decide +kernel
theorem d_A_isEmpty_12 : decode c_A_isEmpty 12 = .ok (.ireturn, 1) := by decide +kernel
theorem d_A_remove_0 : decode c_A_remove 0 = .ok (.iload_n 1, 1) := by decide +kernel
theorem d_A_remove_1 : decode c_A_remove 1 = .ok (.aload_n 0, 1) := by decide +kernel
theorem d_A_remove_2 : decode c_A_remove 2 = .ok (.getfield 48, 3) := by decide +kernel
theorem d_A_remove_5 : decode c_A_remove 5 = .ok (.invokestatic 118, 3) := by decide +kernel
theorem d_A_remove_8 : decode c_A_remove 8 = .ok (.pop, 1) := by decide +kernel
theorem d_A_remove_9 : decode c_A_remove 9 = .ok (.aload_n 0, 1) := by decide +kernel
theorem d_A_remove_10 : decode c_A_remove 10 = .ok (.getfield 9, 3) := by decide +kernel
theorem d_A_remove_13 : decode c_A_remove 13 = .ok (.astore_n 2, 1) := by decide +kernel
theorem d_A_remove_14 : decode c_A_remove 14 = .ok (.aload_n 2, 1) := by decide +kernel
theorem d_A_remove_15 : decode c_A_remove 15 = .ok (.iload_n 1, 1) := by decide +kernel
theorem d_A_remove_16 : decode c_A_remove 16 = .ok (.aaload, 1) := by decide +kernel
theorem d_A_remove_17 : decode c_A_remove 17 = .ok (.astore_n 3, 1) := by decide +kernel
theorem d_A_remove_18 : decode c_A_remove 18 = .ok (.aload_n 0, 1) := by decide +kernel
theorem d_A_remove_19 : decode c_A_remove 19 = .ok (.aload_n 2, 1) := by decide +kernel
theorem d_A_remove_20 : decode c_A_remove 20 = .ok (.iload_n 1, 1) := by decide +kernel
theorem d_A_remove_21 : decode c_A_remove 21 = .ok (.invokevirtual 144, 3) := by decide +kernel
theorem d_A_remove_24 : decode c_A_remove 24 = .ok (.aload_n 3, 1) := by decide +kernel
theorem d_A_remove_25 : decode c_A_remove 25 = .ok (.areturn, 1) := by decide +kernel
theorem d_Ob_checkIndex_0 : decode c_Ob_checkIndex 0 = .ok (.iload_n 0, 1) := by decide +kernel
theorem d_Ob_checkIndex_1 : decode c_Ob_checkIndex 1 = .ok (.iload_n 1, 1) := by decide +kernel
theorem d_Ob_checkIndex_2 : decode c_Ob_checkIndex 2 = .ok (.aconst_null, 1) := by decide +kernel
theorem d_Ob_checkIndex_3 : decode c_Ob_checkIndex 3 = .ok (.invokestatic 105, 3) := by decide +kernel
theorem d_Ob_checkIndex_6 : decode c_Ob_checkIndex 6 = .ok (.ireturn, 1) := by decide +kernel
theorem d_Pc_checkIndex_0 : decode c_Pc_checkIndex 0 = .ok (.iload_n 0, 1) := by decide +kernel
theorem d_Pc_checkIndex_1 : decode c_Pc_checkIndex 1 = .ok (.ifCond .lt 8, 3) := by decide +kernel
theorem d_Pc_checkIndex_4 : decode c_Pc_checkIndex 4 = .ok (.iload_n 0, 1) := by decide +kernel
theorem d_Pc_checkIndex_5 : decode c_Pc_checkIndex 5 = .ok (.iload_n 1, 1) := by decide +kernel
theorem d_Pc_checkIndex_6 : decode c_Pc_checkIndex 6 = .ok (.if_icmp .lt 10, 3) := by decide +kernel
theorem d_Pc_checkIndex_9 : decode c_Pc_checkIndex 9 = .ok (.aload_n 2, 1) := by decide +kernel
theorem d_Pc_checkIndex_10 : decode c_Pc_checkIndex 10 = .ok (.iload_n 0, 1) := by decide +kernel
theorem d_Pc_checkIndex_11 : decode c_Pc_checkIndex 11 = .ok (.iload_n 1, 1) := by decide +kernel
theorem d_Pc_checkIndex_12 : decode c_Pc_checkIndex 12 = .ok (.invokestatic 95, 3) := by decide +kernel
theorem d_Pc_checkIndex_15 : decode c_Pc_checkIndex 15 = .ok (.athrow, 1) := by decide +kernel
theorem d_Pc_checkIndex_16 : decode c_Pc_checkIndex 16 = .ok (.iload_n 0, 1) := by decide +kernel
theorem d_Pc_checkIndex_17 : decode c_Pc_checkIndex 17 = .ok (.ireturn, 1) := by decide +kernel
theorem d_A_fastRemove_0 : decode c_A_fastRemove 0 = .ok (.aload_n 0, 1) := by decide +kernel
theorem d_A_fastRemove_1 : decode c_A_fastRemove 1 = .ok (.dup, 1) := by decide +kernel
theorem d_A_fastRemove_2 : decode c_A_fastRemove 2 = .ok (.getfield 63, 3) := by decide +kernel
theorem d_A_fastRemove_5 : decode c_A_fastRemove 5 = .ok (.iconst 1, 1) := by decide +kernel
theorem d_A_fastRemove_6 : decode c_A_fastRemove 6 = .ok (.iadd, 1) := by decide +kernel
theorem d_A_fastRemove_7 : decode c_A_fastRemove 7 = .ok (.putfield 63, 3) := by decide +kernel
theorem d_A_fastRemove_10 : decode c_A_fastRemove 10 = .ok (.aload_n 0, 1) := by decide +kernel
theorem d_A_fastRemove_11 : decode c_A_fastRemove 11 = .ok (.getfield 48, 3) := by decide +kernel
theorem d_A_fastRemove_14 : decode c_A_fastRemove 14 = .ok (.iconst 1, 1) := by decide +kernel
theorem d_A_fastRemove_15 : decode c_A_fastRemove 15 = .ok (.isub, 1) := by decide +kernel
theorem d_A_fastRemove_16 : decode c_A_fastRemove 16 = .ok (.dup, 1) := by decide +kernel
theorem d_A_fastRemove_17 : decode c_A_fastRemove 17 = .ok (.istore_n 3, 1) := by decide +kernel
theorem d_A_fastRemove_18 : decode c_A_fastRemove 18 = .ok (.iload_n 2, 1) := by decide +kernel
theorem d_A_fastRemove_19 : decode c_A_fastRemove 19 = .ok (.if_icmp .le 15, 3) := by decide +kernel
theorem d_A_fastRemove_22 : decode c_A_fastRemove 22 = .ok (.aload_n 1, 1) := by decide +kernel
theorem d_A_fastRemove_23 : decode c_A_fastRemove 23 = .ok (.iload_n 2, 1) := by decide +kernel
theorem d_A_fastRemove_24 : decode c_A_fastRemove 24 = .ok (.iconst 1, 1) := by decide +kernel
theorem d_A_fastRemove_25 : decode c_A_fastRemove 25 = .ok (.iadd, 1) := by decide +kernel
theorem d_A_fastRemove_26 : decode c_A_fastRemove 26 = .ok (.aload_n 1, 1) := by decide +kernel
theorem d_A_fastRemove_27 : decode c_A_fastRemove 27 = .ok (.iload_n 2, 1) := by decide +kernel
theorem d_A_fastRemove_28 : decode c_A_fastRemove 28 = .ok (.iload_n 3, 1) := by decide +kernel
theorem d_A_fastRemove_29 : decode c_A_fastRemove 29 = .ok (.iload_n 2, 1) := by decide +kernel
theorem d_A_fastRemove_30 : decode c_A_fastRemove 30 = .ok (.isub, 1) := by decide +kernel
theorem d_A_fastRemove_31 : decode c_A_fastRemove 31 = .ok (.invokestatic 112, 3) := by decide +kernel
theorem d_A_fastRemove_34 : decode c_A_fastRemove 34 = .ok (.aload_n 1, 1) := by decide +kernel
theorem d_A_fastRemove_35 : decode c_A_fastRemove 35 = .ok (.aload_n 0, 1) := by decide +kernel
theorem d_A_fastRemove_36 : decode c_A_fastRemove 36 = .ok (.iload_n 3, 1) := by decide +kernel
theorem d_A_fastRemove_37 : decode c_A_fastRemove 37 = .ok (.dup_x1, 1) := by decide +kernel
theorem d_A_fastRemove_38 : decode c_A_fastRemove 38 = .ok (.putfield 48, 3) := by decide +kernel
theorem d_A_fastRemove_41 : decode c_A_fastRemove 41 = .ok (.aconst_null, 1) := by decide +kernel
theorem d_A_fastRemove_42 : decode c_A_fastRemove 42 = .ok (.aastore, 1) := by decide +kernel
theorem d_A_fastRemove_43 : decode c_A_fastRemove 43 = .ok (.return_, 1) := by decide +kernel
theorem d_L_get_0 : decode c_L_get 0 = .ok (.aload_n 2, 1) := by decide +kernel
theorem d_L_get_1 : decode c_L_get 1 = .ok (.iconst 0, 1) := by decide +kernel
theorem d_L_get_2 : decode c_L_get 2 = .ok (.aload_n 0, 1) := by decide +kernel
theorem d_L_get_3 : decode c_L_get 3 = .ok (.iload_n 1, 1) := by decide +kernel
theorem d_L_get_4 : decode c_L_get 4 = .ok (.invokevirtual 7, 3) := by decide +kernel
theorem d_L_get_7 : decode c_L_get 7 = .ok (.i2l, 1) := by decide +kernel
theorem d_L_get_8 : decode c_L_get 8 = .ok (.lastore, 1) := by decide +kernel
theorem d_L_get_9 : decode c_L_get 9 = .ok (.goto 6, 3) := by decide +kernel
theorem d_L_get_12 : decode c_L_get 12 = .ok (.astore_n 3, 1) := by decide +kernel
theorem d_L_get_13 : decode c_L_get 13 = .ok (.iconst 1, 1) := by decide +kernel
theorem d_L_get_14 : decode c_L_get 14 = .ok (.ireturn, 1) := by decide +kernel
theorem d_L_get_15 : decode c_L_get 15 = .ok (.iconst 0, 1) := by decide +kernel
theorem d_L_get_16 : decode c_L_get 16 = .ok (.ireturn, 1) := by decide +kernel
theorem d_L_back_0 : decode c_L_back 0 = .ok (.aload_n 2, 1) := by decide +kernel
theorem d_L_back_1 : decode c_L_back 1 = .ok (.iconst 0, 1) := by decide +kernel
theorem d_L_back_2 : decode c_L_back 2 = .ok (.aload_n 0, 1) := by decide +kernel
theorem d_L_back_3 : decode c_L_back 3 = .ok (.iload_n 1, 1) := by decide +kernel
theorem d_L_back_4 : decode c_L_back 4 = .ok (.invokevirtual 15, 3) := by decide +kernel
theorem d_L_back_7 : decode c_L_back 7 = .ok (.i2l, 1) := by decide +kernel
theorem d_L_back_8 : decode c_L_back 8 = .ok (.lastore, 1) := by decide +kernel
theorem d_L_back_9 : decode c_L_back 9 = .ok (.goto 9, 3) := by decide +kernel
theorem d_L_back_12 : decode c_L_back 12 = .ok (.astore_n 3, 1) := by decide +kernel
theorem d_L_back_13 : decode c_L_back 13 = .ok (.iconst 1, 1) := by decide +kernel
theorem d_L_back_14 : decode c_L_back 14 = .ok (.ireturn, 1) := by decide +kernel
theorem d_L_back_15 : decode c_L_back 15 = .ok (.astore_n 3, 1) := by decide +kernel
theorem d_L_back_16 : decode c_L_back 16 = .ok (.iconst 2, 1) := by decide +kernel
theorem d_L_back_17 : decode c_L_back 17 = .ok (.ireturn, 1) := by decide +kernel
theorem d_L_back_18 : decode c_L_back 18 = .ok (.iconst 0, 1) := by decide +kernel
theorem d_L_back_19 : decode c_L_back 19 = .ok (.ireturn, 1) := by decide +kernel
theorem d_L_again_0 : decode c_L_again 0 = .ok (.aload_n 3, 1) := by decide +kernel
theorem d_L_again_1 : decode c_L_again 1 = .ok (.iconst 0, 1) := by decide +kernel
theorem d_L_again_2 : decode c_L_again 2 = .ok (.aload_n 0, 1) := by decide +kernel
theorem d_L_again_3 : decode c_L_again 3 = .ok (.iload_n 1, 1) := by decide +kernel
theorem d_L_again_4 : decode c_L_again 4 = .ok (.iload_n 2, 1) := by decide +kernel
theorem d_L_again_5 : decode c_L_again 5 = .ok (.invokevirtual 20, 3) := by decide +kernel
theorem d_L_again_8 : decode c_L_again 8 = .ok (.i2l, 1) := by decide +kernel
theorem d_L_again_9 : decode c_L_again 9 = .ok (.lastore, 1) := by decide +kernel
theorem d_L_again_10 : decode c_L_again 10 = .ok (.goto 11, 3) := by decide +kernel
theorem d_L_again_13 : decode c_L_again 13 = .ok (.astore 4, 2) := by decide +kernel
theorem d_L_again_15 : decode c_L_again 15 = .ok (.iconst 1, 1) := by decide +kernel
theorem d_L_again_16 : decode c_L_again 16 = .ok (.ireturn, 1) := by decide +kernel
theorem d_L_again_17 : decode c_L_again 17 = .ok (.astore 4, 2) := by decide +kernel
theorem d_L_again_19 : decode c_L_again 19 = .ok (.iconst 2, 1) := by decide +kernel
theorem d_L_again_20 : decode c_L_again 20 = .ok (.ireturn, 1) := by decide +kernel
theorem d_L_again_21 : decode c_L_again 21 = .ok (.iconst 0, 1) := by decide +kernel
theorem d_L_again_22 : decode c_L_again 22 = .ok (.ireturn, 1) := by decide +kernel
theorem d_L_kind_0 : decode c_L_kind 0 = .ok (.aload_n 2, 1) := by decide +kernel
theorem d_L_kind_1 : decode c_L_kind 1 = .ok (.iconst 0, 1) := by decide +kernel
theorem d_L_kind_2 : decode c_L_kind 2 = .ok (.aload_n 0, 1) := by decide +kernel
theorem d_L_kind_3 : decode c_L_kind 3 = .ok (.iload_n 1, 1) := by decide +kernel
theorem d_L_kind_4 : decode c_L_kind 4 = .ok (.invokevirtual 24, 3) := by decide +kernel
theorem d_L_kind_7 : decode c_L_kind 7 = .ok (.i2l, 1) := by decide +kernel
theorem d_L_kind_8 : decode c_L_kind 8 = .ok (.lastore, 1) := by decide +kernel
theorem d_L_kind_9 : decode c_L_kind 9 = .ok (.goto 6, 3) := by decide +kernel
theorem d_L_kind_12 : decode c_L_kind 12 = .ok (.astore_n 3, 1) := by decide +kernel
theorem d_L_kind_13 : decode c_L_kind 13 = .ok (.iconst 1, 1) := by decide +kernel
theorem d_L_kind_14 : decode c_L_kind 14 = .ok (.ireturn, 1) := by decide +kernel
theorem d_L_kind_15 : decode c_L_kind 15 = .ok (.iconst 0, 1) := by decide +kernel
theorem d_L_kind_16 : decode c_L_kind 16 = .ok (.ireturn, 1) := by decide +kernel
theorem d_L_block_0 : decode c_L_block 0 = .ok (.aload_n 2, 1) := by decide +kernel
theorem d_L_block_1 : decode c_L_block 1 = .ok (.iconst 0, 1) := by decide +kernel
theorem d_L_block_2 : decode c_L_block 2 = .ok (.aload_n 0, 1) := by decide +kernel
theorem d_L_block_3 : decode c_L_block 3 = .ok (.iload_n 1, 1) := by decide +kernel
theorem d_L_block_4 : decode c_L_block 4 = .ok (.invokevirtual 29, 3) := by decide +kernel
theorem d_L_block_7 : decode c_L_block 7 = .ok (.i2l, 1) := by decide +kernel
theorem d_L_block_8 : decode c_L_block 8 = .ok (.lastore, 1) := by decide +kernel
theorem d_L_block_9 : decode c_L_block 9 = .ok (.goto 6, 3) := by decide +kernel
theorem d_L_block_12 : decode c_L_block 12 = .ok (.astore_n 3, 1) := by decide +kernel
theorem d_L_block_13 : decode c_L_block 13 = .ok (.iconst 1, 1) := by decide +kernel
theorem d_L_block_14 : decode c_L_block 14 = .ok (.ireturn, 1) := by decide +kernel
theorem d_L_block_15 : decode c_L_block 15 = .ok (.iconst 0, 1) := by decide +kernel
theorem d_L_block_16 : decode c_L_block 16 = .ok (.ireturn, 1) := by decide +kernel
theorem d_L_write_0 : decode c_L_write 0 = .ok (.aload_n 0, 1) := by decide +kernel
theorem d_L_write_1 : decode c_L_write 1 = .ok (.iload_n 1, 1) := by decide +kernel
theorem d_L_write_2 : decode c_L_write 2 = .ok (.iload_n 2, 1) := by decide +kernel
theorem d_L_write_3 : decode c_L_write 3 = .ok (.invokevirtual 32, 3) := by decide +kernel
theorem d_L_write_6 : decode c_L_write 6 = .ok (.goto 9, 3) := by decide +kernel
theorem d_L_write_9 : decode c_L_write 9 = .ok (.astore_n 3, 1) := by decide +kernel
theorem d_L_write_10 : decode c_L_write 10 = .ok (.iconst 1, 1) := by decide +kernel
theorem d_L_write_11 : decode c_L_write 11 = .ok (.ireturn, 1) := by decide +kernel
theorem d_L_write_12 : decode c_L_write 12 = .ok (.astore_n 3, 1) := by decide +kernel
theorem d_L_write_13 : decode c_L_write 13 = .ok (.iconst 2, 1) := by decide +kernel
theorem d_L_write_14 : decode c_L_write 14 = .ok (.ireturn, 1) := by decide +kernel
theorem d_L_write_15 : decode c_L_write 15 = .ok (.iconst 0, 1) := by decide +kernel
theorem d_L_write_16 : decode c_L_write 16 = .ok (.ireturn, 1) := by decide +kernel
theorem d_L_read_0 : decode c_L_read 0 = .ok (.aload_n 2, 1) := by decide +kernel
theorem d_L_read_1 : decode c_L_read 1 = .ok (.iconst 0, 1) := by decide +kernel
theorem d_L_read_2 : decode c_L_read 2 = .ok (.aload_n 0, 1) := by decide +kernel
theorem d_L_read_3 : decode c_L_read 3 = .ok (.iload_n 1, 1) := by decide +kernel
theorem d_L_read_4 : decode c_L_read 4 = .ok (.invokevirtual 36, 3) := by decide +kernel
theorem d_L_read_7 : decode c_L_read 7 = .ok (.i2l, 1) := by decide +kernel
theorem d_L_read_8 : decode c_L_read 8 = .ok (.lastore, 1) := by decide +kernel
theorem d_L_read_9 : decode c_L_read 9 = .ok (.goto 9, 3) := by decide +kernel
theorem d_L_read_12 : decode c_L_read 12 = .ok (.astore_n 3, 1) := by decide +kernel
theorem d_L_read_13 : decode c_L_read 13 = .ok (.iconst 1, 1) := by decide +kernel
theorem d_L_read_14 : decode c_L_read 14 = .ok (.ireturn, 1) := by decide +kernel
theorem d_L_read_15 : decode c_L_read 15 = .ok (.astore_n 3, 1) := by decide +kernel
theorem d_L_read_16 : decode c_L_read 16 = .ok (.iconst 2, 1) := by decide +kernel
theorem d_L_read_17 : decode c_L_read 17 = .ok (.ireturn, 1) := by decide +kernel
theorem d_L_read_18 : decode c_L_read 18 = .ok (.iconst 0, 1) := by decide +kernel
theorem d_L_read_19 : decode c_L_read 19 = .ok (.ireturn, 1) := by decide +kernel
theorem d_L_lostAt_0 : decode c_L_lostAt 0 = .ok (.aload_n 2, 1) := by decide +kernel
theorem d_L_lostAt_1 : decode c_L_lostAt 1 = .ok (.iconst 0, 1) := by decide +kernel
theorem d_L_lostAt_2 : decode c_L_lostAt 2 = .ok (.aload_n 0, 1) := by decide +kernel
theorem d_L_lostAt_3 : decode c_L_lostAt 3 = .ok (.iload_n 1, 1) := by decide +kernel
theorem d_L_lostAt_4 : decode c_L_lostAt 4 = .ok (.invokevirtual 39, 3) := by decide +kernel
theorem d_L_lostAt_7 : decode c_L_lostAt 7 = .ok (.i2l, 1) := by decide +kernel
theorem d_L_lostAt_8 : decode c_L_lostAt 8 = .ok (.lastore, 1) := by decide +kernel
theorem d_L_lostAt_9 : decode c_L_lostAt 9 = .ok (.goto 6, 3) := by decide +kernel
theorem d_L_lostAt_12 : decode c_L_lostAt 12 = .ok (.astore_n 3, 1) := by decide +kernel
theorem d_L_lostAt_13 : decode c_L_lostAt 13 = .ok (.iconst 1, 1) := by decide +kernel
theorem d_L_lostAt_14 : decode c_L_lostAt 14 = .ok (.ireturn, 1) := by decide +kernel
theorem d_L_lostAt_15 : decode c_L_lostAt 15 = .ok (.iconst 0, 1) := by decide +kernel
theorem d_L_lostAt_16 : decode c_L_lostAt 16 = .ok (.ireturn, 1) := by decide +kernel
theorem d_L_count_0 : decode c_L_count 0 = .ok (.aload_n 2, 1) := by decide +kernel
theorem d_L_count_1 : decode c_L_count 1 = .ok (.iconst 0, 1) := by decide +kernel
theorem d_L_count_2 : decode c_L_count 2 = .ok (.aload_n 0, 1) := by decide +kernel
theorem d_L_count_3 : decode c_L_count 3 = .ok (.iload_n 1, 1) := by decide +kernel
theorem d_L_count_4 : decode c_L_count 4 = .ok (.invokevirtual 42, 3) := by decide +kernel
theorem d_L_count_7 : decode c_L_count 7 = .ok (.i2l, 1) := by decide +kernel
theorem d_L_count_8 : decode c_L_count 8 = .ok (.lastore, 1) := by decide +kernel
theorem d_L_count_9 : decode c_L_count 9 = .ok (.goto 6, 3) := by decide +kernel
theorem d_L_count_12 : decode c_L_count 12 = .ok (.astore_n 3, 1) := by decide +kernel
theorem d_L_count_13 : decode c_L_count 13 = .ok (.iconst 1, 1) := by decide +kernel
theorem d_L_count_14 : decode c_L_count 14 = .ok (.ireturn, 1) := by decide +kernel
theorem d_L_count_15 : decode c_L_count 15 = .ok (.iconst 0, 1) := by decide +kernel
theorem d_L_count_16 : decode c_L_count 16 = .ok (.ireturn, 1) := by decide +kernel
