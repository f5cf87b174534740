theorem d_Z_init_0 : decode c_Z_init 0 = .ok (.aload_n 0, 1) := by decide +kernel
theorem d_Z_init_1 : decode c_Z_init 1 = .ok (.invokespecial 3, 3) := by decide +kernel
theorem d_Z_init_4 : decode c_Z_init 4 = .ok (.aload_n 0, 1) := by decide +kernel
theorem d_Z_init_5 : decode c_Z_init 5 = .ok (.sipush 8192, 3) := by decide +kernel
theorem d_Z_init_8 : decode c_Z_init 8 = .ok (.newarray .byte, 2) := by decide +kernel
theorem d_Z_init_10 : decode c_Z_init 10 = .ok (.putfield 9, 3) := by decide +kernel
theorem d_Z_init_13 : decode c_Z_init 13 = .ok (.aload_n 0, 1) := by decide +kernel
theorem d_Z_init_14 : decode c_Z_init 14 = .ok (.sipush 512, 3) := by decide +kernel
theorem d_Z_init_17 : decode c_Z_init 17 = .ok (.anewarray 13, 3) := by decide +kernel
theorem d_Z_init_20 : decode c_Z_init 20 = .ok (.putfield 15, 3) := by decide +kernel
theorem d_Z_init_23 : decode c_Z_init 23 = .ok (.aload_n 0, 1) := by decide +kernel
theorem d_Z_init_24 : decode c_Z_init 24 = .ok (.new 19, 3) := by decide +kernel
theorem d_Z_init_27 : decode c_Z_init 27 = .ok (.dup, 1) := by decide +kernel
theorem d_Z_init_28 : decode c_Z_init 28 = .ok (.invokespecial 21, 3) := by decide +kernel
theorem d_Z_init_31 : decode c_Z_init 31 = .ok (.putfield 22, 3) := by decide +kernel
theorem d_Z_init_34 : decode c_Z_init 34 = .ok (.aload_n 0, 1) := by decide +kernel
theorem d_Z_init_35 : decode c_Z_init 35 = .ok (.iconst 0, 1) := by decide +kernel
theorem d_Z_init_36 : decode c_Z_init 36 = .ok (.putfield 26, 3) := by decide +kernel
theorem d_Z_init_39 : decode c_Z_init 39 = .ok (.aload_n 0, 1) := by decide +kernel
theorem d_Z_init_40 : decode c_Z_init 40 = .ok (.iconst 0, 1) := by decide +kernel
theorem d_Z_init_41 : decode c_Z_init 41 = .ok (.putfield 30, 3) := by decide +kernel
theorem d_Z_init_44 : decode c_Z_init 44 = .ok (.aload_n 0, 1) := by decide +kernel
theorem d_Z_init_45 : decode c_Z_init 45 = .ok (.iconst 0, 1) := by decide +kernel
theorem d_Z_init_46 : decode c_Z_init 46 = .ok (.putfield 33, 3) := by decide +kernel
theorem d_Z_init_49 : decode c_Z_init 49 = .ok (.aload_n 0, 1) := by decide +kernel
theorem d_Z_init_50 : decode c_Z_init 50 = .ok (.iconst 0, 1) := by decide +kernel
theorem d_Z_init_51 : decode c_Z_init 51 = .ok (.putfield 36, 3) := by decide +kernel
theorem d_Z_init_54 : decode c_Z_init 54 = .ok (.aload_n 0, 1) := by decide +kernel
theorem d_Z_init_55 : decode c_Z_init 55 = .ok (.sipush 255, 3) := by decide +kernel
theorem d_Z_init_58 : decode c_Z_init 58 = .ok (.anewarray 13, 3) := by decide +kernel
theorem d_Z_init_61 : decode c_Z_init 61 = .ok (.putfield 39, 3) := by decide +kernel
theorem d_Z_init_64 : decode c_Z_init 64 = .ok (.aload_n 0, 1) := by decide +kernel
theorem d_Z_init_65 : decode c_Z_init 65 = .ok (.iconst 0, 1) := by decide +kernel
theorem d_Z_init_66 : decode c_Z_init 66 = .ok (.putfield 42, 3) := by decide +kernel
theorem d_Z_init_69 : decode c_Z_init 69 = .ok (.aload_n 0, 1) := by decide +kernel
theorem d_Z_init_70 : decode c_Z_init 70 = .ok (.sipush 255, 3) := by decide +kernel
theorem d_Z_init_73 : decode c_Z_init 73 = .ok (.newarray .int, 2) := by decide +kernel
theorem d_Z_init_75 : decode c_Z_init 75 = .ok (.putfield 45, 3) := by decide +kernel
theorem d_Z_init_78 : decode c_Z_init 78 = .ok (.aload_n 0, 1) := by decide +kernel
theorem d_Z_init_79 : decode c_Z_init 79 = .ok (.iconst 0, 1) := by decide +kernel
theorem d_Z_init_80 : decode c_Z_init 80 = .ok (.putfield 49, 3) := by decide +kernel
theorem d_Z_init_83 : decode c_Z_init 83 = .ok (.return_, 1) := by decide +kernel
theorem d_Z_lost_0 : decode c_Z_lost 0 = .ok (.aload_n 0, 1) := by decide +kernel
theorem d_Z_lost_1 : decode c_Z_lost 1 = .ok (.invokevirtual 109, 3) := by decide +kernel
theorem d_Z_lost_4 : decode c_Z_lost 4 = .ok (.aload_n 0, 1) := by decide +kernel
theorem d_Z_lost_5 : decode c_Z_lost 5 = .ok (.iload_n 1, 1) := by decide +kernel
theorem d_Z_lost_6 : decode c_Z_lost 6 = .ok (.invokevirtual 112, 3) := by decide +kernel
theorem d_Z_lost_9 : decode c_Z_lost 9 = .ok (.aload_n 0, 1) := by decide +kernel
theorem d_Z_lost_10 : decode c_Z_lost 10 = .ok (.iload_n 2, 1) := by decide +kernel
theorem d_Z_lost_11 : decode c_Z_lost 11 = .ok (.invokevirtual 112, 3) := by decide +kernel
theorem d_Z_lost_14 : decode c_Z_lost 14 = .ok (.iconst 0, 1) := by decide +kernel
theorem d_Z_lost_15 : decode c_Z_lost 15 = .ok (.istore_n 3, 1) := by decide +kernel
theorem d_Z_lost_16 : decode c_Z_lost 16 = .ok (.iload_n 3, 1) := by decide +kernel
theorem d_Z_lost_17 : decode c_Z_lost 17 = .ok (.aload_n 0, 1) := by decide +kernel
theorem d_Z_lost_18 : decode c_Z_lost 18 = .ok (.getfield 42, 3) := by decide +kernel
theorem d_Z_lost_21 : decode c_Z_lost 21 = .ok (.if_icmp .ge 26, 3) := by decide +kernel
theorem d_Z_lost_24 : decode c_Z_lost 24 = .ok (.iload_n 3, 1) := by decide +kernel
theorem d_Z_lost_25 : decode c_Z_lost 25 = .ok (.sipush 255, 3) := by decide +kernel
theorem d_Z_lost_28 : decode c_Z_lost 28 = .ok (.if_icmp .ge 19, 3) := by decide +kernel
theorem d_Z_lost_31 : decode c_Z_lost 31 = .ok (.aload_n 0, 1) := by decide +kernel
theorem d_Z_lost_32 : decode c_Z_lost 32 = .ok (.aload_n 0, 1) := by decide +kernel
theorem d_Z_lost_33 : decode c_Z_lost 33 = .ok (.getfield 39, 3) := by decide +kernel
theorem d_Z_lost_36 : decode c_Z_lost 36 = .ok (.iload_n 3, 1) := by decide +kernel
theorem d_Z_lost_37 : decode c_Z_lost 37 = .ok (.aaload, 1) := by decide +kernel
theorem d_Z_lost_38 : decode c_Z_lost 38 = .ok (.invokevirtual 115, 3) := by decide +kernel
theorem d_Z_lost_41 : decode c_Z_lost 41 = .ok (.iinc 3 1, 3) := by decide +kernel
theorem d_Z_lost_44 : decode c_Z_lost 44 = .ok (.goto (-28), 3) := by decide +kernel
theorem d_Z_lost_47 : decode c_Z_lost 47 = .ok (.aload_n 0, 1) := by decide +kernel
theorem d_Z_lost_48 : decode c_Z_lost 48 = .ok (.invokevirtual 118, 3) := by decide +kernel
theorem d_Z_lost_51 : decode c_Z_lost 51 = .ok (.aload_n 0, 1) := by decide +kernel
theorem d_Z_lost_52 : decode c_Z_lost 52 = .ok (.getfield 49, 3) := by decide +kernel
theorem d_Z_lost_55 : decode c_Z_lost 55 = .ok (.ireturn, 1) := by decide +kernel
theorem d_Z_forgetReached_0 : decode c_Z_forgetReached 0 = .ok (.iconst 0, 1) := by decide +kernel
theorem d_Z_forgetReached_1 : decode c_Z_forgetReached 1 = .ok (.istore_n 1, 1) := by decide +kernel
theorem d_Z_forgetReached_2 : decode c_Z_forgetReached 2 = .ok (.iload_n 1, 1) := by decide +kernel
theorem d_Z_forgetReached_3 : decode c_Z_forgetReached 3 = .ok (.aload_n 0, 1) := by decide +kernel
theorem d_Z_forgetReached_4 : decode c_Z_forgetReached 4 = .ok (.getfield 42, 3) := by decide +kernel
theorem d_Z_forgetReached_7 : decode c_Z_forgetReached 7 = .ok (.if_icmp .ge 19, 3) := by decide +kernel
theorem d_Z_forgetReached_10 : decode c_Z_forgetReached 10 = .ok (.aload_n 0, 1) := by decide +kernel
theorem d_Z_forgetReached_11 : decode c_Z_forgetReached 11 = .ok (.getfield 39, 3) := by decide +kernel
theorem d_Z_forgetReached_14 : decode c_Z_forgetReached 14 = .ok (.iload_n 1, 1) := by decide +kernel
theorem d_Z_forgetReached_15 : decode c_Z_forgetReached 15 = .ok (.aaload, 1) := by decide +kernel
theorem d_Z_forgetReached_16 : decode c_Z_forgetReached 16 = .ok (.iconst 0, 1) := by decide +kernel
theorem d_Z_forgetReached_17 : decode c_Z_forgetReached 17 = .ok (.putfield 188, 3) := by decide +kernel
theorem d_Z_forgetReached_20 : decode c_Z_forgetReached 20 = .ok (.iinc 1 1, 3) := by decide +kernel
theorem d_Z_forgetReached_23 : decode c_Z_forgetReached 23 = .ok (.goto (-21), 3) := by decide +kernel
theorem d_Z_forgetReached_26 : decode c_Z_forgetReached 26 = .ok (.aload_n 0, 1) := by decide +kernel
theorem d_Z_forgetReached_27 : decode c_Z_forgetReached 27 = .ok (.iconst 0, 1) := by decide +kernel
theorem d_Z_forgetReached_28 : decode c_Z_forgetReached 28 = .ok (.putfield 42, 3) := by decide +kernel
theorem d_Z_forgetReached_31 : decode c_Z_forgetReached 31 = .ok (.return_, 1) := by decide +kernel
theorem d_Z_reach_0 : decode c_Z_reach 0 = .ok (.aload_n 0, 1) := by decide +kernel
theorem d_Z_reach_1 : decode c_Z_reach 1 = .ok (.iload_n 1, 1) := by decide +kernel
theorem d_Z_reach_2 : decode c_Z_reach 2 = .ok (.invokevirtual 191, 3) := by decide +kernel
theorem d_Z_reach_5 : decode c_Z_reach 5 = .ok (.astore_n 2, 1) := by decide +kernel
theorem d_Z_reach_6 : decode c_Z_reach 6 = .ok (.aload_n 2, 1) := by decide +kernel
theorem d_Z_reach_7 : decode c_Z_reach 7 = .ok (.ifnull 20, 3) := by decide +kernel
theorem d_Z_reach_10 : decode c_Z_reach 10 = .ok (.aload_n 2, 1) := by decide +kernel
theorem d_Z_reach_11 : decode c_Z_reach 11 = .ok (.getfield 188, 3) := by decide +kernel
theorem d_Z_reach_14 : decode c_Z_reach 14 = .ok (.ifCond .ne 13, 3) := by decide +kernel
theorem d_Z_reach_17 : decode c_Z_reach 17 = .ok (.aload_n 0, 1) := by decide +kernel
theorem d_Z_reach_18 : decode c_Z_reach 18 = .ok (.getfield 42, 3) := by decide +kernel
theorem d_Z_reach_21 : decode c_Z_reach 21 = .ok (.sipush 255, 3) := by decide +kernel
theorem d_Z_reach_24 : decode c_Z_reach 24 = .ok (.if_icmp .lt 4, 3) := by decide +kernel
theorem d_Z_reach_27 : decode c_Z_reach 27 = .ok (.return_, 1) := by decide +kernel
theorem d_Z_reach_28 : decode c_Z_reach 28 = .ok (.aload_n 2, 1) := by decide +kernel
theorem d_Z_reach_29 : decode c_Z_reach 29 = .ok (.iconst 1, 1) := by decide +kernel
theorem d_Z_reach_30 : decode c_Z_reach 30 = .ok (.putfield 188, 3) := by decide +kernel
theorem d_Z_reach_33 : decode c_Z_reach 33 = .ok (.aload_n 0, 1) := by decide +kernel
theorem d_Z_reach_34 : decode c_Z_reach 34 = .ok (.getfield 39, 3) := by decide +kernel
theorem d_Z_reach_37 : decode c_Z_reach 37 = .ok (.aload_n 0, 1) := by decide +kernel
theorem d_Z_reach_38 : decode c_Z_reach 38 = .ok (.getfield 42, 3) := by decide +kernel
theorem d_Z_reach_41 : decode c_Z_reach 41 = .ok (.aload_n 2, 1) := by decide +kernel
theorem d_Z_reach_42 : decode c_Z_reach 42 = .ok (.aastore, 1) := by decide +kernel
theorem d_Z_reach_43 : decode c_Z_reach 43 = .ok (.aload_n 0, 1) := by decide +kernel
theorem d_Z_reach_44 : decode c_Z_reach 44 = .ok (.dup, 1) := by decide +kernel
theorem d_Z_reach_45 : decode c_Z_reach 45 = .ok (.getfield 42, 3) := by decide +kernel
theorem d_Z_reach_48 : decode c_Z_reach 48 = .ok (.iconst 1, 1) := by decide +kernel
theorem d_Z_reach_49 : decode c_Z_reach 49 = .ok (.iadd, 1) := by decide +kernel
theorem d_Z_reach_50 : decode c_Z_reach 50 = .ok (.putfield 42, 3) := by decide +kernel
theorem d_Z_reach_53 : decode c_Z_reach 53 = .ok (.return_, 1) := by decide +kernel
theorem d_Z_ledToBy_0 : decode c_Z_ledToBy 0 = .ok (.aload_n 0, 1) := by decide +kernel
theorem d_Z_ledToBy_1 : decode c_Z_ledToBy 1 = .ok (.iload_n 1, 1) := by decide +kernel
theorem d_Z_ledToBy_2 : decode c_Z_ledToBy 2 = .ok (.invokevirtual 150, 3) := by decide +kernel
theorem d_Z_ledToBy_5 : decode c_Z_ledToBy 5 = .ok (.astore_n 2, 1) := by decide +kernel
theorem d_Z_ledToBy_6 : decode c_Z_ledToBy 6 = .ok (.aload_n 2, 1) := by decide +kernel
theorem d_Z_ledToBy_7 : decode c_Z_ledToBy 7 = .ok (.ifnull 12, 3) := by decide +kernel
theorem d_Z_ledToBy_10 : decode c_Z_ledToBy 10 = .ok (.aload_n 2, 1) := by decide +kernel
theorem d_Z_ledToBy_11 : decode c_Z_ledToBy 11 = .ok (.getfield 95, 3) := by decide +kernel
theorem d_Z_ledToBy_14 : decode c_Z_ledToBy 14 = .ok (.ifCond .ne 5, 3) := by decide +kernel
theorem d_Z_ledToBy_17 : decode c_Z_ledToBy 17 = .ok (.aload_n 2, 1) := by decide +kernel
theorem d_Z_ledToBy_18 : decode c_Z_ledToBy 18 = .ok (.areturn, 1) := by decide +kernel
theorem d_Z_ledToBy_19 : decode c_Z_ledToBy 19 = .ok (.aload_n 0, 1) := by decide +kernel
theorem d_Z_ledToBy_20 : decode c_Z_ledToBy 20 = .ok (.iload_n 1, 1) := by decide +kernel
theorem d_Z_ledToBy_21 : decode c_Z_ledToBy 21 = .ok (.invokevirtual 99, 3) := by decide +kernel
theorem d_Z_ledToBy_24 : decode c_Z_ledToBy 24 = .ok (.areturn, 1) := by decide +kernel
theorem d_Z_standingAt_0 : decode c_Z_standingAt 0 = .ok (.iload_n 1, 1) := by decide +kernel
theorem d_Z_standingAt_1 : decode c_Z_standingAt 1 = .ok (.invokestatic 138, 3) := by decide +kernel
theorem d_Z_standingAt_4 : decode c_Z_standingAt 4 = .ok (.ifCond .ne 5, 3) := by decide +kernel
theorem d_Z_standingAt_7 : decode c_Z_standingAt 7 = .ok (.aconst_null, 1) := by decide +kernel
theorem d_Z_standingAt_8 : decode c_Z_standingAt 8 = .ok (.areturn, 1) := by decide +kernel
theorem d_Z_standingAt_9 : decode c_Z_standingAt 9 = .ok (.aload_n 0, 1) := by decide +kernel
theorem d_Z_standingAt_10 : decode c_Z_standingAt 10 = .ok (.getfield 15, 3) := by decide +kernel
theorem d_Z_standingAt_13 : decode c_Z_standingAt 13 = .ok (.iload_n 1, 1) := by decide +kernel
theorem d_Z_standingAt_14 : decode c_Z_standingAt 14 = .ok (.bipush 16, 2) := by decide +kernel
theorem d_Z_standingAt_16 : decode c_Z_standingAt 16 = .ok (.idiv, 1) := by decide +kernel
theorem d_Z_standingAt_17 : decode c_Z_standingAt 17 = .ok (.aaload, 1) := by decide +kernel
theorem d_Z_standingAt_18 : decode c_Z_standingAt 18 = .ok (.astore_n 2, 1) := by decide +kernel
theorem d_Z_standingAt_19 : decode c_Z_standingAt 19 = .ok (.aload_n 2, 1) := by decide +kernel
theorem d_Z_standingAt_20 : decode c_Z_standingAt 20 = .ok (.ifnull 15, 3) := by decide +kernel
theorem d_Z_standingAt_23 : decode c_Z_standingAt 23 = .ok (.aload_n 2, 1) := by decide +kernel
theorem d_Z_standingAt_24 : decode c_Z_standingAt 24 = .ok (.getfield 60, 3) := by decide +kernel
theorem d_Z_standingAt_27 : decode c_Z_standingAt 27 = .ok (.iload_n 1, 1) := by decide +kernel
theorem d_Z_standingAt_28 : decode c_Z_standingAt 28 = .ok (.if_icmp .ne 7, 3) := by decide +kernel
theorem d_Z_standingAt_31 : decode c_Z_standingAt 31 = .ok (.aload_n 2, 1) := by decide +kernel
theorem d_Z_standingAt_32 : decode c_Z_standingAt 32 = .ok (.goto 4, 3) := by decide +kernel
theorem d_Z_standingAt_35 : decode c_Z_standingAt 35 = .ok (.aconst_null, 1) := by decide +kernel
theorem d_Z_standingAt_36 : decode c_Z_standingAt 36 = .ok (.areturn, 1) := by decide +kernel
theorem d_Z_isOctet_0 : decode c_Z_isOctet 0 = .ok (.iload_n 0, 1) := by decide +kernel
theorem d_Z_isOctet_1 : decode c_Z_isOctet 1 = .ok (.ifCond .lt 14, 3) := by decide +kernel
theorem d_Z_isOctet_4 : decode c_Z_isOctet 4 = .ok (.iload_n 0, 1) := by decide +kernel
theorem d_Z_isOctet_5 : decode c_Z_isOctet 5 = .ok (.sipush 8192, 3) := by decide +kernel
theorem d_Z_isOctet_8 : decode c_Z_isOctet 8 = .ok (.if_icmp .ge 7, 3) := by decide +kernel
theorem d_Z_isOctet_11 : decode c_Z_isOctet 11 = .ok (.iconst 1, 1) := by decide +kernel
theorem d_Z_isOctet_12 : decode c_Z_isOctet 12 = .ok (.goto 4, 3) := by decide +kernel
theorem d_Z_isOctet_15 : decode c_Z_isOctet 15 = .ok (.iconst 0, 1) := by decide +kernel
theorem d_Z_isOctet_16 : decode c_Z_isOctet 16 = .ok (.ireturn, 1) := by decide +kernel
theorem d_Z_liveHaving_0 : decode c_Z_liveHaving 0 = .ok (.iload_n 1, 1) := by decide +kernel
theorem d_Z_liveHaving_1 : decode c_Z_liveHaving 1 = .ok (.invokestatic 138, 3) := by decide +kernel
theorem d_Z_liveHaving_4 : decode c_Z_liveHaving 4 = .ok (.ifCond .ne 5, 3) := by decide +kernel
theorem d_Z_liveHaving_7 : decode c_Z_liveHaving 7 = .ok (.aconst_null, 1) := by decide +kernel
theorem d_Z_liveHaving_8 : decode c_Z_liveHaving 8 = .ok (.areturn, 1) := by decide +kernel
theorem d_Z_liveHaving_9 : decode c_Z_liveHaving 9 = .ok (.aload_n 0, 1) := by decide +kernel
theorem d_Z_liveHaving_10 : decode c_Z_liveHaving 10 = .ok (.getfield 15, 3) := by decide +kernel
theorem d_Z_liveHaving_13 : decode c_Z_liveHaving 13 = .ok (.iload_n 1, 1) := by decide +kernel
theorem d_Z_liveHaving_14 : decode c_Z_liveHaving 14 = .ok (.bipush 16, 2) := by decide +kernel
theorem d_Z_liveHaving_16 : decode c_Z_liveHaving 16 = .ok (.idiv, 1) := by decide +kernel
theorem d_Z_liveHaving_17 : decode c_Z_liveHaving 17 = .ok (.aaload, 1) := by decide +kernel
theorem d_Z_liveHaving_18 : decode c_Z_liveHaving 18 = .ok (.astore_n 2, 1) := by decide +kernel
theorem d_Z_liveHaving_19 : decode c_Z_liveHaving 19 = .ok (.aload_n 2, 1) := by decide +kernel
theorem d_Z_liveHaving_20 : decode c_Z_liveHaving 20 = .ok (.ifnull 22, 3) := by decide +kernel
theorem d_Z_liveHaving_23 : decode c_Z_liveHaving 23 = .ok (.aload_n 2, 1) := by decide +kernel
theorem d_Z_liveHaving_24 : decode c_Z_liveHaving 24 = .ok (.getfield 95, 3) := by decide +kernel
theorem d_Z_liveHaving_27 : decode c_Z_liveHaving 27 = .ok (.ifCond .ne 15, 3) := by decide +kernel
theorem d_Z_liveHaving_30 : decode c_Z_liveHaving 30 = .ok (.aload_n 2, 1) := by decide +kernel
theorem d_Z_liveHaving_31 : decode c_Z_liveHaving 31 = .ok (.iload_n 1, 1) := by decide +kernel
theorem d_Z_liveHaving_32 : decode c_Z_liveHaving 32 = .ok (.invokevirtual 92, 3) := by decide +kernel
theorem d_Z_liveHaving_35 : decode c_Z_liveHaving 35 = .ok (.ifCond .eq 7, 3) := by decide +kernel
theorem d_Z_liveHaving_38 : decode c_Z_liveHaving 38 = .ok (.aload_n 2, 1) := by decide +kernel
theorem d_Z_liveHaving_39 : decode c_Z_liveHaving 39 = .ok (.goto 4, 3) := by decide +kernel
theorem d_Z_liveHaving_42 : decode c_Z_liveHaving 42 = .ok (.aconst_null, 1) := by decide +kernel
theorem d_Z_liveHaving_43 : decode c_Z_liveHaving 43 = .ok (.areturn, 1) := by decide +kernel
theorem d_B_has_0 : decode c_B_has 0 = .ok (.iload_n 1, 1) := by decide +kernel
theorem d_B_has_1 : decode c_B_has 1 = .ok (.aload_n 0, 1) := by decide +kernel
theorem d_B_has_2 : decode c_B_has 2 = .ok (.getfield 16, 3) := by decide +kernel
theorem d_B_has_5 : decode c_B_has 5 = .ok (.if_icmp .lt 20, 3) := by decide +kernel
theorem d_B_has_8 : decode c_B_has 8 = .ok (.iload_n 1, 1) := by decide +kernel
theorem d_B_has_9 : decode c_B_has 9 = .ok (.aload_n 0, 1) := by decide +kernel
theorem d_B_has_10 : decode c_B_has 10 = .ok (.getfield 16, 3) := by decide +kernel
theorem d_B_has_13 : decode c_B_has 13 = .ok (.isub, 1) := by decide +kernel
theorem d_B_has_14 : decode c_B_has 14 = .ok (.aload_n 0, 1) := by decide +kernel
theorem d_B_has_15 : decode c_B_has 15 = .ok (.getfield 20, 3) := by decide +kernel
theorem d_B_has_18 : decode c_B_has 18 = .ok (.if_icmp .ge 7, 3) := by decide +kernel
theorem d_B_has_21 : decode c_B_has 21 = .ok (.iconst 1, 1) := by decide +kernel
theorem d_B_has_22 : decode c_B_has 22 = .ok (.goto 4, 3) := by decide +kernel
theorem d_B_has_25 : decode c_B_has 25 = .ok (.iconst 0, 1) := by decide +kernel
theorem d_B_has_26 : decode c_B_has 26 = .ok (.ireturn, 1) := by decide +kernel
theorem d_Z_reachFromWordsOf_0 : decode c_Z_reachFromWordsOf 0 = .ok (.iconst 0, 1) := by decide +kernel
theorem d_Z_reachFromWordsOf_1 : decode c_Z_reachFromWordsOf 1 = .ok (.istore_n 2, 1) := by decide +kernel
theorem d_Z_reachFromWordsOf_2 : decode c_Z_reachFromWordsOf 2 = .ok (.iload_n 2, 1) := by decide +kernel
theorem d_Z_reachFromWordsOf_3 : decode c_Z_reachFromWordsOf 3 = .ok (.iconst 4, 1) := by decide +kernel
theorem d_Z_reachFromWordsOf_4 : decode c_Z_reachFromWordsOf 4 = .ok (.iadd, 1) := by decide +kernel
theorem d_Z_reachFromWordsOf_5 : decode c_Z_reachFromWordsOf 5 = .ok (.aload_n 1, 1) := by decide +kernel
theorem d_Z_reachFromWordsOf_6 : decode c_Z_reachFromWordsOf 6 = .ok (.getfield 70, 3) := by decide +kernel
theorem d_Z_reachFromWordsOf_9 : decode c_Z_reachFromWordsOf 9 = .ok (.if_icmp .gt 23, 3) := by decide +kernel
theorem d_Z_reachFromWordsOf_12 : decode c_Z_reachFromWordsOf 12 = .ok (.aload_n 0, 1) := by decide +kernel
theorem d_Z_reachFromWordsOf_13 : decode c_Z_reachFromWordsOf 13 = .ok (.aload_n 0, 1) := by decide +kernel
theorem d_Z_reachFromWordsOf_14 : decode c_Z_reachFromWordsOf 14 = .ok (.aload_n 1, 1) := by decide +kernel
theorem d_Z_reachFromWordsOf_15 : decode c_Z_reachFromWordsOf 15 = .ok (.getfield 60, 3) := by decide +kernel
theorem d_Z_reachFromWordsOf_18 : decode c_Z_reachFromWordsOf 18 = .ok (.iload_n 2, 1) := by decide +kernel
theorem d_Z_reachFromWordsOf_19 : decode c_Z_reachFromWordsOf 19 = .ok (.iadd, 1) := by decide +kernel
theorem d_Z_reachFromWordsOf_20 : decode c_Z_reachFromWordsOf 20 = .ok (.invokevirtual 105, 3) := by decide +kernel
theorem d_Z_reachFromWordsOf_23 : decode c_Z_reachFromWordsOf 23 = .ok (.invokevirtual 112, 3) := by decide +kernel
theorem d_Z_reachFromWordsOf_26 : decode c_Z_reachFromWordsOf 26 = .ok (.iinc 2 4, 3) := by decide +kernel
theorem d_Z_reachFromWordsOf_29 : decode c_Z_reachFromWordsOf 29 = .ok (.goto (-27), 3) := by decide +kernel
theorem d_Z_reachFromWordsOf_32 : decode c_Z_reachFromWordsOf 32 = .ok (.return_, 1) := by decide +kernel
theorem d_Z_wordAt_0 : decode c_Z_wordAt 0 = .ok (.iconst 0, 1) := by decide +kernel
theorem d_Z_wordAt_1 : decode c_Z_wordAt 1 = .ok (.istore_n 2, 1) := by decide +kernel
theorem d_Z_wordAt_2 : decode c_Z_wordAt 2 = .ok (.iconst 0, 1) := by decide +kernel
theorem d_Z_wordAt_3 : decode c_Z_wordAt 3 = .ok (.istore_n 3, 1) := by decide +kernel
theorem d_Z_wordAt_4 : decode c_Z_wordAt 4 = .ok (.iload_n 3, 1) := by decide +kernel
theorem d_Z_wordAt_5 : decode c_Z_wordAt 5 = .ok (.iconst 4, 1) := by decide +kernel
theorem d_Z_wordAt_6 : decode c_Z_wordAt 6 = .ok (.if_icmp .ge 29, 3) := by decide +kernel
theorem d_Z_wordAt_9 : decode c_Z_wordAt 9 = .ok (.iload_n 2, 1) := by decide +kernel
theorem d_Z_wordAt_10 : decode c_Z_wordAt 10 = .ok (.aload_n 0, 1) := by decide +kernel
theorem d_Z_wordAt_11 : decode c_Z_wordAt 11 = .ok (.getfield 9, 3) := by decide +kernel
theorem d_Z_wordAt_14 : decode c_Z_wordAt 14 = .ok (.iload_n 1, 1) := by decide +kernel
theorem d_Z_wordAt_15 : decode c_Z_wordAt 15 = .ok (.iload_n 3, 1) := by decide +kernel
theorem d_Z_wordAt_16 : decode c_Z_wordAt 16 = .ok (.iadd, 1) := by decide +kernel
theorem d_Z_wordAt_17 : decode c_Z_wordAt 17 = .ok (.baload, 1) := by decide +kernel
theorem d_Z_wordAt_18 : decode c_Z_wordAt 18 = .ok (.sipush 255, 3) := by decide +kernel
theorem d_Z_wordAt_21 : decode c_Z_wordAt 21 = .ok (.iand, 1) := by decide +kernel
theorem d_Z_wordAt_22 : decode c_Z_wordAt 22 = .ok (.bipush 8, 2) := by decide +kernel
theorem d_Z_wordAt_24 : decode c_Z_wordAt 24 = .ok (.iload_n 3, 1) := by decide +kernel
theorem d_Z_wordAt_25 : decode c_Z_wordAt 25 = .ok (.imul, 1) := by decide +kernel
theorem d_Z_wordAt_26 : decode c_Z_wordAt 26 = .ok (.ishl, 1) := by decide +kernel
theorem d_Z_wordAt_27 : decode c_Z_wordAt 27 = .ok (.ior, 1) := by decide +kernel
theorem d_Z_wordAt_28 : decode c_Z_wordAt 28 = .ok (.istore_n 2, 1) := by decide +kernel
theorem d_Z_wordAt_29 : decode c_Z_wordAt 29 = .ok (.iinc 3 1, 3) := by decide +kernel
theorem d_Z_wordAt_32 : decode c_Z_wordAt 32 = .ok (.goto (-28), 3) := by decide +kernel
theorem d_Z_wordAt_35 : decode c_Z_wordAt 35 = .ok (.iload_n 2, 1) := by decide +kernel
theorem d_Z_wordAt_36 : decode c_Z_wordAt 36 = .ok (.ireturn, 1) := by decide +kernel
theorem d_Z_noteLost_0 : decode c_Z_noteLost 0 = .ok (.aload_n 0, 1) := by decide +kernel
theorem d_Z_noteLost_1 : decode c_Z_noteLost 1 = .ok (.iconst 0, 1) := by decide +kernel
theorem d_Z_noteLost_2 : decode c_Z_noteLost 2 = .ok (.putfield 49, 3) := by decide +kernel
theorem d_Z_noteLost_5 : decode c_Z_noteLost 5 = .ok (.iconst 0, 1) := by decide +kernel
theorem d_Z_noteLost_6 : decode c_Z_noteLost 6 = .ok (.istore_n 1, 1) := by decide +kernel
theorem d_Z_noteLost_7 : decode c_Z_noteLost 7 = .ok (.iload_n 1, 1) := by decide +kernel
theorem d_Z_noteLost_8 : decode c_Z_noteLost 8 = .ok (.sipush 512, 3) := by decide +kernel
theorem d_Z_noteLost_11 : decode c_Z_noteLost 11 = .ok (.if_icmp .ge 69, 3) := by decide +kernel
theorem d_Z_noteLost_14 : decode c_Z_noteLost 14 = .ok (.aload_n 0, 1) := by decide +kernel
theorem d_Z_noteLost_15 : decode c_Z_noteLost 15 = .ok (.iload_n 1, 1) := by decide +kernel
theorem d_Z_noteLost_16 : decode c_Z_noteLost 16 = .ok (.bipush 16, 2) := by decide +kernel
theorem d_Z_noteLost_18 : decode c_Z_noteLost 18 = .ok (.imul, 1) := by decide +kernel
theorem d_Z_noteLost_19 : decode c_Z_noteLost 19 = .ok (.invokevirtual 150, 3) := by decide +kernel
theorem d_Z_noteLost_22 : decode c_Z_noteLost 22 = .ok (.astore_n 2, 1) := by decide +kernel
theorem d_Z_noteLost_23 : decode c_Z_noteLost 23 = .ok (.aload_n 2, 1) := by decide +kernel
theorem d_Z_noteLost_24 : decode c_Z_noteLost 24 = .ok (.ifnull 50, 3) := by decide +kernel
theorem d_Z_noteLost_27 : decode c_Z_noteLost 27 = .ok (.aload_n 2, 1) := by decide +kernel
theorem d_Z_noteLost_28 : decode c_Z_noteLost 28 = .ok (.getfield 95, 3) := by decide +kernel
theorem d_Z_noteLost_31 : decode c_Z_noteLost 31 = .ok (.ifCond .ne 43, 3) := by decide +kernel
theorem d_Z_noteLost_34 : decode c_Z_noteLost 34 = .ok (.aload_n 2, 1) := by decide +kernel
theorem d_Z_noteLost_35 : decode c_Z_noteLost 35 = .ok (.getfield 188, 3) := by decide +kernel
theorem d_Z_noteLost_38 : decode c_Z_noteLost 38 = .ok (.ifCond .ne 36, 3) := by decide +kernel
theorem d_Z_noteLost_41 : decode c_Z_noteLost 41 = .ok (.aload_n 0, 1) := by decide +kernel
theorem d_Z_noteLost_42 : decode c_Z_noteLost 42 = .ok (.getfield 49, 3) := by decide +kernel
theorem d_Z_noteLost_45 : decode c_Z_noteLost 45 = .ok (.sipush 255, 3) := by decide +kernel
theorem d_Z_noteLost_48 : decode c_Z_noteLost 48 = .ok (.if_icmp .ge 26, 3) := by decide +kernel
theorem d_Z_noteLost_51 : decode c_Z_noteLost 51 = .ok (.aload_n 0, 1) := by decide +kernel
theorem d_Z_noteLost_52 : decode c_Z_noteLost 52 = .ok (.getfield 45, 3) := by decide +kernel
theorem d_Z_noteLost_55 : decode c_Z_noteLost 55 = .ok (.aload_n 0, 1) := by decide +kernel
theorem d_Z_noteLost_56 : decode c_Z_noteLost 56 = .ok (.getfield 49, 3) := by decide +kernel
theorem d_Z_noteLost_59 : decode c_Z_noteLost 59 = .ok (.aload_n 2, 1) := by decide +kernel
theorem d_Z_noteLost_60 : decode c_Z_noteLost 60 = .ok (.getfield 60, 3) := by decide +kernel
theorem d_Z_noteLost_63 : decode c_Z_noteLost 63 = .ok (.iastore, 1) := by decide +kernel
theorem d_Z_noteLost_64 : decode c_Z_noteLost 64 = .ok (.aload_n 0, 1) := by decide +kernel
theorem d_Z_noteLost_65 : decode c_Z_noteLost 65 = .ok (.dup, 1) := by decide +kernel
theorem d_Z_noteLost_66 : decode c_Z_noteLost 66 = .ok (.getfield 49, 3) := by decide +kernel
theorem d_Z_noteLost_69 : decode c_Z_noteLost 69 = .ok (.iconst 1, 1) := by decide +kernel
theorem d_Z_noteLost_70 : decode c_Z_noteLost 70 = .ok (.iadd, 1) := by decide +kernel
theorem d_Z_noteLost_71 : decode c_Z_noteLost 71 = .ok (.putfield 49, 3) := by decide +kernel
theorem d_Z_noteLost_74 : decode c_Z_noteLost 74 = .ok (.iinc 1 1, 3) := by decide +kernel
theorem d_Z_noteLost_77 : decode c_Z_noteLost 77 = .ok (.goto (-70), 3) := by decide +kernel
theorem d_Z_noteLost_80 : decode c_Z_noteLost 80 = .ok (.return_, 1) := by decide +kernel
theorem d_Z_get_0 : decode c_Z_get 0 = .ok (.iload_n 1, 1) := by decide +kernel
theorem d_Z_get_1 : decode c_Z_get 1 = .ok (.invokestatic 52, 3) := by decide +kernel
theorem d_Z_get_4 : decode c_Z_get 4 = .ok (.aload_n 0, 1) := by decide +kernel
theorem d_Z_get_5 : decode c_Z_get 5 = .ok (.iload_n 1, 1) := by decide +kernel
theorem d_Z_get_6 : decode c_Z_get 6 = .ok (.invokevirtual 56, 3) := by decide +kernel
theorem d_Z_get_9 : decode c_Z_get 9 = .ok (.astore_n 2, 1) := by decide +kernel
theorem d_Z_get_10 : decode c_Z_get 10 = .ok (.aload_n 2, 1) := by decide +kernel
theorem d_Z_get_11 : decode c_Z_get 11 = .ok (.ifnonnull 7, 3) := by decide +kernel
theorem d_Z_get_14 : decode c_Z_get 14 = .ok (.iconst 0, 1) := by decide +kernel
theorem d_Z_get_15 : decode c_Z_get 15 = .ok (.goto 7, 3) := by decide +kernel
theorem d_Z_get_18 : decode c_Z_get 18 = .ok (.aload_n 2, 1) := by decide +kernel
theorem d_Z_get_19 : decode c_Z_get 19 = .ok (.getfield 60, 3) := by decide +kernel
theorem d_Z_get_22 : decode c_Z_get 22 = .ok (.ireturn, 1) := by decide +kernel
theorem d_Z_refuseWrongSize_0 : decode c_Z_refuseWrongSize 0 = .ok (.iload_n 0, 1) := by decide +kernel
theorem d_Z_refuseWrongSize_1 : decode c_Z_refuseWrongSize 1 = .ok (.ifCond .lt 10, 3) := by decide +kernel
theorem d_Z_refuseWrongSize_4 : decode c_Z_refuseWrongSize 4 = .ok (.iload_n 0, 1) := by decide +kernel
theorem d_Z_refuseWrongSize_5 : decode c_Z_refuseWrongSize 5 = .ok (.sipush 2048, 3) := by decide +kernel
theorem d_Z_refuseWrongSize_8 : decode c_Z_refuseWrongSize 8 = .ok (.if_icmp .le 13, 3) := by decide +kernel
theorem d_Z_refuseWrongSize_11 : decode c_Z_refuseWrongSize 11 = .ok (.new 131, 3) := by decide +kernel
theorem d_Z_refuseWrongSize_14 : decode c_Z_refuseWrongSize 14 = .ok (.dup, 1) := by decide +kernel
theorem d_Z_refuseWrongSize_15 : decode c_Z_refuseWrongSize 15 = .ok (.ldc 136, 2) := by decide +kernel
theorem d_Z_refuseWrongSize_17 : decode c_Z_refuseWrongSize 17 = .ok (.invokespecial 135, 3) := by decide +kernel
theorem d_Z_refuseWrongSize_20 : decode c_Z_refuseWrongSize 20 = .ok (.athrow, 1) := by decide +kernel
theorem d_Z_refuseWrongSize_21 : decode c_Z_refuseWrongSize 21 = .ok (.return_, 1) := by decide +kernel
theorem d_Z_make_0 : decode c_Z_make 0 = .ok (.aload_n 0, 1) := by decide +kernel
theorem d_Z_make_1 : decode c_Z_make 1 = .ok (.iload_n 1, 1) := by decide +kernel
theorem d_Z_make_2 : decode c_Z_make 2 = .ok (.invokestatic 157, 3) := by decide +kernel
theorem d_Z_make_5 : decode c_Z_make 5 = .ok (.invokevirtual 160, 3) := by decide +kernel
theorem d_Z_make_8 : decode c_Z_make 8 = .ok (.istore_n 2, 1) := by decide +kernel
theorem d_Z_make_9 : decode c_Z_make 9 = .ok (.iload_n 2, 1) := by decide +kernel
theorem d_Z_make_10 : decode c_Z_make 10 = .ok (.iconst (-1), 1) := by decide +kernel
theorem d_Z_make_11 : decode c_Z_make 11 = .ok (.if_icmp .ne 5, 3) := by decide +kernel
theorem d_Z_make_14 : decode c_Z_make 14 = .ok (.aconst_null, 1) := by decide +kernel
theorem d_Z_make_15 : decode c_Z_make 15 = .ok (.areturn, 1) := by decide +kernel
theorem d_Z_make_16 : decode c_Z_make 16 = .ok (.new 13, 3) := by decide +kernel
theorem d_Z_make_19 : decode c_Z_make 19 = .ok (.dup, 1) := by decide +kernel
theorem d_Z_make_20 : decode c_Z_make 20 = .ok (.iload_n 2, 1) := by decide +kernel
theorem d_Z_make_21 : decode c_Z_make 21 = .ok (.bipush 16, 2) := by decide +kernel
theorem d_Z_make_23 : decode c_Z_make 23 = .ok (.imul, 1) := by decide +kernel
theorem d_Z_make_24 : decode c_Z_make 24 = .ok (.iload_n 1, 1) := by decide +kernel
theorem d_Z_make_25 : decode c_Z_make 25 = .ok (.invokespecial 163, 3) := by decide +kernel
theorem d_Z_make_28 : decode c_Z_make 28 = .ok (.astore_n 3, 1) := by decide +kernel
theorem d_Z_make_29 : decode c_Z_make 29 = .ok (.aload_n 0, 1) := by decide +kernel
theorem d_Z_make_30 : decode c_Z_make 30 = .ok (.aload_n 3, 1) := by decide +kernel
theorem d_Z_make_31 : decode c_Z_make 31 = .ok (.aload_n 3, 1) := by decide +kernel
theorem d_Z_make_32 : decode c_Z_make 32 = .ok (.invokevirtual 166, 3) := by decide +kernel
theorem d_Z_make_35 : decode c_Z_make 35 = .ok (.aload_n 0, 1) := by decide +kernel
theorem d_Z_make_36 : decode c_Z_make 36 = .ok (.dup, 1) := by decide +kernel
theorem d_Z_make_37 : decode c_Z_make 37 = .ok (.getfield 30, 3) := by decide +kernel
theorem d_Z_make_40 : decode c_Z_make 40 = .ok (.iconst 1, 1) := by decide +kernel
theorem d_Z_make_41 : decode c_Z_make 41 = .ok (.iadd, 1) := by decide +kernel
theorem d_Z_make_42 : decode c_Z_make 42 = .ok (.putfield 30, 3) := by decide +kernel
theorem d_Z_make_45 : decode c_Z_make 45 = .ok (.aload_n 0, 1) := by decide +kernel
theorem d_Z_make_46 : decode c_Z_make 46 = .ok (.dup, 1) := by decide +kernel
theorem d_Z_make_47 : decode c_Z_make 47 = .ok (.getfield 33, 3) := by decide +kernel
theorem d_Z_make_50 : decode c_Z_make 50 = .ok (.iload_n 1, 1) := by decide +kernel
theorem d_Z_make_51 : decode c_Z_make 51 = .ok (.iadd, 1) := by decide +kernel
theorem d_Z_make_52 : decode c_Z_make 52 = .ok (.putfield 33, 3) := by decide +kernel
theorem d_Z_make_55 : decode c_Z_make 55 = .ok (.aload_n 0, 1) := by decide +kernel
theorem d_Z_make_56 : decode c_Z_make 56 = .ok (.dup, 1) := by decide +kernel
theorem d_Z_make_57 : decode c_Z_make 57 = .ok (.getfield 36, 3) := by decide +kernel
theorem d_Z_make_60 : decode c_Z_make 60 = .ok (.iconst 1, 1) := by decide +kernel
theorem d_Z_make_61 : decode c_Z_make 61 = .ok (.iadd, 1) := by decide +kernel
theorem d_Z_make_62 : decode c_Z_make 62 = .ok (.putfield 36, 3) := by decide +kernel
theorem d_Z_make_65 : decode c_Z_make 65 = .ok (.aload_n 3, 1) := by decide +kernel
theorem d_Z_make_66 : decode c_Z_make 66 = .ok (.areturn, 1) := by decide +kernel
theorem d_Z_cellsFor_0 : decode c_Z_cellsFor 0 = .ok (.iconst 1, 1) := by decide +kernel
theorem d_Z_cellsFor_1 : decode c_Z_cellsFor 1 = .ok (.iload_n 0, 1) := by decide +kernel
theorem d_Z_cellsFor_2 : decode c_Z_cellsFor 2 = .ok (.bipush 16, 2) := by decide +kernel
theorem d_Z_cellsFor_4 : decode c_Z_cellsFor 4 = .ok (.iadd, 1) := by decide +kernel
theorem d_Z_cellsFor_5 : decode c_Z_cellsFor 5 = .ok (.iconst 1, 1) := by decide +kernel
theorem d_Z_cellsFor_6 : decode c_Z_cellsFor 6 = .ok (.isub, 1) := by decide +kernel
theorem d_Z_cellsFor_7 : decode c_Z_cellsFor 7 = .ok (.bipush 16, 2) := by decide +kernel
theorem d_Z_cellsFor_9 : decode c_Z_cellsFor 9 = .ok (.idiv, 1) := by decide +kernel
theorem d_Z_cellsFor_10 : decode c_Z_cellsFor 10 = .ok (.invokestatic 170, 3) := by decide +kernel
theorem d_Z_cellsFor_13 : decode c_Z_cellsFor 13 = .ok (.ireturn, 1) := by decide +kernel
theorem d_Z_firstRoomFor_0 : decode c_Z_firstRoomFor 0 = .ok (.iconst 0, 1) := by decide +kernel
theorem d_Z_firstRoomFor_1 : decode c_Z_firstRoomFor 1 = .ok (.istore_n 2, 1) := by decide +kernel
theorem d_Z_firstRoomFor_2 : decode c_Z_firstRoomFor 2 = .ok (.iconst 0, 1) := by decide +kernel
theorem d_Z_firstRoomFor_3 : decode c_Z_firstRoomFor 3 = .ok (.istore_n 3, 1) := by decide +kernel
theorem d_Z_firstRoomFor_4 : decode c_Z_firstRoomFor 4 = .ok (.iload_n 3, 1) := by decide +kernel
theorem d_Z_firstRoomFor_5 : decode c_Z_firstRoomFor 5 = .ok (.sipush 512, 3) := by decide +kernel
theorem d_Z_firstRoomFor_8 : decode c_Z_firstRoomFor 8 = .ok (.if_icmp .ge 37, 3) := by decide +kernel
theorem d_Z_firstRoomFor_11 : decode c_Z_firstRoomFor 11 = .ok (.aload_n 0, 1) := by decide +kernel
theorem d_Z_firstRoomFor_12 : decode c_Z_firstRoomFor 12 = .ok (.getfield 15, 3) := by decide +kernel
theorem d_Z_firstRoomFor_15 : decode c_Z_firstRoomFor 15 = .ok (.iload_n 3, 1) := by decide +kernel
theorem d_Z_firstRoomFor_16 : decode c_Z_firstRoomFor 16 = .ok (.aaload, 1) := by decide +kernel
theorem d_Z_firstRoomFor_17 : decode c_Z_firstRoomFor 17 = .ok (.ifnonnull 9, 3) := by decide +kernel
theorem d_Z_firstRoomFor_20 : decode c_Z_firstRoomFor 20 = .ok (.iload_n 2, 1) := by decide +kernel
theorem d_Z_firstRoomFor_21 : decode c_Z_firstRoomFor 21 = .ok (.iconst 1, 1) := by decide +kernel
theorem d_Z_firstRoomFor_22 : decode c_Z_firstRoomFor 22 = .ok (.iadd, 1) := by decide +kernel
theorem d_Z_firstRoomFor_23 : decode c_Z_firstRoomFor 23 = .ok (.goto 4, 3) := by decide +kernel
theorem d_Z_firstRoomFor_26 : decode c_Z_firstRoomFor 26 = .ok (.iconst 0, 1) := by decide +kernel
theorem d_Z_firstRoomFor_27 : decode c_Z_firstRoomFor 27 = .ok (.istore_n 2, 1) := by decide +kernel
theorem d_Z_firstRoomFor_28 : decode c_Z_firstRoomFor 28 = .ok (.iload_n 2, 1) := by decide +kernel
theorem d_Z_firstRoomFor_29 : decode c_Z_firstRoomFor 29 = .ok (.iload_n 1, 1) := by decide +kernel
theorem d_Z_firstRoomFor_30 : decode c_Z_firstRoomFor 30 = .ok (.iconst 2, 1) := by decide +kernel
theorem d_Z_firstRoomFor_31 : decode c_Z_firstRoomFor 31 = .ok (.iadd, 1) := by decide +kernel
theorem d_Z_firstRoomFor_32 : decode c_Z_firstRoomFor 32 = .ok (.if_icmp .ne 7, 3) := by decide +kernel
theorem d_Z_firstRoomFor_35 : decode c_Z_firstRoomFor 35 = .ok (.iload_n 3, 1) := by decide +kernel
theorem d_Z_firstRoomFor_36 : decode c_Z_firstRoomFor 36 = .ok (.iload_n 1, 1) := by decide +kernel
theorem d_Z_firstRoomFor_37 : decode c_Z_firstRoomFor 37 = .ok (.isub, 1) := by decide +kernel
theorem d_Z_firstRoomFor_38 : decode c_Z_firstRoomFor 38 = .ok (.ireturn, 1) := by decide +kernel
theorem d_Z_firstRoomFor_39 : decode c_Z_firstRoomFor 39 = .ok (.iinc 3 1, 3) := by decide +kernel
theorem d_Z_firstRoomFor_42 : decode c_Z_firstRoomFor 42 = .ok (.goto (-38), 3) := by decide +kernel
theorem d_Z_firstRoomFor_45 : decode c_Z_firstRoomFor 45 = .ok (.iconst (-1), 1) := by decide +kernel
theorem d_Z_firstRoomFor_46 : decode c_Z_firstRoomFor 46 = .ok (.ireturn, 1) := by decide +kernel
theorem d_B_init_0 : decode c_B_init 0 = .ok (.aload_n 0, 1) := by decide +kernel
theorem d_B_init_1 : decode c_B_init 1 = .ok (.invokespecial 1, 3) := by decide +kernel
theorem d_B_init_4 : decode c_B_init 4 = .ok (.aload_n 0, 1) := by decide +kernel
theorem d_B_init_5 : decode c_B_init 5 = .ok (.iconst 0, 1) := by decide +kernel
theorem d_B_init_6 : decode c_B_init 6 = .ok (.putfield 7, 3) := by decide +kernel
theorem d_B_init_9 : decode c_B_init 9 = .ok (.aload_n 0, 1) := by decide +kernel
theorem d_B_init_10 : decode c_B_init 10 = .ok (.iconst 0, 1) := by decide +kernel
theorem d_B_init_11 : decode c_B_init 11 = .ok (.putfield 13, 3) := by decide +kernel
theorem d_B_init_14 : decode c_B_init 14 = .ok (.aload_n 0, 1) := by decide +kernel
theorem d_B_init_15 : decode c_B_init 15 = .ok (.iload_n 1, 1) := by decide +kernel
theorem d_B_init_16 : decode c_B_init 16 = .ok (.putfield 16, 3) := by decide +kernel
theorem d_B_init_19 : decode c_B_init 19 = .ok (.aload_n 0, 1) := by decide +kernel
theorem d_B_init_20 : decode c_B_init 20 = .ok (.iload_n 2, 1) := by decide +kernel
theorem d_B_init_21 : decode c_B_init 21 = .ok (.putfield 20, 3) := by decide +kernel
theorem d_B_init_24 : decode c_B_init 24 = .ok (.return_, 1) := by decide +kernel
theorem d_Z_setTaker_0 : decode c_Z_setTaker 0 = .ok (.aload_n 1, 1) := by decide +kernel
theorem d_Z_setTaker_1 : decode c_Z_setTaker 1 = .ok (.getfield 60, 3) := by decide +kernel
theorem d_Z_setTaker_4 : decode c_Z_setTaker 4 = .ok (.bipush 16, 2) := by decide +kernel
theorem d_Z_setTaker_6 : decode c_Z_setTaker 6 = .ok (.idiv, 1) := by decide +kernel
theorem d_Z_setTaker_7 : decode c_Z_setTaker 7 = .ok (.istore_n 3, 1) := by decide +kernel
theorem d_Z_setTaker_8 : decode c_Z_setTaker 8 = .ok (.iload_n 3, 1) := by decide +kernel
theorem d_Z_setTaker_9 : decode c_Z_setTaker 9 = .ok (.aload_n 1, 1) := by decide +kernel
theorem d_Z_setTaker_10 : decode c_Z_setTaker 10 = .ok (.getfield 70, 3) := by decide +kernel
theorem d_Z_setTaker_13 : decode c_Z_setTaker 13 = .ok (.invokestatic 157, 3) := by decide +kernel
theorem d_Z_setTaker_16 : decode c_Z_setTaker 16 = .ok (.iadd, 1) := by decide +kernel
theorem d_Z_setTaker_17 : decode c_Z_setTaker 17 = .ok (.istore 4, 2) := by decide +kernel
theorem d_Z_setTaker_19 : decode c_Z_setTaker 19 = .ok (.iload_n 3, 1) := by decide +kernel
theorem d_Z_setTaker_20 : decode c_Z_setTaker 20 = .ok (.istore 5, 2) := by decide +kernel
theorem d_Z_setTaker_22 : decode c_Z_setTaker 22 = .ok (.iload 5, 2) := by decide +kernel
theorem d_Z_setTaker_24 : decode c_Z_setTaker 24 = .ok (.iload 4, 2) := by decide +kernel
theorem d_Z_setTaker_26 : decode c_Z_setTaker 26 = .ok (.if_icmp .ge 25, 3) := by decide +kernel
theorem d_Z_setTaker_29 : decode c_Z_setTaker 29 = .ok (.iload 5, 2) := by decide +kernel
theorem d_Z_setTaker_31 : decode c_Z_setTaker 31 = .ok (.sipush 512, 3) := by decide +kernel
theorem d_Z_setTaker_34 : decode c_Z_setTaker 34 = .ok (.if_icmp .ge 17, 3) := by decide +kernel
theorem d_Z_setTaker_37 : decode c_Z_setTaker 37 = .ok (.aload_n 0, 1) := by decide +kernel
theorem d_Z_setTaker_38 : decode c_Z_setTaker 38 = .ok (.getfield 15, 3) := by decide +kernel
theorem d_Z_setTaker_41 : decode c_Z_setTaker 41 = .ok (.iload 5, 2) := by decide +kernel
theorem d_Z_setTaker_43 : decode c_Z_setTaker 43 = .ok (.aload_n 2, 1) := by decide +kernel
theorem d_Z_setTaker_44 : decode c_Z_setTaker 44 = .ok (.aastore, 1) := by decide +kernel
theorem d_Z_setTaker_45 : decode c_Z_setTaker 45 = .ok (.iinc 5 1, 3) := by decide +kernel
theorem d_Z_setTaker_48 : decode c_Z_setTaker 48 = .ok (.goto (-26), 3) := by decide +kernel
theorem d_Z_setTaker_51 : decode c_Z_setTaker 51 = .ok (.return_, 1) := by decide +kernel
theorem d_Z_back_0 : decode c_Z_back 0 = .ok (.aload_n 0, 1) := by decide +kernel
theorem d_Z_back_1 : decode c_Z_back 1 = .ok (.iload_n 1, 1) := by decide +kernel
theorem d_Z_back_2 : decode c_Z_back 2 = .ok (.invokevirtual 63, 3) := by decide +kernel
theorem d_Z_back_5 : decode c_Z_back 5 = .ok (.astore_n 2, 1) := by decide +kernel
theorem d_Z_back_6 : decode c_Z_back 6 = .ok (.aload_n 0, 1) := by decide +kernel
theorem d_Z_back_7 : decode c_Z_back 7 = .ok (.aload_n 2, 1) := by decide +kernel
theorem d_Z_back_8 : decode c_Z_back 8 = .ok (.invokevirtual 66, 3) := by decide +kernel
theorem d_Z_back_11 : decode c_Z_back 11 = .ok (.aload_n 2, 1) := by decide +kernel
theorem d_Z_back_12 : decode c_Z_back 12 = .ok (.getfield 70, 3) := by decide +kernel
theorem d_Z_back_15 : decode c_Z_back 15 = .ok (.ireturn, 1) := by decide +kernel
theorem d_Z_liveStandingAt_0 : decode c_Z_liveStandingAt 0 = .ok (.aload_n 0, 1) := by decide +kernel
theorem d_Z_liveStandingAt_1 : decode c_Z_liveStandingAt 1 = .ok (.iload_n 1, 1) := by decide +kernel
theorem d_Z_liveStandingAt_2 : decode c_Z_liveStandingAt 2 = .ok (.invokevirtual 150, 3) := by decide +kernel
theorem d_Z_liveStandingAt_5 : decode c_Z_liveStandingAt 5 = .ok (.astore_n 2, 1) := by decide +kernel
theorem d_Z_liveStandingAt_6 : decode c_Z_liveStandingAt 6 = .ok (.aload_n 2, 1) := by decide +kernel
theorem d_Z_liveStandingAt_7 : decode c_Z_liveStandingAt 7 = .ok (.ifnonnull 13, 3) := by decide +kernel
theorem d_Z_liveStandingAt_10 : decode c_Z_liveStandingAt 10 = .ok (.new 131, 3) := by decide +kernel
theorem d_Z_liveStandingAt_13 : decode c_Z_liveStandingAt 13 = .ok (.dup, 1) := by decide +kernel
theorem d_Z_liveStandingAt_14 : decode c_Z_liveStandingAt 14 = .ok (.ldc 153, 2) := by decide +kernel
theorem d_Z_liveStandingAt_16 : decode c_Z_liveStandingAt 16 = .ok (.invokespecial 135, 3) := by decide +kernel
theorem d_Z_liveStandingAt_19 : decode c_Z_liveStandingAt 19 = .ok (.athrow, 1) := by decide +kernel
theorem d_Z_liveStandingAt_20 : decode c_Z_liveStandingAt 20 = .ok (.aload_n 2, 1) := by decide +kernel
theorem d_Z_liveStandingAt_21 : decode c_Z_liveStandingAt 21 = .ok (.getfield 95, 3) := by decide +kernel
theorem d_Z_liveStandingAt_24 : decode c_Z_liveStandingAt 24 = .ok (.ifCond .eq 13, 3) := by decide +kernel
theorem d_Z_liveStandingAt_27 : decode c_Z_liveStandingAt 27 = .ok (.new 145, 3) := by decide +kernel
theorem d_Z_liveStandingAt_30 : decode c_Z_liveStandingAt 30 = .ok (.dup, 1) := by decide +kernel
theorem d_Z_liveStandingAt_31 : decode c_Z_liveStandingAt 31 = .ok (.ldc 155, 2) := by decide +kernel
theorem d_Z_liveStandingAt_33 : decode c_Z_liveStandingAt 33 = .ok (.invokespecial 149, 3) := by decide +kernel
theorem d_Z_liveStandingAt_36 : decode c_Z_liveStandingAt 36 = .ok (.athrow, 1) := by decide +kernel
theorem d_Z_liveStandingAt_37 : decode c_Z_liveStandingAt 37 = .ok (.aload_n 2, 1) := by decide +kernel
theorem d_Z_liveStandingAt_38 : decode c_Z_liveStandingAt 38 = .ok (.areturn, 1) := by decide +kernel
theorem d_Z_giveBack_0 : decode c_Z_giveBack 0 = .ok (.aload_n 1, 1) := by decide +kernel
theorem d_Z_giveBack_1 : decode c_Z_giveBack 1 = .ok (.iconst 1, 1) := by decide +kernel
theorem d_Z_giveBack_2 : decode c_Z_giveBack 2 = .ok (.putfield 95, 3) := by decide +kernel
theorem d_Z_giveBack_5 : decode c_Z_giveBack 5 = .ok (.aload_n 0, 1) := by decide +kernel
theorem d_Z_giveBack_6 : decode c_Z_giveBack 6 = .ok (.dup, 1) := by decide +kernel
theorem d_Z_giveBack_7 : decode c_Z_giveBack 7 = .ok (.getfield 30, 3) := by decide +kernel
theorem d_Z_giveBack_10 : decode c_Z_giveBack 10 = .ok (.iconst 1, 1) := by decide +kernel
theorem d_Z_giveBack_11 : decode c_Z_giveBack 11 = .ok (.isub, 1) := by decide +kernel
theorem d_Z_giveBack_12 : decode c_Z_giveBack 12 = .ok (.putfield 30, 3) := by decide +kernel
theorem d_Z_giveBack_15 : decode c_Z_giveBack 15 = .ok (.aload_n 0, 1) := by decide +kernel
theorem d_Z_giveBack_16 : decode c_Z_giveBack 16 = .ok (.dup, 1) := by decide +kernel
theorem d_Z_giveBack_17 : decode c_Z_giveBack 17 = .ok (.getfield 33, 3) := by decide +kernel
theorem d_Z_giveBack_20 : decode c_Z_giveBack 20 = .ok (.aload_n 1, 1) := by decide +kernel
theorem d_Z_giveBack_21 : decode c_Z_giveBack 21 = .ok (.getfield 70, 3) := by decide +kernel
theorem d_Z_giveBack_24 : decode c_Z_giveBack 24 = .ok (.isub, 1) := by decide +kernel
theorem d_Z_giveBack_25 : decode c_Z_giveBack 25 = .ok (.putfield 33, 3) := by decide +kernel
theorem d_Z_giveBack_28 : decode c_Z_giveBack 28 = .ok (.aload_n 0, 1) := by decide +kernel
theorem d_Z_giveBack_29 : decode c_Z_giveBack 29 = .ok (.getfield 22, 3) := by decide +kernel
theorem d_Z_giveBack_32 : decode c_Z_giveBack 32 = .ok (.aload_n 1, 1) := by decide +kernel
theorem d_Z_giveBack_33 : decode c_Z_giveBack 33 = .ok (.invokevirtual 173, 3) := by decide +kernel
theorem d_Z_giveBack_36 : decode c_Z_giveBack 36 = .ok (.pop, 1) := by decide +kernel
theorem d_Z_giveBack_37 : decode c_Z_giveBack 37 = .ok (.aload_n 0, 1) := by decide +kernel
theorem d_Z_giveBack_38 : decode c_Z_giveBack 38 = .ok (.dup, 1) := by decide +kernel
theorem d_Z_giveBack_39 : decode c_Z_giveBack 39 = .ok (.getfield 26, 3) := by decide +kernel
theorem d_Z_giveBack_42 : decode c_Z_giveBack 42 = .ok (.aload_n 1, 1) := by decide +kernel
theorem d_Z_giveBack_43 : decode c_Z_giveBack 43 = .ok (.getfield 70, 3) := by decide +kernel
theorem d_Z_giveBack_46 : decode c_Z_giveBack 46 = .ok (.iadd, 1) := by decide +kernel
theorem d_Z_giveBack_47 : decode c_Z_giveBack 47 = .ok (.putfield 26, 3) := by decide +kernel
theorem d_Z_giveBack_50 : decode c_Z_giveBack 50 = .ok (.aload_n 0, 1) := by decide +kernel
theorem d_Z_giveBack_51 : decode c_Z_giveBack 51 = .ok (.getfield 22, 3) := by decide +kernel
theorem d_Z_giveBack_54 : decode c_Z_giveBack 54 = .ok (.invokevirtual 128, 3) := by decide +kernel
theorem d_Z_giveBack_57 : decode c_Z_giveBack 57 = .ok (.istore_n 2, 1) := by decide +kernel
theorem d_Z_giveBack_58 : decode c_Z_giveBack 58 = .ok (.iload_n 2, 1) := by decide +kernel
theorem d_Z_giveBack_59 : decode c_Z_giveBack 59 = .ok (.ifCond .le 23, 3) := by decide +kernel
theorem d_Z_giveBack_62 : decode c_Z_giveBack 62 = .ok (.aload_n 0, 1) := by decide +kernel
theorem d_Z_giveBack_63 : decode c_Z_giveBack 63 = .ok (.getfield 26, 3) := by decide +kernel
theorem d_Z_giveBack_66 : decode c_Z_giveBack 66 = .ok (.sipush 512, 3) := by decide +kernel
theorem d_Z_giveBack_69 : decode c_Z_giveBack 69 = .ok (.if_icmp .le 13, 3) := by decide +kernel
theorem d_Z_giveBack_72 : decode c_Z_giveBack 72 = .ok (.aload_n 0, 1) := by decide +kernel
theorem d_Z_giveBack_73 : decode c_Z_giveBack 73 = .ok (.invokevirtual 177, 3) := by decide +kernel
theorem d_Z_giveBack_76 : decode c_Z_giveBack 76 = .ok (.iinc 2 (-1), 3) := by decide +kernel
theorem d_Z_giveBack_79 : decode c_Z_giveBack 79 = .ok (.goto (-21), 3) := by decide +kernel
theorem d_Z_giveBack_82 : decode c_Z_giveBack 82 = .ok (.return_, 1) := by decide +kernel
theorem d_Z_dropOldestKept_0 : decode c_Z_dropOldestKept 0 = .ok (.aload_n 0, 1) := by decide +kernel
theorem d_Z_dropOldestKept_1 : decode c_Z_dropOldestKept 1 = .ok (.getfield 22, 3) := by decide +kernel
theorem d_Z_dropOldestKept_4 : decode c_Z_dropOldestKept 4 = .ok (.invokevirtual 180, 3) := by decide +kernel
theorem d_Z_dropOldestKept_7 : decode c_Z_dropOldestKept 7 = .ok (.ifCond .eq 4, 3) := by decide +kernel
theorem d_Z_dropOldestKept_10 : decode c_Z_dropOldestKept 10 = .ok (.return_, 1) := by decide +kernel
theorem d_Z_dropOldestKept_11 : decode c_Z_dropOldestKept 11 = .ok (.aload_n 0, 1) := by decide +kernel
theorem d_Z_dropOldestKept_12 : decode c_Z_dropOldestKept 12 = .ok (.getfield 22, 3) := by decide +kernel
theorem d_Z_dropOldestKept_15 : decode c_Z_dropOldestKept 15 = .ok (.iconst 0, 1) := by decide +kernel
theorem d_Z_dropOldestKept_16 : decode c_Z_dropOldestKept 16 = .ok (.invokevirtual 184, 3) := by decide +kernel
theorem d_Z_dropOldestKept_19 : decode c_Z_dropOldestKept 19 = .ok (.checkcast 13, 3) := by decide +kernel
theorem d_Z_dropOldestKept_22 : decode c_Z_dropOldestKept 22 = .ok (.astore_n 1, 1) := by decide +kernel
theorem d_Z_dropOldestKept_23 : decode c_Z_dropOldestKept 23 = .ok (.aload_n 0, 1) := by decide +kernel
theorem d_Z_dropOldestKept_24 : decode c_Z_dropOldestKept 24 = .ok (.dup, 1) := by decide +kernel
theorem d_Z_dropOldestKept_25 : decode c_Z_dropOldestKept 25 = .ok (.getfield 26, 3) := by decide +kernel
theorem d_Z_dropOldestKept_28 : decode c_Z_dropOldestKept 28 = .ok (.aload_n 1, 1) := by decide +kernel
theorem d_Z_dropOldestKept_29 : decode c_Z_dropOldestKept 29 = .ok (.getfield 70, 3) := by decide +kernel
theorem d_Z_dropOldestKept_32 : decode c_Z_dropOldestKept 32 = .ok (.isub, 1) := by decide +kernel
theorem d_Z_dropOldestKept_33 : decode c_Z_dropOldestKept 33 = .ok (.putfield 26, 3) := by decide +kernel
theorem d_Z_dropOldestKept_36 : decode c_Z_dropOldestKept 36 = .ok (.aload_n 0, 1) := by decide +kernel
theorem d_Z_dropOldestKept_37 : decode c_Z_dropOldestKept 37 = .ok (.aload_n 1, 1) := by decide +kernel
theorem d_Z_dropOldestKept_38 : decode c_Z_dropOldestKept 38 = .ok (.aconst_null, 1) := by decide +kernel
theorem d_Z_dropOldestKept_39 : decode c_Z_dropOldestKept 39 = .ok (.invokevirtual 166, 3) := by decide +kernel
theorem d_Z_dropOldestKept_42 : decode c_Z_dropOldestKept 42 = .ok (.return_, 1) := by decide +kernel
theorem d_Z_again_0 : decode c_Z_again 0 = .ok (.iload_n 2, 1) := by decide +kernel
theorem d_Z_again_1 : decode c_Z_again 1 = .ok (.invokestatic 52, 3) := by decide +kernel
theorem d_Z_again_4 : decode c_Z_again 4 = .ok (.aload_n 0, 1) := by decide +kernel
theorem d_Z_again_5 : decode c_Z_again 5 = .ok (.iload_n 1, 1) := by decide +kernel
theorem d_Z_again_6 : decode c_Z_again 6 = .ok (.invokevirtual 63, 3) := by decide +kernel
theorem d_Z_again_9 : decode c_Z_again 9 = .ok (.astore_n 3, 1) := by decide +kernel
theorem d_Z_again_10 : decode c_Z_again 10 = .ok (.aload_n 0, 1) := by decide +kernel
theorem d_Z_again_11 : decode c_Z_again 11 = .ok (.iload_n 2, 1) := by decide +kernel
theorem d_Z_again_12 : decode c_Z_again 12 = .ok (.invokevirtual 56, 3) := by decide +kernel
theorem d_Z_again_15 : decode c_Z_again 15 = .ok (.astore 4, 2) := by decide +kernel
theorem d_Z_again_17 : decode c_Z_again 17 = .ok (.aload 4, 2) := by decide +kernel
theorem d_Z_again_19 : decode c_Z_again 19 = .ok (.ifnonnull 5, 3) := by decide +kernel
theorem d_Z_again_22 : decode c_Z_again 22 = .ok (.iconst 0, 1) := by decide +kernel
theorem d_Z_again_23 : decode c_Z_again 23 = .ok (.ireturn, 1) := by decide +kernel
theorem d_Z_again_24 : decode c_Z_again 24 = .ok (.aload_n 0, 1) := by decide +kernel
theorem d_Z_again_25 : decode c_Z_again 25 = .ok (.getfield 9, 3) := by decide +kernel
theorem d_Z_again_28 : decode c_Z_again 28 = .ok (.aload_n 3, 1) := by decide +kernel
theorem d_Z_again_29 : decode c_Z_again 29 = .ok (.getfield 60, 3) := by decide +kernel
theorem d_Z_again_32 : decode c_Z_again 32 = .ok (.aload_n 0, 1) := by decide +kernel
theorem d_Z_again_33 : decode c_Z_again 33 = .ok (.getfield 9, 3) := by decide +kernel
theorem d_Z_again_36 : decode c_Z_again 36 = .ok (.aload 4, 2) := by decide +kernel
theorem d_Z_again_38 : decode c_Z_again 38 = .ok (.getfield 60, 3) := by decide +kernel
theorem d_Z_again_41 : decode c_Z_again 41 = .ok (.aload_n 3, 1) := by decide +kernel
theorem d_Z_again_42 : decode c_Z_again 42 = .ok (.getfield 70, 3) := by decide +kernel
theorem d_Z_again_45 : decode c_Z_again 45 = .ok (.aload 4, 2) := by decide +kernel
theorem d_Z_again_47 : decode c_Z_again 47 = .ok (.getfield 70, 3) := by decide +kernel
theorem d_Z_again_50 : decode c_Z_again 50 = .ok (.invokestatic 73, 3) := by decide +kernel
theorem d_Z_again_53 : decode c_Z_again 53 = .ok (.invokestatic 79, 3) := by decide +kernel
theorem d_Z_again_56 : decode c_Z_again 56 = .ok (.aload_n 0, 1) := by decide +kernel
theorem d_Z_again_57 : decode c_Z_again 57 = .ok (.aload_n 3, 1) := by decide +kernel
theorem d_Z_again_58 : decode c_Z_again 58 = .ok (.invokevirtual 66, 3) := by decide +kernel
theorem d_Z_again_61 : decode c_Z_again 61 = .ok (.aload 4, 2) := by decide +kernel
theorem d_Z_again_63 : decode c_Z_again 63 = .ok (.getfield 60, 3) := by decide +kernel
theorem d_Z_again_66 : decode c_Z_again 66 = .ok (.ireturn, 1) := by decide +kernel
theorem d_Z_kind_0 : decode c_Z_kind 0 = .ok (.iload_n 1, 1) := by decide +kernel
theorem d_Z_kind_1 : decode c_Z_kind 1 = .ok (.invokestatic 85, 3) := by decide +kernel
theorem d_Z_kind_4 : decode c_Z_kind 4 = .ok (.iload_n 1, 1) := by decide +kernel
theorem d_Z_kind_5 : decode c_Z_kind 5 = .ok (.bipush 16, 2) := by decide +kernel
theorem d_Z_kind_7 : decode c_Z_kind 7 = .ok (.idiv, 1) := by decide +kernel
theorem d_Z_kind_8 : decode c_Z_kind 8 = .ok (.istore_n 2, 1) := by decide +kernel
theorem d_Z_kind_9 : decode c_Z_kind 9 = .ok (.aload_n 0, 1) := by decide +kernel
theorem d_Z_kind_10 : decode c_Z_kind 10 = .ok (.getfield 15, 3) := by decide +kernel
theorem d_Z_kind_13 : decode c_Z_kind 13 = .ok (.iload_n 2, 1) := by decide +kernel
theorem d_Z_kind_14 : decode c_Z_kind 14 = .ok (.aaload, 1) := by decide +kernel
theorem d_Z_kind_15 : decode c_Z_kind 15 = .ok (.astore_n 3, 1) := by decide +kernel
theorem d_Z_kind_16 : decode c_Z_kind 16 = .ok (.aload_n 3, 1) := by decide +kernel
theorem d_Z_kind_17 : decode c_Z_kind 17 = .ok (.ifnonnull 29, 3) := by decide +kernel
theorem d_Z_kind_20 : decode c_Z_kind 20 = .ok (.aload_n 0, 1) := by decide +kernel
theorem d_Z_kind_21 : decode c_Z_kind 21 = .ok (.iload_n 2, 1) := by decide +kernel
theorem d_Z_kind_22 : decode c_Z_kind 22 = .ok (.iconst 1, 1) := by decide +kernel
theorem d_Z_kind_23 : decode c_Z_kind 23 = .ok (.isub, 1) := by decide +kernel
theorem d_Z_kind_24 : decode c_Z_kind 24 = .ok (.invokevirtual 88, 3) := by decide +kernel
theorem d_Z_kind_27 : decode c_Z_kind 27 = .ok (.ifCond .ne 13, 3) := by decide +kernel
theorem d_Z_kind_30 : decode c_Z_kind 30 = .ok (.aload_n 0, 1) := by decide +kernel
theorem d_Z_kind_31 : decode c_Z_kind 31 = .ok (.iload_n 2, 1) := by decide +kernel
theorem d_Z_kind_32 : decode c_Z_kind 32 = .ok (.iconst 1, 1) := by decide +kernel
theorem d_Z_kind_33 : decode c_Z_kind 33 = .ok (.iadd, 1) := by decide +kernel
theorem d_Z_kind_34 : decode c_Z_kind 34 = .ok (.invokevirtual 88, 3) := by decide +kernel
theorem d_Z_kind_37 : decode c_Z_kind 37 = .ok (.ifCond .eq 7, 3) := by decide +kernel
theorem d_Z_kind_40 : decode c_Z_kind 40 = .ok (.iconst 3, 1) := by decide +kernel
theorem d_Z_kind_41 : decode c_Z_kind 41 = .ok (.goto 4, 3) := by decide +kernel
theorem d_Z_kind_44 : decode c_Z_kind 44 = .ok (.iconst 0, 1) := by decide +kernel
theorem d_Z_kind_45 : decode c_Z_kind 45 = .ok (.ireturn, 1) := by decide +kernel
theorem d_Z_kind_46 : decode c_Z_kind 46 = .ok (.aload_n 3, 1) := by decide +kernel
theorem d_Z_kind_47 : decode c_Z_kind 47 = .ok (.iload_n 1, 1) := by decide +kernel
theorem d_Z_kind_48 : decode c_Z_kind 48 = .ok (.invokevirtual 92, 3) := by decide +kernel
theorem d_Z_kind_51 : decode c_Z_kind 51 = .ok (.ifCond .ne 5, 3) := by decide +kernel
theorem d_Z_kind_54 : decode c_Z_kind 54 = .ok (.iconst 3, 1) := by decide +kernel
theorem d_Z_kind_55 : decode c_Z_kind 55 = .ok (.ireturn, 1) := by decide +kernel
theorem d_Z_kind_56 : decode c_Z_kind 56 = .ok (.aload_n 3, 1) := by decide +kernel
theorem d_Z_kind_57 : decode c_Z_kind 57 = .ok (.getfield 95, 3) := by decide +kernel
theorem d_Z_kind_60 : decode c_Z_kind 60 = .ok (.ifCond .eq 7, 3) := by decide +kernel
theorem d_Z_kind_63 : decode c_Z_kind 63 = .ok (.iconst 2, 1) := by decide +kernel
theorem d_Z_kind_64 : decode c_Z_kind 64 = .ok (.goto 4, 3) := by decide +kernel
theorem d_Z_kind_67 : decode c_Z_kind 67 = .ok (.iconst 1, 1) := by decide +kernel
theorem d_Z_kind_68 : decode c_Z_kind 68 = .ok (.ireturn, 1) := by decide +kernel
theorem d_Z_refuseWrongOctet_0 : decode c_Z_refuseWrongOctet 0 = .ok (.iload_n 0, 1) := by decide +kernel
theorem d_Z_refuseWrongOctet_1 : decode c_Z_refuseWrongOctet 1 = .ok (.invokestatic 138, 3) := by decide +kernel
theorem d_Z_refuseWrongOctet_4 : decode c_Z_refuseWrongOctet 4 = .ok (.ifCond .ne 13, 3) := by decide +kernel
theorem d_Z_refuseWrongOctet_7 : decode c_Z_refuseWrongOctet 7 = .ok (.new 121, 3) := by decide +kernel
theorem d_Z_refuseWrongOctet_10 : decode c_Z_refuseWrongOctet 10 = .ok (.dup, 1) := by decide +kernel
theorem d_Z_refuseWrongOctet_11 : decode c_Z_refuseWrongOctet 11 = .ok (.ldc 141, 2) := by decide +kernel
theorem d_Z_refuseWrongOctet_13 : decode c_Z_refuseWrongOctet 13 = .ok (.invokespecial 125, 3) := by decide +kernel
theorem d_Z_refuseWrongOctet_16 : decode c_Z_refuseWrongOctet 16 = .ok (.athrow, 1) := by decide +kernel
theorem d_Z_refuseWrongOctet_17 : decode c_Z_refuseWrongOctet 17 = .ok (.return_, 1) := by decide +kernel
theorem d_Z_isTaken_0 : decode c_Z_isTaken 0 = .ok (.iload_n 1, 1) := by decide +kernel
theorem d_Z_isTaken_1 : decode c_Z_isTaken 1 = .ok (.ifCond .lt 23, 3) := by decide +kernel
theorem d_Z_isTaken_4 : decode c_Z_isTaken 4 = .ok (.iload_n 1, 1) := by decide +kernel
theorem d_Z_isTaken_5 : decode c_Z_isTaken 5 = .ok (.sipush 512, 3) := by decide +kernel
theorem d_Z_isTaken_8 : decode c_Z_isTaken 8 = .ok (.if_icmp .ge 16, 3) := by decide +kernel
theorem d_Z_isTaken_11 : decode c_Z_isTaken 11 = .ok (.aload_n 0, 1) := by decide +kernel
theorem d_Z_isTaken_12 : decode c_Z_isTaken 12 = .ok (.getfield 15, 3) := by decide +kernel
theorem d_Z_isTaken_15 : decode c_Z_isTaken 15 = .ok (.iload_n 1, 1) := by decide +kernel
theorem d_Z_isTaken_16 : decode c_Z_isTaken 16 = .ok (.aaload, 1) := by decide +kernel
theorem d_Z_isTaken_17 : decode c_Z_isTaken 17 = .ok (.ifnull 7, 3) := by decide +kernel
theorem d_Z_isTaken_20 : decode c_Z_isTaken 20 = .ok (.iconst 1, 1) := by decide +kernel
theorem d_Z_isTaken_21 : decode c_Z_isTaken 21 = .ok (.goto 4, 3) := by decide +kernel
theorem d_Z_isTaken_24 : decode c_Z_isTaken 24 = .ok (.iconst 0, 1) := by decide +kernel
theorem d_Z_isTaken_25 : decode c_Z_isTaken 25 = .ok (.ireturn, 1) := by decide +kernel
theorem d_Z_block_0 : decode c_Z_block 0 = .ok (.iload_n 1, 1) := by decide +kernel
theorem d_Z_block_1 : decode c_Z_block 1 = .ok (.invokestatic 85, 3) := by decide +kernel
theorem d_Z_block_4 : decode c_Z_block 4 = .ok (.aload_n 0, 1) := by decide +kernel
theorem d_Z_block_5 : decode c_Z_block 5 = .ok (.iload_n 1, 1) := by decide +kernel
theorem d_Z_block_6 : decode c_Z_block 6 = .ok (.invokevirtual 99, 3) := by decide +kernel
theorem d_Z_block_9 : decode c_Z_block 9 = .ok (.astore_n 2, 1) := by decide +kernel
theorem d_Z_block_10 : decode c_Z_block 10 = .ok (.aload_n 2, 1) := by decide +kernel
theorem d_Z_block_11 : decode c_Z_block 11 = .ok (.ifnonnull 7, 3) := by decide +kernel
theorem d_Z_block_14 : decode c_Z_block 14 = .ok (.iconst (-1), 1) := by decide +kernel
theorem d_Z_block_15 : decode c_Z_block 15 = .ok (.goto 7, 3) := by decide +kernel
theorem d_Z_block_18 : decode c_Z_block 18 = .ok (.aload_n 2, 1) := by decide +kernel
theorem d_Z_block_19 : decode c_Z_block 19 = .ok (.getfield 60, 3) := by decide +kernel
theorem d_Z_block_22 : decode c_Z_block 22 = .ok (.ireturn, 1) := by decide +kernel
theorem d_Z_write_0 : decode c_Z_write 0 = .ok (.aload_n 0, 1) := by decide +kernel
theorem d_Z_write_1 : decode c_Z_write 1 = .ok (.iload_n 1, 1) := by decide +kernel
theorem d_Z_write_2 : decode c_Z_write 2 = .ok (.invokevirtual 102, 3) := by decide +kernel
theorem d_Z_write_5 : decode c_Z_write 5 = .ok (.iconst 0, 1) := by decide +kernel
theorem d_Z_write_6 : decode c_Z_write 6 = .ok (.istore_n 3, 1) := by decide +kernel
theorem d_Z_write_7 : decode c_Z_write 7 = .ok (.iload_n 3, 1) := by decide +kernel
theorem d_Z_write_8 : decode c_Z_write 8 = .ok (.iconst 4, 1) := by decide +kernel
theorem d_Z_write_9 : decode c_Z_write 9 = .ok (.if_icmp .ge 24, 3) := by decide +kernel
theorem d_Z_write_12 : decode c_Z_write 12 = .ok (.aload_n 0, 1) := by decide +kernel
theorem d_Z_write_13 : decode c_Z_write 13 = .ok (.getfield 9, 3) := by decide +kernel
theorem d_Z_write_16 : decode c_Z_write 16 = .ok (.iload_n 1, 1) := by decide +kernel
theorem d_Z_write_17 : decode c_Z_write 17 = .ok (.iload_n 3, 1) := by decide +kernel
theorem d_Z_write_18 : decode c_Z_write 18 = .ok (.iadd, 1) := by decide +kernel
theorem d_Z_write_19 : decode c_Z_write 19 = .ok (.iload_n 2, 1) := by decide +kernel
theorem d_Z_write_20 : decode c_Z_write 20 = .ok (.bipush 8, 2) := by decide +kernel
theorem d_Z_write_22 : decode c_Z_write 22 = .ok (.iload_n 3, 1) := by decide +kernel
theorem d_Z_write_23 : decode c_Z_write 23 = .ok (.imul, 1) := by decide +kernel
theorem d_Z_write_24 : decode c_Z_write 24 = .ok (.iushr, 1) := by decide +kernel
theorem d_Z_write_25 : decode c_Z_write 25 = .ok (.i2b, 1) := by decide +kernel
theorem d_Z_write_26 : decode c_Z_write 26 = .ok (.bastore, 1) := by decide +kernel
theorem d_Z_write_27 : decode c_Z_write 27 = .ok (.iinc 3 1, 3) := by decide +kernel
theorem d_Z_write_30 : decode c_Z_write 30 = .ok (.goto (-23), 3) := by decide +kernel
theorem d_Z_write_33 : decode c_Z_write 33 = .ok (.return_, 1) := by decide +kernel
theorem d_Z_refuseWrongWord_0 : decode c_Z_refuseWrongWord 0 = .ok (.iload_n 1, 1) := by decide +kernel
theorem d_Z_refuseWrongWord_1 : decode c_Z_refuseWrongWord 1 = .ok (.ifCond .lt 10, 3) := by decide +kernel
theorem d_Z_refuseWrongWord_4 : decode c_Z_refuseWrongWord 4 = .ok (.iload_n 1, 1) := by decide +kernel
theorem d_Z_refuseWrongWord_5 : decode c_Z_refuseWrongWord 5 = .ok (.sipush 8188, 3) := by decide +kernel
theorem d_Z_refuseWrongWord_8 : decode c_Z_refuseWrongWord 8 = .ok (.if_icmp .le 13, 3) := by decide +kernel
theorem d_Z_refuseWrongWord_11 : decode c_Z_refuseWrongWord 11 = .ok (.new 121, 3) := by decide +kernel
theorem d_Z_refuseWrongWord_14 : decode c_Z_refuseWrongWord 14 = .ok (.dup, 1) := by decide +kernel
theorem d_Z_refuseWrongWord_15 : decode c_Z_refuseWrongWord 15 = .ok (.ldc 143, 2) := by decide +kernel
theorem d_Z_refuseWrongWord_17 : decode c_Z_refuseWrongWord 17 = .ok (.invokespecial 125, 3) := by decide +kernel
theorem d_Z_refuseWrongWord_20 : decode c_Z_refuseWrongWord 20 = .ok (.athrow, 1) := by decide +kernel
theorem d_Z_refuseWrongWord_21 : decode c_Z_refuseWrongWord 21 = .ok (.aload_n 0, 1) := by decide +kernel
theorem d_Z_refuseWrongWord_22 : decode c_Z_refuseWrongWord 22 = .ok (.iload_n 1, 1) := by decide +kernel
theorem d_Z_refuseWrongWord_23 : decode c_Z_refuseWrongWord 23 = .ok (.invokevirtual 99, 3) := by decide +kernel
theorem d_Z_refuseWrongWord_26 : decode c_Z_refuseWrongWord 26 = .ok (.astore_n 2, 1) := by decide +kernel
theorem d_Z_refuseWrongWord_27 : decode c_Z_refuseWrongWord 27 = .ok (.aload_n 2, 1) := by decide +kernel
theorem d_Z_refuseWrongWord_28 : decode c_Z_refuseWrongWord 28 = .ok (.ifnull 15, 3) := by decide +kernel
theorem d_Z_refuseWrongWord_31 : decode c_Z_refuseWrongWord 31 = .ok (.aload_n 2, 1) := by decide +kernel
theorem d_Z_refuseWrongWord_32 : decode c_Z_refuseWrongWord 32 = .ok (.iload_n 1, 1) := by decide +kernel
theorem d_Z_refuseWrongWord_33 : decode c_Z_refuseWrongWord 33 = .ok (.iconst 4, 1) := by decide +kernel
theorem d_Z_refuseWrongWord_34 : decode c_Z_refuseWrongWord 34 = .ok (.iadd, 1) := by decide +kernel
theorem d_Z_refuseWrongWord_35 : decode c_Z_refuseWrongWord 35 = .ok (.iconst 1, 1) := by decide +kernel
theorem d_Z_refuseWrongWord_36 : decode c_Z_refuseWrongWord 36 = .ok (.isub, 1) := by decide +kernel
theorem d_Z_refuseWrongWord_37 : decode c_Z_refuseWrongWord 37 = .ok (.invokevirtual 92, 3) := by decide +kernel
theorem d_Z_refuseWrongWord_40 : decode c_Z_refuseWrongWord 40 = .ok (.ifCond .ne 13, 3) := by decide +kernel
theorem d_Z_refuseWrongWord_43 : decode c_Z_refuseWrongWord 43 = .ok (.new 145, 3) := by decide +kernel
theorem d_Z_refuseWrongWord_46 : decode c_Z_refuseWrongWord 46 = .ok (.dup, 1) := by decide +kernel
theorem d_Z_refuseWrongWord_47 : decode c_Z_refuseWrongWord 47 = .ok (.ldc 147, 2) := by decide +kernel
theorem d_Z_refuseWrongWord_49 : decode c_Z_refuseWrongWord 49 = .ok (.invokespecial 149, 3) := by decide +kernel
theorem d_Z_refuseWrongWord_52 : decode c_Z_refuseWrongWord 52 = .ok (.athrow, 1) := by decide +kernel
theorem d_Z_refuseWrongWord_53 : decode c_Z_refuseWrongWord 53 = .ok (.return_, 1) := by decide +kernel
theorem d_Z_read_0 : decode c_Z_read 0 = .ok (.aload_n 0, 1) := by decide +kernel
theorem d_Z_read_1 : decode c_Z_read 1 = .ok (.iload_n 1, 1) := by decide +kernel
theorem d_Z_read_2 : decode c_Z_read 2 = .ok (.invokevirtual 102, 3) := by decide +kernel
theorem d_Z_read_5 : decode c_Z_read 5 = .ok (.aload_n 0, 1) := by decide +kernel
theorem d_Z_read_6 : decode c_Z_read 6 = .ok (.iload_n 1, 1) := by decide +kernel
theorem d_Z_read_7 : decode c_Z_read 7 = .ok (.invokevirtual 105, 3) := by decide +kernel
theorem d_Z_read_10 : decode c_Z_read 10 = .ok (.ireturn, 1) := by decide +kernel
theorem d_Z_lostAt_0 : decode c_Z_lostAt 0 = .ok (.iload_n 1, 1) := by decide +kernel
theorem d_Z_lostAt_1 : decode c_Z_lostAt 1 = .ok (.ifCond .lt 11, 3) := by decide +kernel
theorem d_Z_lostAt_4 : decode c_Z_lostAt 4 = .ok (.iload_n 1, 1) := by decide +kernel
theorem d_Z_lostAt_5 : decode c_Z_lostAt 5 = .ok (.aload_n 0, 1) := by decide +kernel
theorem d_Z_lostAt_6 : decode c_Z_lostAt 6 = .ok (.getfield 49, 3) := by decide +kernel
theorem d_Z_lostAt_9 : decode c_Z_lostAt 9 = .ok (.if_icmp .lt 13, 3) := by decide +kernel
theorem d_Z_lostAt_12 : decode c_Z_lostAt 12 = .ok (.new 121, 3) := by decide +kernel
theorem d_Z_lostAt_15 : decode c_Z_lostAt 15 = .ok (.dup, 1) := by decide +kernel
theorem d_Z_lostAt_16 : decode c_Z_lostAt 16 = .ok (.ldc 123, 2) := by decide +kernel
theorem d_Z_lostAt_18 : decode c_Z_lostAt 18 = .ok (.invokespecial 125, 3) := by decide +kernel
theorem d_Z_lostAt_21 : decode c_Z_lostAt 21 = .ok (.athrow, 1) := by decide +kernel
theorem d_Z_lostAt_22 : decode c_Z_lostAt 22 = .ok (.aload_n 0, 1) := by decide +kernel
theorem d_Z_lostAt_23 : decode c_Z_lostAt 23 = .ok (.getfield 45, 3) := by decide +kernel
theorem d_Z_lostAt_26 : decode c_Z_lostAt 26 = .ok (.iload_n 1, 1) := by decide +kernel
theorem d_Z_lostAt_27 : decode c_Z_lostAt 27 = .ok (.iaload, 1) := by decide +kernel
theorem d_Z_lostAt_28 : decode c_Z_lostAt 28 = .ok (.ireturn, 1) := by decide +kernel
theorem d_Z_count_0 : decode c_Z_count 0 = .ok (.iload_n 1, 1) := by decide +kernel
theorem d_Z_count_1 : decode c_Z_count 1 = .ok (.tableswitch 63 0 4 #[35, 40, 45, 53, 58], 35) := by decide +kernel
theorem d_Z_count_36 : decode c_Z_count 36 = .ok (.aload_n 0, 1) := by decide +kernel
theorem d_Z_count_37 : decode c_Z_count 37 = .ok (.getfield 30, 3) := by decide +kernel
theorem d_Z_count_40 : decode c_Z_count 40 = .ok (.ireturn, 1) := by decide +kernel
theorem d_Z_count_41 : decode c_Z_count 41 = .ok (.aload_n 0, 1) := by decide +kernel
theorem d_Z_count_42 : decode c_Z_count 42 = .ok (.getfield 33, 3) := by decide +kernel
theorem d_Z_count_45 : decode c_Z_count 45 = .ok (.ireturn, 1) := by decide +kernel
theorem d_Z_count_46 : decode c_Z_count 46 = .ok (.aload_n 0, 1) := by decide +kernel
theorem d_Z_count_47 : decode c_Z_count 47 = .ok (.getfield 22, 3) := by decide +kernel
theorem d_Z_count_50 : decode c_Z_count 50 = .ok (.invokevirtual 128, 3) := by decide +kernel
theorem d_Z_count_53 : decode c_Z_count 53 = .ok (.ireturn, 1) := by decide +kernel
theorem d_Z_count_54 : decode c_Z_count 54 = .ok (.aload_n 0, 1) := by decide +kernel
theorem d_Z_count_55 : decode c_Z_count 55 = .ok (.getfield 26, 3) := by decide +kernel
theorem d_Z_count_58 : decode c_Z_count 58 = .ok (.ireturn, 1) := by decide +kernel
theorem d_Z_count_59 : decode c_Z_count 59 = .ok (.aload_n 0, 1) := by decide +kernel
theorem d_Z_count_60 : decode c_Z_count 60 = .ok (.getfield 36, 3) := by decide +kernel
theorem d_Z_count_63 : decode c_Z_count 63 = .ok (.ireturn, 1) := by decide +kernel
theorem d_Z_count_64 : decode c_Z_count 64 = .ok (.new 131, 3) := by decide +kernel
theorem d_Z_count_67 : decode c_Z_count 67 = .ok (.dup, 1) := by decide +kernel
theorem d_Z_count_68 : decode c_Z_count 68 = .ok (.ldc 133, 2) := by decide +kernel
theorem d_Z_count_70 : decode c_Z_count 70 = .ok (.invokespecial 135, 3) := by decide +kernel
theorem d_Z_count_73 : decode c_Z_count 73 = .ok (.athrow, 1) := by decide +kernel
