theorem d_M_init_0 : decode c_M_init 0 = .ok (.aload_n 0, 1) := by decide +kernel
theorem d_M_init_1 : decode c_M_init 1 = .ok (.invokespecial 1, 3) := by decide +kernel
theorem d_M_init_4 : decode c_M_init 4 = .ok (.aload_n 0, 1) := by decide +kernel
theorem d_M_init_5 : decode c_M_init 5 = .ok (.sipush 8192, 3) := by decide +kernel
theorem d_M_init_8 : decode c_M_init 8 = .ok (.newarray .int, 2) := by decide +kernel
theorem d_M_init_10 : decode c_M_init 10 = .ok (.putfield 7, 3) := by decide +kernel
theorem d_M_init_13 : decode c_M_init 13 = .ok (.aload_n 0, 1) := by decide +kernel
theorem d_M_init_14 : decode c_M_init 14 = .ok (.sipush 300, 3) := by decide +kernel
theorem d_M_init_17 : decode c_M_init 17 = .ok (.newarray .int, 2) := by decide +kernel
theorem d_M_init_19 : decode c_M_init 19 = .ok (.putfield 13, 3) := by decide +kernel
theorem d_M_init_22 : decode c_M_init 22 = .ok (.aload_n 0, 1) := by decide +kernel
theorem d_M_init_23 : decode c_M_init 23 = .ok (.sipush 300, 3) := by decide +kernel
theorem d_M_init_26 : decode c_M_init 26 = .ok (.newarray .int, 2) := by decide +kernel
theorem d_M_init_28 : decode c_M_init 28 = .ok (.putfield 16, 3) := by decide +kernel
theorem d_M_init_31 : decode c_M_init 31 = .ok (.aload_n 0, 1) := by decide +kernel
theorem d_M_init_32 : decode c_M_init 32 = .ok (.sipush 300, 3) := by decide +kernel
theorem d_M_init_35 : decode c_M_init 35 = .ok (.newarray .int, 2) := by decide +kernel
theorem d_M_init_37 : decode c_M_init 37 = .ok (.putfield 19, 3) := by decide +kernel
theorem d_M_init_40 : decode c_M_init 40 = .ok (.aload_n 0, 1) := by decide +kernel
theorem d_M_init_41 : decode c_M_init 41 = .ok (.sipush 300, 3) := by decide +kernel
theorem d_M_init_44 : decode c_M_init 44 = .ok (.newarray .int, 2) := by decide +kernel
theorem d_M_init_46 : decode c_M_init 46 = .ok (.putfield 22, 3) := by decide +kernel
theorem d_M_init_49 : decode c_M_init 49 = .ok (.aload_n 0, 1) := by decide +kernel
theorem d_M_init_50 : decode c_M_init 50 = .ok (.sipush 300, 3) := by decide +kernel
theorem d_M_init_53 : decode c_M_init 53 = .ok (.newarray .boolean, 2) := by decide +kernel
theorem d_M_init_55 : decode c_M_init 55 = .ok (.putfield 25, 3) := by decide +kernel
theorem d_M_init_58 : decode c_M_init 58 = .ok (.aload_n 0, 1) := by decide +kernel
theorem d_M_init_59 : decode c_M_init 59 = .ok (.sipush 300, 3) := by decide +kernel
theorem d_M_init_62 : decode c_M_init 62 = .ok (.newarray .int, 2) := by decide +kernel
theorem d_M_init_64 : decode c_M_init 64 = .ok (.putfield 29, 3) := by decide +kernel
theorem d_M_init_67 : decode c_M_init 67 = .ok (.return_, 1) := by decide +kernel
theorem d_M_thrown_0 : decode c_M_thrown 0 = .ok (.aload_n 0, 1) := by decide +kernel
theorem d_M_thrown_1 : decode c_M_thrown 1 = .ok (.getfield 32, 3) := by decide +kernel
theorem d_M_thrown_4 : decode c_M_thrown 4 = .ok (.ireturn, 1) := by decide +kernel
theorem d_M_get_0 : decode c_M_get 0 = .ok (.aload_n 0, 1) := by decide +kernel
theorem d_M_get_1 : decode c_M_get 1 = .ok (.iload_n 1, 1) := by decide +kernel
theorem d_M_get_2 : decode c_M_get 2 = .ok (.ifCond .lt 10, 3) := by decide +kernel
theorem d_M_get_5 : decode c_M_get 5 = .ok (.iload_n 1, 1) := by decide +kernel
theorem d_M_get_6 : decode c_M_get 6 = .ok (.sipush 2048, 3) := by decide +kernel
theorem d_M_get_9 : decode c_M_get 9 = .ok (.if_icmp .le 7, 3) := by decide +kernel
theorem d_M_get_12 : decode c_M_get 12 = .ok (.iconst 1, 1) := by decide +kernel
theorem d_M_get_13 : decode c_M_get 13 = .ok (.goto 4, 3) := by decide +kernel
theorem d_M_get_16 : decode c_M_get 16 = .ok (.iconst 0, 1) := by decide +kernel
theorem d_M_get_17 : decode c_M_get 17 = .ok (.iconst 1, 1) := by decide +kernel
theorem d_M_get_18 : decode c_M_get 18 = .ok (.invokevirtual 56, 3) := by decide +kernel
theorem d_M_get_21 : decode c_M_get 21 = .ok (.ifCond .eq 5, 3) := by decide +kernel
theorem d_M_get_24 : decode c_M_get 24 = .ok (.iconst 0, 1) := by decide +kernel
theorem d_M_get_25 : decode c_M_get 25 = .ok (.ireturn, 1) := by decide +kernel
theorem d_M_get_26 : decode c_M_get 26 = .ok (.aload_n 0, 1) := by decide +kernel
theorem d_M_get_27 : decode c_M_get 27 = .ok (.iload_n 1, 1) := by decide +kernel
theorem d_M_get_28 : decode c_M_get 28 = .ok (.invokevirtual 60, 3) := by decide +kernel
theorem d_M_get_31 : decode c_M_get 31 = .ok (.ireturn, 1) := by decide +kernel
theorem d_M_fails_0 : decode c_M_fails 0 = .ok (.aload_n 0, 1) := by decide +kernel
theorem d_M_fails_1 : decode c_M_fails 1 = .ok (.iload_n 1, 1) := by decide +kernel
theorem d_M_fails_2 : decode c_M_fails 2 = .ok (.ifCond .eq 7, 3) := by decide +kernel
theorem d_M_fails_5 : decode c_M_fails 5 = .ok (.iload_n 2, 1) := by decide +kernel
theorem d_M_fails_6 : decode c_M_fails 6 = .ok (.goto 4, 3) := by decide +kernel
theorem d_M_fails_9 : decode c_M_fails 9 = .ok (.iconst 0, 1) := by decide +kernel
theorem d_M_fails_10 : decode c_M_fails 10 = .ok (.putfield 32, 3) := by decide +kernel
theorem d_M_fails_13 : decode c_M_fails 13 = .ok (.iload_n 1, 1) := by decide +kernel
theorem d_M_fails_14 : decode c_M_fails 14 = .ok (.ireturn, 1) := by decide +kernel
theorem d_M_make_0 : decode c_M_make 0 = .ok (.aload_n 0, 1) := by decide +kernel
theorem d_M_make_1 : decode c_M_make 1 = .ok (.iload_n 1, 1) := by decide +kernel
theorem d_M_make_2 : decode c_M_make 2 = .ok (.invokevirtual 43, 3) := by decide +kernel
theorem d_M_make_5 : decode c_M_make 5 = .ok (.istore_n 2, 1) := by decide +kernel
theorem d_M_make_6 : decode c_M_make 6 = .ok (.iload_n 2, 1) := by decide +kernel
theorem d_M_make_7 : decode c_M_make 7 = .ok (.ifCond .ne 5, 3) := by decide +kernel
theorem d_M_make_10 : decode c_M_make 10 = .ok (.iconst 0, 1) := by decide +kernel
theorem d_M_make_11 : decode c_M_make 11 = .ok (.ireturn, 1) := by decide +kernel
theorem d_M_make_12 : decode c_M_make 12 = .ok (.aload_n 0, 1) := by decide +kernel
theorem d_M_make_13 : decode c_M_make 13 = .ok (.getfield 13, 3) := by decide +kernel
theorem d_M_make_16 : decode c_M_make 16 = .ok (.aload_n 0, 1) := by decide +kernel
theorem d_M_make_17 : decode c_M_make 17 = .ok (.getfield 40, 3) := by decide +kernel
theorem d_M_make_20 : decode c_M_make 20 = .ok (.iload_n 2, 1) := by decide +kernel
theorem d_M_make_21 : decode c_M_make 21 = .ok (.iastore, 1) := by decide +kernel
theorem d_M_make_22 : decode c_M_make 22 = .ok (.aload_n 0, 1) := by decide +kernel
theorem d_M_make_23 : decode c_M_make 23 = .ok (.getfield 16, 3) := by decide +kernel
theorem d_M_make_26 : decode c_M_make 26 = .ok (.aload_n 0, 1) := by decide +kernel
theorem d_M_make_27 : decode c_M_make 27 = .ok (.getfield 40, 3) := by decide +kernel
theorem d_M_make_30 : decode c_M_make 30 = .ok (.iload_n 1, 1) := by decide +kernel
theorem d_M_make_31 : decode c_M_make 31 = .ok (.iastore, 1) := by decide +kernel
theorem d_M_make_32 : decode c_M_make 32 = .ok (.aload_n 0, 1) := by decide +kernel
theorem d_M_make_33 : decode c_M_make 33 = .ok (.getfield 19, 3) := by decide +kernel
theorem d_M_make_36 : decode c_M_make 36 = .ok (.aload_n 0, 1) := by decide +kernel
theorem d_M_make_37 : decode c_M_make 37 = .ok (.dup, 1) := by decide +kernel
theorem d_M_make_38 : decode c_M_make 38 = .ok (.getfield 40, 3) := by decide +kernel
theorem d_M_make_41 : decode c_M_make 41 = .ok (.dup_x1, 1) := by decide +kernel
theorem d_M_make_42 : decode c_M_make 42 = .ok (.iconst 1, 1) := by decide +kernel
theorem d_M_make_43 : decode c_M_make 43 = .ok (.iadd, 1) := by decide +kernel
theorem d_M_make_44 : decode c_M_make 44 = .ok (.putfield 40, 3) := by decide +kernel
theorem d_M_make_47 : decode c_M_make 47 = .ok (.iconst 1, 1) := by decide +kernel
theorem d_M_make_48 : decode c_M_make 48 = .ok (.iastore, 1) := by decide +kernel
theorem d_M_make_49 : decode c_M_make 49 = .ok (.aload_n 0, 1) := by decide +kernel
theorem d_M_make_50 : decode c_M_make 50 = .ok (.dup, 1) := by decide +kernel
theorem d_M_make_51 : decode c_M_make 51 = .ok (.getfield 46, 3) := by decide +kernel
theorem d_M_make_54 : decode c_M_make 54 = .ok (.iconst 1, 1) := by decide +kernel
theorem d_M_make_55 : decode c_M_make 55 = .ok (.iadd, 1) := by decide +kernel
theorem d_M_make_56 : decode c_M_make 56 = .ok (.putfield 46, 3) := by decide +kernel
theorem d_M_make_59 : decode c_M_make 59 = .ok (.iload_n 2, 1) := by decide +kernel
theorem d_M_make_60 : decode c_M_make 60 = .ok (.ireturn, 1) := by decide +kernel
theorem d_M_room_0 : decode c_M_room 0 = .ok (.bipush 16, 2) := by decide +kernel
theorem d_M_room_2 : decode c_M_room 2 = .ok (.istore_n 2, 1) := by decide +kernel
theorem d_M_room_3 : decode c_M_room 3 = .ok (.iload_n 2, 1) := by decide +kernel
theorem d_M_room_4 : decode c_M_room 4 = .ok (.iload_n 1, 1) := by decide +kernel
theorem d_M_room_5 : decode c_M_room 5 = .ok (.invokestatic 36, 3) := by decide +kernel
theorem d_M_room_8 : decode c_M_room 8 = .ok (.iadd, 1) := by decide +kernel
theorem d_M_room_9 : decode c_M_room 9 = .ok (.bipush 16, 2) := by decide +kernel
theorem d_M_room_11 : decode c_M_room 11 = .ok (.iadd, 1) := by decide +kernel
theorem d_M_room_12 : decode c_M_room 12 = .ok (.sipush 8192, 3) := by decide +kernel
theorem d_M_room_15 : decode c_M_room 15 = .ok (.if_icmp .gt 81, 3) := by decide +kernel
theorem d_M_room_18 : decode c_M_room 18 = .ok (.iconst 1, 1) := by decide +kernel
theorem d_M_room_19 : decode c_M_room 19 = .ok (.istore_n 3, 1) := by decide +kernel
theorem d_M_room_20 : decode c_M_room 20 = .ok (.iconst 0, 1) := by decide +kernel
theorem d_M_room_21 : decode c_M_room 21 = .ok (.istore 4, 2) := by decide +kernel
theorem d_M_room_23 : decode c_M_room 23 = .ok (.iload 4, 2) := by decide +kernel
theorem d_M_room_25 : decode c_M_room 25 = .ok (.aload_n 0, 1) := by decide +kernel
theorem d_M_room_26 : decode c_M_room 26 = .ok (.getfield 40, 3) := by decide +kernel
theorem d_M_room_29 : decode c_M_room 29 = .ok (.if_icmp .ge 55, 3) := by decide +kernel
theorem d_M_room_32 : decode c_M_room 32 = .ok (.iload_n 2, 1) := by decide +kernel
theorem d_M_room_33 : decode c_M_room 33 = .ok (.bipush 16, 2) := by decide +kernel
theorem d_M_room_35 : decode c_M_room 35 = .ok (.isub, 1) := by decide +kernel
theorem d_M_room_36 : decode c_M_room 36 = .ok (.aload_n 0, 1) := by decide +kernel
theorem d_M_room_37 : decode c_M_room 37 = .ok (.getfield 13, 3) := by decide +kernel
theorem d_M_room_40 : decode c_M_room 40 = .ok (.iload 4, 2) := by decide +kernel
theorem d_M_room_42 : decode c_M_room 42 = .ok (.iaload, 1) := by decide +kernel
theorem d_M_room_43 : decode c_M_room 43 = .ok (.aload_n 0, 1) := by decide +kernel
theorem d_M_room_44 : decode c_M_room 44 = .ok (.getfield 16, 3) := by decide +kernel
theorem d_M_room_47 : decode c_M_room 47 = .ok (.iload 4, 2) := by decide +kernel
theorem d_M_room_49 : decode c_M_room 49 = .ok (.iaload, 1) := by decide +kernel
theorem d_M_room_50 : decode c_M_room 50 = .ok (.invokestatic 36, 3) := by decide +kernel
theorem d_M_room_53 : decode c_M_room 53 = .ok (.iadd, 1) := by decide +kernel
theorem d_M_room_54 : decode c_M_room 54 = .ok (.if_icmp .ge 24, 3) := by decide +kernel
theorem d_M_room_57 : decode c_M_room 57 = .ok (.aload_n 0, 1) := by decide +kernel
theorem d_M_room_58 : decode c_M_room 58 = .ok (.getfield 13, 3) := by decide +kernel
theorem d_M_room_61 : decode c_M_room 61 = .ok (.iload 4, 2) := by decide +kernel
theorem d_M_room_63 : decode c_M_room 63 = .ok (.iaload, 1) := by decide +kernel
theorem d_M_room_64 : decode c_M_room 64 = .ok (.iload_n 2, 1) := by decide +kernel
theorem d_M_room_65 : decode c_M_room 65 = .ok (.iload_n 1, 1) := by decide +kernel
theorem d_M_room_66 : decode c_M_room 66 = .ok (.invokestatic 36, 3) := by decide +kernel
theorem d_M_room_69 : decode c_M_room 69 = .ok (.iadd, 1) := by decide +kernel
theorem d_M_room_70 : decode c_M_room 70 = .ok (.bipush 16, 2) := by decide +kernel
theorem d_M_room_72 : decode c_M_room 72 = .ok (.iadd, 1) := by decide +kernel
theorem d_M_room_73 : decode c_M_room 73 = .ok (.if_icmp .ge 5, 3) := by decide +kernel
theorem d_M_room_76 : decode c_M_room 76 = .ok (.iconst 0, 1) := by decide +kernel
theorem d_M_room_77 : decode c_M_room 77 = .ok (.istore_n 3, 1) := by decide +kernel
theorem d_M_room_78 : decode c_M_room 78 = .ok (.iinc 4 1, 3) := by decide +kernel
theorem d_M_room_81 : decode c_M_room 81 = .ok (.goto (-58), 3) := by decide +kernel
theorem d_M_room_84 : decode c_M_room 84 = .ok (.iload_n 3, 1) := by decide +kernel
theorem d_M_room_85 : decode c_M_room 85 = .ok (.ifCond .eq 5, 3) := by decide +kernel
theorem d_M_room_88 : decode c_M_room 88 = .ok (.iload_n 2, 1) := by decide +kernel
theorem d_M_room_89 : decode c_M_room 89 = .ok (.ireturn, 1) := by decide +kernel
theorem d_M_room_90 : decode c_M_room 90 = .ok (.iinc 2 16, 3) := by decide +kernel
theorem d_M_room_93 : decode c_M_room 93 = .ok (.goto (-90), 3) := by decide +kernel
theorem d_M_room_96 : decode c_M_room 96 = .ok (.iconst 0, 1) := by decide +kernel
theorem d_M_room_97 : decode c_M_room 97 = .ok (.ireturn, 1) := by decide +kernel
theorem d_M_taken_0 : decode c_M_taken 0 = .ok (.iload_n 0, 1) := by decide +kernel
theorem d_M_taken_1 : decode c_M_taken 1 = .ok (.ifCond .ne 8, 3) := by decide +kernel
theorem d_M_taken_4 : decode c_M_taken 4 = .ok (.bipush 16, 2) := by decide +kernel
theorem d_M_taken_6 : decode c_M_taken 6 = .ok (.goto 15, 3) := by decide +kernel
theorem d_M_taken_9 : decode c_M_taken 9 = .ok (.iload_n 0, 1) := by decide +kernel
theorem d_M_taken_10 : decode c_M_taken 10 = .ok (.bipush 16, 2) := by decide +kernel
theorem d_M_taken_12 : decode c_M_taken 12 = .ok (.iadd, 1) := by decide +kernel
theorem d_M_taken_13 : decode c_M_taken 13 = .ok (.iconst 1, 1) := by decide +kernel
theorem d_M_taken_14 : decode c_M_taken 14 = .ok (.isub, 1) := by decide +kernel
theorem d_M_taken_15 : decode c_M_taken 15 = .ok (.bipush 16, 2) := by decide +kernel
theorem d_M_taken_17 : decode c_M_taken 17 = .ok (.idiv, 1) := by decide +kernel
theorem d_M_taken_18 : decode c_M_taken 18 = .ok (.bipush 16, 2) := by decide +kernel
theorem d_M_taken_20 : decode c_M_taken 20 = .ok (.imul, 1) := by decide +kernel
theorem d_M_taken_21 : decode c_M_taken 21 = .ok (.ireturn, 1) := by decide +kernel
theorem d_M_back_0 : decode c_M_back 0 = .ok (.aload_n 0, 1) := by decide +kernel
theorem d_M_back_1 : decode c_M_back 1 = .ok (.iload_n 1, 1) := by decide +kernel
theorem d_M_back_2 : decode c_M_back 2 = .ok (.iconst 1, 1) := by decide +kernel
theorem d_M_back_3 : decode c_M_back 3 = .ok (.invokevirtual 63, 3) := by decide +kernel
theorem d_M_back_6 : decode c_M_back 6 = .ok (.istore_n 2, 1) := by decide +kernel
theorem d_M_back_7 : decode c_M_back 7 = .ok (.aload_n 0, 1) := by decide +kernel
theorem d_M_back_8 : decode c_M_back 8 = .ok (.iload_n 2, 1) := by decide +kernel
theorem d_M_back_9 : decode c_M_back 9 = .ok (.ifCond .ge 7, 3) := by decide +kernel
theorem d_M_back_12 : decode c_M_back 12 = .ok (.iconst 1, 1) := by decide +kernel
theorem d_M_back_13 : decode c_M_back 13 = .ok (.goto 4, 3) := by decide +kernel
theorem d_M_back_16 : decode c_M_back 16 = .ok (.iconst 0, 1) := by decide +kernel
theorem d_M_back_17 : decode c_M_back 17 = .ok (.aload_n 0, 1) := by decide +kernel
theorem d_M_back_18 : decode c_M_back 18 = .ok (.iload_n 1, 1) := by decide +kernel
theorem d_M_back_19 : decode c_M_back 19 = .ok (.iconst 2, 1) := by decide +kernel
theorem d_M_back_20 : decode c_M_back 20 = .ok (.invokevirtual 63, 3) := by decide +kernel
theorem d_M_back_23 : decode c_M_back 23 = .ok (.ifCond .lt 7, 3) := by decide +kernel
theorem d_M_back_26 : decode c_M_back 26 = .ok (.iconst 2, 1) := by decide +kernel
theorem d_M_back_27 : decode c_M_back 27 = .ok (.goto 4, 3) := by decide +kernel
theorem d_M_back_30 : decode c_M_back 30 = .ok (.iconst 1, 1) := by decide +kernel
theorem d_M_back_31 : decode c_M_back 31 = .ok (.invokevirtual 56, 3) := by decide +kernel
theorem d_M_back_34 : decode c_M_back 34 = .ok (.ifCond .eq 5, 3) := by decide +kernel
theorem d_M_back_37 : decode c_M_back 37 = .ok (.iconst 0, 1) := by decide +kernel
theorem d_M_back_38 : decode c_M_back 38 = .ok (.ireturn, 1) := by decide +kernel
theorem d_M_back_39 : decode c_M_back 39 = .ok (.aload_n 0, 1) := by decide +kernel
theorem d_M_back_40 : decode c_M_back 40 = .ok (.getfield 16, 3) := by decide +kernel
theorem d_M_back_43 : decode c_M_back 43 = .ok (.iload_n 2, 1) := by decide +kernel
theorem d_M_back_44 : decode c_M_back 44 = .ok (.iaload, 1) := by decide +kernel
theorem d_M_back_45 : decode c_M_back 45 = .ok (.istore_n 3, 1) := by decide +kernel
theorem d_M_back_46 : decode c_M_back 46 = .ok (.aload_n 0, 1) := by decide +kernel
theorem d_M_back_47 : decode c_M_back 47 = .ok (.iload_n 2, 1) := by decide +kernel
theorem d_M_back_48 : decode c_M_back 48 = .ok (.invokevirtual 67, 3) := by decide +kernel
theorem d_M_back_51 : decode c_M_back 51 = .ok (.iload_n 3, 1) := by decide +kernel
theorem d_M_back_52 : decode c_M_back 52 = .ok (.ireturn, 1) := by decide +kernel
theorem d_M_at_0 : decode c_M_at 0 = .ok (.iconst 0, 1) := by decide +kernel
theorem d_M_at_1 : decode c_M_at 1 = .ok (.istore_n 3, 1) := by decide +kernel
theorem d_M_at_2 : decode c_M_at 2 = .ok (.iload_n 3, 1) := by decide +kernel
theorem d_M_at_3 : decode c_M_at 3 = .ok (.aload_n 0, 1) := by decide +kernel
theorem d_M_at_4 : decode c_M_at 4 = .ok (.getfield 40, 3) := by decide +kernel
theorem d_M_at_7 : decode c_M_at 7 = .ok (.if_icmp .ge 31, 3) := by decide +kernel
theorem d_M_at_10 : decode c_M_at 10 = .ok (.aload_n 0, 1) := by decide +kernel
theorem d_M_at_11 : decode c_M_at 11 = .ok (.getfield 13, 3) := by decide +kernel
theorem d_M_at_14 : decode c_M_at 14 = .ok (.iload_n 3, 1) := by decide +kernel
theorem d_M_at_15 : decode c_M_at 15 = .ok (.iaload, 1) := by decide +kernel
theorem d_M_at_16 : decode c_M_at 16 = .ok (.iload_n 1, 1) := by decide +kernel
theorem d_M_at_17 : decode c_M_at 17 = .ok (.if_icmp .ne 15, 3) := by decide +kernel
theorem d_M_at_20 : decode c_M_at 20 = .ok (.aload_n 0, 1) := by decide +kernel
theorem d_M_at_21 : decode c_M_at 21 = .ok (.getfield 19, 3) := by decide +kernel
theorem d_M_at_24 : decode c_M_at 24 = .ok (.iload_n 3, 1) := by decide +kernel
theorem d_M_at_25 : decode c_M_at 25 = .ok (.iaload, 1) := by decide +kernel
theorem d_M_at_26 : decode c_M_at 26 = .ok (.iload_n 2, 1) := by decide +kernel
theorem d_M_at_27 : decode c_M_at 27 = .ok (.if_icmp .ne 5, 3) := by decide +kernel
theorem d_M_at_30 : decode c_M_at 30 = .ok (.iload_n 3, 1) := by decide +kernel
theorem d_M_at_31 : decode c_M_at 31 = .ok (.ireturn, 1) := by decide +kernel
theorem d_M_at_32 : decode c_M_at 32 = .ok (.iinc 3 1, 3) := by decide +kernel
theorem d_M_at_35 : decode c_M_at 35 = .ok (.goto (-33), 3) := by decide +kernel
theorem d_M_at_38 : decode c_M_at 38 = .ok (.iconst (-1), 1) := by decide +kernel
theorem d_M_at_39 : decode c_M_at 39 = .ok (.ireturn, 1) := by decide +kernel
theorem d_M_give_0 : decode c_M_give 0 = .ok (.aload_n 0, 1) := by decide +kernel
theorem d_M_give_1 : decode c_M_give 1 = .ok (.getfield 19, 3) := by decide +kernel
theorem d_M_give_4 : decode c_M_give 4 = .ok (.iload_n 1, 1) := by decide +kernel
theorem d_M_give_5 : decode c_M_give 5 = .ok (.iconst 2, 1) := by decide +kernel
theorem d_M_give_6 : decode c_M_give 6 = .ok (.iastore, 1) := by decide +kernel
theorem d_M_give_7 : decode c_M_give 7 = .ok (.aload_n 0, 1) := by decide +kernel
theorem d_M_give_8 : decode c_M_give 8 = .ok (.getfield 22, 3) := by decide +kernel
theorem d_M_give_11 : decode c_M_give 11 = .ok (.iload_n 1, 1) := by decide +kernel
theorem d_M_give_12 : decode c_M_give 12 = .ok (.aload_n 0, 1) := by decide +kernel
theorem d_M_give_13 : decode c_M_give 13 = .ok (.dup, 1) := by decide +kernel
theorem d_M_give_14 : decode c_M_give 14 = .ok (.getfield 49, 3) := by decide +kernel
theorem d_M_give_17 : decode c_M_give 17 = .ok (.iconst 1, 1) := by decide +kernel
theorem d_M_give_18 : decode c_M_give 18 = .ok (.iadd, 1) := by decide +kernel
theorem d_M_give_19 : decode c_M_give 19 = .ok (.dup_x1, 1) := by decide +kernel
theorem d_M_give_20 : decode c_M_give 20 = .ok (.putfield 49, 3) := by decide +kernel
theorem d_M_give_23 : decode c_M_give 23 = .ok (.iastore, 1) := by decide +kernel
theorem d_M_give_24 : decode c_M_give 24 = .ok (.aload_n 0, 1) := by decide +kernel
theorem d_M_give_25 : decode c_M_give 25 = .ok (.invokevirtual 52, 3) := by decide +kernel
theorem d_M_give_28 : decode c_M_give 28 = .ok (.sipush 512, 3) := by decide +kernel
theorem d_M_give_31 : decode c_M_give 31 = .ok (.if_icmp .le 125, 3) := by decide +kernel
theorem d_M_give_34 : decode c_M_give 34 = .ok (.iconst (-1), 1) := by decide +kernel
theorem d_M_give_35 : decode c_M_give 35 = .ok (.istore_n 2, 1) := by decide +kernel
theorem d_M_give_36 : decode c_M_give 36 = .ok (.iconst 0, 1) := by decide +kernel
theorem d_M_give_37 : decode c_M_give 37 = .ok (.istore_n 3, 1) := by decide +kernel
theorem d_M_give_38 : decode c_M_give 38 = .ok (.iload_n 3, 1) := by decide +kernel
theorem d_M_give_39 : decode c_M_give 39 = .ok (.aload_n 0, 1) := by decide +kernel
theorem d_M_give_40 : decode c_M_give 40 = .ok (.getfield 40, 3) := by decide +kernel
theorem d_M_give_43 : decode c_M_give 43 = .ok (.if_icmp .ge 40, 3) := by decide +kernel
theorem d_M_give_46 : decode c_M_give 46 = .ok (.aload_n 0, 1) := by decide +kernel
theorem d_M_give_47 : decode c_M_give 47 = .ok (.getfield 19, 3) := by decide +kernel
theorem d_M_give_50 : decode c_M_give 50 = .ok (.iload_n 3, 1) := by decide +kernel
theorem d_M_give_51 : decode c_M_give 51 = .ok (.iaload, 1) := by decide +kernel
theorem d_M_give_52 : decode c_M_give 52 = .ok (.iconst 2, 1) := by decide +kernel
theorem d_M_give_53 : decode c_M_give 53 = .ok (.if_icmp .ne 24, 3) := by decide +kernel
theorem d_M_give_56 : decode c_M_give 56 = .ok (.iload_n 2, 1) := by decide +kernel
theorem d_M_give_57 : decode c_M_give 57 = .ok (.ifCond .lt 18, 3) := by decide +kernel
theorem d_M_give_60 : decode c_M_give 60 = .ok (.aload_n 0, 1) := by decide +kernel
theorem d_M_give_61 : decode c_M_give 61 = .ok (.getfield 22, 3) := by decide +kernel
theorem d_M_give_64 : decode c_M_give 64 = .ok (.iload_n 3, 1) := by decide +kernel
theorem d_M_give_65 : decode c_M_give 65 = .ok (.iaload, 1) := by decide +kernel
theorem d_M_give_66 : decode c_M_give 66 = .ok (.aload_n 0, 1) := by decide +kernel
theorem d_M_give_67 : decode c_M_give 67 = .ok (.getfield 22, 3) := by decide +kernel
theorem d_M_give_70 : decode c_M_give 70 = .ok (.iload_n 2, 1) := by decide +kernel
theorem d_M_give_71 : decode c_M_give 71 = .ok (.iaload, 1) := by decide +kernel
theorem d_M_give_72 : decode c_M_give 72 = .ok (.if_icmp .ge 5, 3) := by decide +kernel
theorem d_M_give_75 : decode c_M_give 75 = .ok (.iload_n 3, 1) := by decide +kernel
theorem d_M_give_76 : decode c_M_give 76 = .ok (.istore_n 2, 1) := by decide +kernel
theorem d_M_give_77 : decode c_M_give 77 = .ok (.iinc 3 1, 3) := by decide +kernel
theorem d_M_give_80 : decode c_M_give 80 = .ok (.goto (-42), 3) := by decide +kernel
theorem d_M_give_83 : decode c_M_give 83 = .ok (.aload_n 0, 1) := by decide +kernel
theorem d_M_give_84 : decode c_M_give 84 = .ok (.dup, 1) := by decide +kernel
theorem d_M_give_85 : decode c_M_give 85 = .ok (.getfield 40, 3) := by decide +kernel
theorem d_M_give_88 : decode c_M_give 88 = .ok (.iconst 1, 1) := by decide +kernel
theorem d_M_give_89 : decode c_M_give 89 = .ok (.isub, 1) := by decide +kernel
theorem d_M_give_90 : decode c_M_give 90 = .ok (.putfield 40, 3) := by decide +kernel
theorem d_M_give_93 : decode c_M_give 93 = .ok (.aload_n 0, 1) := by decide +kernel
theorem d_M_give_94 : decode c_M_give 94 = .ok (.getfield 13, 3) := by decide +kernel
theorem d_M_give_97 : decode c_M_give 97 = .ok (.iload_n 2, 1) := by decide +kernel
theorem d_M_give_98 : decode c_M_give 98 = .ok (.aload_n 0, 1) := by decide +kernel
theorem d_M_give_99 : decode c_M_give 99 = .ok (.getfield 13, 3) := by decide +kernel
theorem d_M_give_102 : decode c_M_give 102 = .ok (.aload_n 0, 1) := by decide +kernel
theorem d_M_give_103 : decode c_M_give 103 = .ok (.getfield 40, 3) := by decide +kernel
theorem d_M_give_106 : decode c_M_give 106 = .ok (.iaload, 1) := by decide +kernel
theorem d_M_give_107 : decode c_M_give 107 = .ok (.iastore, 1) := by decide +kernel
theorem d_M_give_108 : decode c_M_give 108 = .ok (.aload_n 0, 1) := by decide +kernel
theorem d_M_give_109 : decode c_M_give 109 = .ok (.getfield 16, 3) := by decide +kernel
theorem d_M_give_112 : decode c_M_give 112 = .ok (.iload_n 2, 1) := by decide +kernel
theorem d_M_give_113 : decode c_M_give 113 = .ok (.aload_n 0, 1) := by decide +kernel
theorem d_M_give_114 : decode c_M_give 114 = .ok (.getfield 16, 3) := by decide +kernel
theorem d_M_give_117 : decode c_M_give 117 = .ok (.aload_n 0, 1) := by decide +kernel
theorem d_M_give_118 : decode c_M_give 118 = .ok (.getfield 40, 3) := by decide +kernel
theorem d_M_give_121 : decode c_M_give 121 = .ok (.iaload, 1) := by decide +kernel
theorem d_M_give_122 : decode c_M_give 122 = .ok (.iastore, 1) := by decide +kernel
theorem d_M_give_123 : decode c_M_give 123 = .ok (.aload_n 0, 1) := by decide +kernel
theorem d_M_give_124 : decode c_M_give 124 = .ok (.getfield 19, 3) := by decide +kernel
theorem d_M_give_127 : decode c_M_give 127 = .ok (.iload_n 2, 1) := by decide +kernel
theorem d_M_give_128 : decode c_M_give 128 = .ok (.aload_n 0, 1) := by decide +kernel
theorem d_M_give_129 : decode c_M_give 129 = .ok (.getfield 19, 3) := by decide +kernel
theorem d_M_give_132 : decode c_M_give 132 = .ok (.aload_n 0, 1) := by decide +kernel
theorem d_M_give_133 : decode c_M_give 133 = .ok (.getfield 40, 3) := by decide +kernel
theorem d_M_give_136 : decode c_M_give 136 = .ok (.iaload, 1) := by decide +kernel
theorem d_M_give_137 : decode c_M_give 137 = .ok (.iastore, 1) := by decide +kernel
theorem d_M_give_138 : decode c_M_give 138 = .ok (.aload_n 0, 1) := by decide +kernel
theorem d_M_give_139 : decode c_M_give 139 = .ok (.getfield 22, 3) := by decide +kernel
theorem d_M_give_142 : decode c_M_give 142 = .ok (.iload_n 2, 1) := by decide +kernel
theorem d_M_give_143 : decode c_M_give 143 = .ok (.aload_n 0, 1) := by decide +kernel
theorem d_M_give_144 : decode c_M_give 144 = .ok (.getfield 22, 3) := by decide +kernel
theorem d_M_give_147 : decode c_M_give 147 = .ok (.aload_n 0, 1) := by decide +kernel
theorem d_M_give_148 : decode c_M_give 148 = .ok (.getfield 40, 3) := by decide +kernel
theorem d_M_give_151 : decode c_M_give 151 = .ok (.iaload, 1) := by decide +kernel
theorem d_M_give_152 : decode c_M_give 152 = .ok (.iastore, 1) := by decide +kernel
theorem d_M_give_153 : decode c_M_give 153 = .ok (.goto (-129), 3) := by decide +kernel
theorem d_M_give_156 : decode c_M_give 156 = .ok (.return_, 1) := by decide +kernel
theorem d_M_kept_0 : decode c_M_kept 0 = .ok (.iconst 0, 1) := by decide +kernel
theorem d_M_kept_1 : decode c_M_kept 1 = .ok (.istore_n 1, 1) := by decide +kernel
theorem d_M_kept_2 : decode c_M_kept 2 = .ok (.iconst 0, 1) := by decide +kernel
theorem d_M_kept_3 : decode c_M_kept 3 = .ok (.istore_n 2, 1) := by decide +kernel
theorem d_M_kept_4 : decode c_M_kept 4 = .ok (.iload_n 2, 1) := by decide +kernel
theorem d_M_kept_5 : decode c_M_kept 5 = .ok (.aload_n 0, 1) := by decide +kernel
theorem d_M_kept_6 : decode c_M_kept 6 = .ok (.getfield 40, 3) := by decide +kernel
theorem d_M_kept_9 : decode c_M_kept 9 = .ok (.if_icmp .ge 28, 3) := by decide +kernel
theorem d_M_kept_12 : decode c_M_kept 12 = .ok (.aload_n 0, 1) := by decide +kernel
theorem d_M_kept_13 : decode c_M_kept 13 = .ok (.getfield 19, 3) := by decide +kernel
theorem d_M_kept_16 : decode c_M_kept 16 = .ok (.iload_n 2, 1) := by decide +kernel
theorem d_M_kept_17 : decode c_M_kept 17 = .ok (.iaload, 1) := by decide +kernel
theorem d_M_kept_18 : decode c_M_kept 18 = .ok (.iconst 2, 1) := by decide +kernel
theorem d_M_kept_19 : decode c_M_kept 19 = .ok (.if_icmp .ne 12, 3) := by decide +kernel
theorem d_M_kept_22 : decode c_M_kept 22 = .ok (.iload_n 1, 1) := by decide +kernel
theorem d_M_kept_23 : decode c_M_kept 23 = .ok (.aload_n 0, 1) := by decide +kernel
theorem d_M_kept_24 : decode c_M_kept 24 = .ok (.getfield 16, 3) := by decide +kernel
theorem d_M_kept_27 : decode c_M_kept 27 = .ok (.iload_n 2, 1) := by decide +kernel
theorem d_M_kept_28 : decode c_M_kept 28 = .ok (.iaload, 1) := by decide +kernel
theorem d_M_kept_29 : decode c_M_kept 29 = .ok (.iadd, 1) := by decide +kernel
theorem d_M_kept_30 : decode c_M_kept 30 = .ok (.istore_n 1, 1) := by decide +kernel
theorem d_M_kept_31 : decode c_M_kept 31 = .ok (.iinc 2 1, 3) := by decide +kernel
theorem d_M_kept_34 : decode c_M_kept 34 = .ok (.goto (-30), 3) := by decide +kernel
theorem d_M_kept_37 : decode c_M_kept 37 = .ok (.iload_n 1, 1) := by decide +kernel
theorem d_M_kept_38 : decode c_M_kept 38 = .ok (.ireturn, 1) := by decide +kernel
theorem d_M_again_0 : decode c_M_again 0 = .ok (.aload_n 0, 1) := by decide +kernel
theorem d_M_again_1 : decode c_M_again 1 = .ok (.iload_n 2, 1) := by decide +kernel
theorem d_M_again_2 : decode c_M_again 2 = .ok (.ifCond .lt 10, 3) := by decide +kernel
theorem d_M_again_5 : decode c_M_again 5 = .ok (.iload_n 2, 1) := by decide +kernel
theorem d_M_again_6 : decode c_M_again 6 = .ok (.sipush 2048, 3) := by decide +kernel
theorem d_M_again_9 : decode c_M_again 9 = .ok (.if_icmp .le 7, 3) := by decide +kernel
theorem d_M_again_12 : decode c_M_again 12 = .ok (.iconst 1, 1) := by decide +kernel
theorem d_M_again_13 : decode c_M_again 13 = .ok (.goto 4, 3) := by decide +kernel
theorem d_M_again_16 : decode c_M_again 16 = .ok (.iconst 0, 1) := by decide +kernel
theorem d_M_again_17 : decode c_M_again 17 = .ok (.iconst 1, 1) := by decide +kernel
theorem d_M_again_18 : decode c_M_again 18 = .ok (.invokevirtual 56, 3) := by decide +kernel
theorem d_M_again_21 : decode c_M_again 21 = .ok (.ifCond .eq 5, 3) := by decide +kernel
theorem d_M_again_24 : decode c_M_again 24 = .ok (.iconst 0, 1) := by decide +kernel
theorem d_M_again_25 : decode c_M_again 25 = .ok (.ireturn, 1) := by decide +kernel
theorem d_M_again_26 : decode c_M_again 26 = .ok (.aload_n 0, 1) := by decide +kernel
theorem d_M_again_27 : decode c_M_again 27 = .ok (.iload_n 1, 1) := by decide +kernel
theorem d_M_again_28 : decode c_M_again 28 = .ok (.iconst 1, 1) := by decide +kernel
theorem d_M_again_29 : decode c_M_again 29 = .ok (.invokevirtual 63, 3) := by decide +kernel
theorem d_M_again_32 : decode c_M_again 32 = .ok (.istore_n 3, 1) := by decide +kernel
theorem d_M_again_33 : decode c_M_again 33 = .ok (.aload_n 0, 1) := by decide +kernel
theorem d_M_again_34 : decode c_M_again 34 = .ok (.iload_n 3, 1) := by decide +kernel
theorem d_M_again_35 : decode c_M_again 35 = .ok (.ifCond .ge 7, 3) := by decide +kernel
theorem d_M_again_38 : decode c_M_again 38 = .ok (.iconst 1, 1) := by decide +kernel
theorem d_M_again_39 : decode c_M_again 39 = .ok (.goto 4, 3) := by decide +kernel
theorem d_M_again_42 : decode c_M_again 42 = .ok (.iconst 0, 1) := by decide +kernel
theorem d_M_again_43 : decode c_M_again 43 = .ok (.aload_n 0, 1) := by decide +kernel
theorem d_M_again_44 : decode c_M_again 44 = .ok (.iload_n 1, 1) := by decide +kernel
theorem d_M_again_45 : decode c_M_again 45 = .ok (.iconst 2, 1) := by decide +kernel
theorem d_M_again_46 : decode c_M_again 46 = .ok (.invokevirtual 63, 3) := by decide +kernel
theorem d_M_again_49 : decode c_M_again 49 = .ok (.ifCond .lt 7, 3) := by decide +kernel
theorem d_M_again_52 : decode c_M_again 52 = .ok (.iconst 2, 1) := by decide +kernel
theorem d_M_again_53 : decode c_M_again 53 = .ok (.goto 4, 3) := by decide +kernel
theorem d_M_again_56 : decode c_M_again 56 = .ok (.iconst 1, 1) := by decide +kernel
theorem d_M_again_57 : decode c_M_again 57 = .ok (.invokevirtual 56, 3) := by decide +kernel
theorem d_M_again_60 : decode c_M_again 60 = .ok (.ifCond .eq 5, 3) := by decide +kernel
theorem d_M_again_63 : decode c_M_again 63 = .ok (.iconst 0, 1) := by decide +kernel
theorem d_M_again_64 : decode c_M_again 64 = .ok (.ireturn, 1) := by decide +kernel
theorem d_M_again_65 : decode c_M_again 65 = .ok (.aload_n 0, 1) := by decide +kernel
theorem d_M_again_66 : decode c_M_again 66 = .ok (.iload_n 2, 1) := by decide +kernel
theorem d_M_again_67 : decode c_M_again 67 = .ok (.invokevirtual 60, 3) := by decide +kernel
theorem d_M_again_70 : decode c_M_again 70 = .ok (.istore 4, 2) := by decide +kernel
theorem d_M_again_72 : decode c_M_again 72 = .ok (.iload 4, 2) := by decide +kernel
theorem d_M_again_74 : decode c_M_again 74 = .ok (.ifCond .ne 5, 3) := by decide +kernel
theorem d_M_again_77 : decode c_M_again 77 = .ok (.iconst 0, 1) := by decide +kernel
theorem d_M_again_78 : decode c_M_again 78 = .ok (.ireturn, 1) := by decide +kernel
theorem d_M_again_79 : decode c_M_again 79 = .ok (.iconst 0, 1) := by decide +kernel
theorem d_M_again_80 : decode c_M_again 80 = .ok (.istore 5, 2) := by decide +kernel
theorem d_M_again_82 : decode c_M_again 82 = .ok (.iload 5, 2) := by decide +kernel
theorem d_M_again_84 : decode c_M_again 84 = .ok (.iload_n 2, 1) := by decide +kernel
theorem d_M_again_85 : decode c_M_again 85 = .ok (.if_icmp .ge 39, 3) := by decide +kernel
theorem d_M_again_88 : decode c_M_again 88 = .ok (.iload 5, 2) := by decide +kernel
theorem d_M_again_90 : decode c_M_again 90 = .ok (.aload_n 0, 1) := by decide +kernel
theorem d_M_again_91 : decode c_M_again 91 = .ok (.getfield 16, 3) := by decide +kernel
theorem d_M_again_94 : decode c_M_again 94 = .ok (.iload_n 3, 1) := by decide +kernel
theorem d_M_again_95 : decode c_M_again 95 = .ok (.iaload, 1) := by decide +kernel
theorem d_M_again_96 : decode c_M_again 96 = .ok (.if_icmp .ge 28, 3) := by decide +kernel
theorem d_M_again_99 : decode c_M_again 99 = .ok (.aload_n 0, 1) := by decide +kernel
theorem d_M_again_100 : decode c_M_again 100 = .ok (.getfield 7, 3) := by decide +kernel
theorem d_M_again_103 : decode c_M_again 103 = .ok (.iload 4, 2) := by decide +kernel
theorem d_M_again_105 : decode c_M_again 105 = .ok (.iload 5, 2) := by decide +kernel
theorem d_M_again_107 : decode c_M_again 107 = .ok (.iadd, 1) := by decide +kernel
theorem d_M_again_108 : decode c_M_again 108 = .ok (.aload_n 0, 1) := by decide +kernel
theorem d_M_again_109 : decode c_M_again 109 = .ok (.getfield 7, 3) := by decide +kernel
theorem d_M_again_112 : decode c_M_again 112 = .ok (.iload_n 1, 1) := by decide +kernel
theorem d_M_again_113 : decode c_M_again 113 = .ok (.iload 5, 2) := by decide +kernel
theorem d_M_again_115 : decode c_M_again 115 = .ok (.iadd, 1) := by decide +kernel
theorem d_M_again_116 : decode c_M_again 116 = .ok (.iaload, 1) := by decide +kernel
theorem d_M_again_117 : decode c_M_again 117 = .ok (.iastore, 1) := by decide +kernel
theorem d_M_again_118 : decode c_M_again 118 = .ok (.iinc 5 1, 3) := by decide +kernel
theorem d_M_again_121 : decode c_M_again 121 = .ok (.goto (-39), 3) := by decide +kernel
theorem d_M_again_124 : decode c_M_again 124 = .ok (.aload_n 0, 1) := by decide +kernel
theorem d_M_again_125 : decode c_M_again 125 = .ok (.iload_n 3, 1) := by decide +kernel
theorem d_M_again_126 : decode c_M_again 126 = .ok (.invokevirtual 67, 3) := by decide +kernel
theorem d_M_again_129 : decode c_M_again 129 = .ok (.iload 4, 2) := by decide +kernel
theorem d_M_again_131 : decode c_M_again 131 = .ok (.ireturn, 1) := by decide +kernel
theorem d_M_kind_0 : decode c_M_kind 0 = .ok (.aload_n 0, 1) := by decide +kernel
theorem d_M_kind_1 : decode c_M_kind 1 = .ok (.iload_n 1, 1) := by decide +kernel
theorem d_M_kind_2 : decode c_M_kind 2 = .ok (.ifCond .lt 10, 3) := by decide +kernel
theorem d_M_kind_5 : decode c_M_kind 5 = .ok (.iload_n 1, 1) := by decide +kernel
theorem d_M_kind_6 : decode c_M_kind 6 = .ok (.sipush 8192, 3) := by decide +kernel
theorem d_M_kind_9 : decode c_M_kind 9 = .ok (.if_icmp .lt 7, 3) := by decide +kernel
theorem d_M_kind_12 : decode c_M_kind 12 = .ok (.iconst 1, 1) := by decide +kernel
theorem d_M_kind_13 : decode c_M_kind 13 = .ok (.goto 4, 3) := by decide +kernel
theorem d_M_kind_16 : decode c_M_kind 16 = .ok (.iconst 0, 1) := by decide +kernel
theorem d_M_kind_17 : decode c_M_kind 17 = .ok (.iconst 1, 1) := by decide +kernel
theorem d_M_kind_18 : decode c_M_kind 18 = .ok (.invokevirtual 56, 3) := by decide +kernel
theorem d_M_kind_21 : decode c_M_kind 21 = .ok (.ifCond .eq 5, 3) := by decide +kernel
theorem d_M_kind_24 : decode c_M_kind 24 = .ok (.iconst 0, 1) := by decide +kernel
theorem d_M_kind_25 : decode c_M_kind 25 = .ok (.ireturn, 1) := by decide +kernel
theorem d_M_kind_26 : decode c_M_kind 26 = .ok (.aload_n 0, 1) := by decide +kernel
theorem d_M_kind_27 : decode c_M_kind 27 = .ok (.iload_n 1, 1) := by decide +kernel
theorem d_M_kind_28 : decode c_M_kind 28 = .ok (.iconst 1, 1) := by decide +kernel
theorem d_M_kind_29 : decode c_M_kind 29 = .ok (.invokevirtual 71, 3) := by decide +kernel
theorem d_M_kind_32 : decode c_M_kind 32 = .ok (.ifCond .lt 5, 3) := by decide +kernel
theorem d_M_kind_35 : decode c_M_kind 35 = .ok (.iconst 1, 1) := by decide +kernel
theorem d_M_kind_36 : decode c_M_kind 36 = .ok (.ireturn, 1) := by decide +kernel
theorem d_M_kind_37 : decode c_M_kind 37 = .ok (.aload_n 0, 1) := by decide +kernel
theorem d_M_kind_38 : decode c_M_kind 38 = .ok (.iload_n 1, 1) := by decide +kernel
theorem d_M_kind_39 : decode c_M_kind 39 = .ok (.iconst 2, 1) := by decide +kernel
theorem d_M_kind_40 : decode c_M_kind 40 = .ok (.invokevirtual 71, 3) := by decide +kernel
theorem d_M_kind_43 : decode c_M_kind 43 = .ok (.ifCond .lt 5, 3) := by decide +kernel
theorem d_M_kind_46 : decode c_M_kind 46 = .ok (.iconst 2, 1) := by decide +kernel
theorem d_M_kind_47 : decode c_M_kind 47 = .ok (.ireturn, 1) := by decide +kernel
theorem d_M_kind_48 : decode c_M_kind 48 = .ok (.iconst 0, 1) := by decide +kernel
theorem d_M_kind_49 : decode c_M_kind 49 = .ok (.istore_n 2, 1) := by decide +kernel
theorem d_M_kind_50 : decode c_M_kind 50 = .ok (.iload_n 2, 1) := by decide +kernel
theorem d_M_kind_51 : decode c_M_kind 51 = .ok (.aload_n 0, 1) := by decide +kernel
theorem d_M_kind_52 : decode c_M_kind 52 = .ok (.getfield 40, 3) := by decide +kernel
theorem d_M_kind_55 : decode c_M_kind 55 = .ok (.if_icmp .ge 47, 3) := by decide +kernel
theorem d_M_kind_58 : decode c_M_kind 58 = .ok (.iload_n 1, 1) := by decide +kernel
theorem d_M_kind_59 : decode c_M_kind 59 = .ok (.aload_n 0, 1) := by decide +kernel
theorem d_M_kind_60 : decode c_M_kind 60 = .ok (.getfield 13, 3) := by decide +kernel
theorem d_M_kind_63 : decode c_M_kind 63 = .ok (.iload_n 2, 1) := by decide +kernel
theorem d_M_kind_64 : decode c_M_kind 64 = .ok (.iaload, 1) := by decide +kernel
theorem d_M_kind_65 : decode c_M_kind 65 = .ok (.bipush 16, 2) := by decide +kernel
theorem d_M_kind_67 : decode c_M_kind 67 = .ok (.isub, 1) := by decide +kernel
theorem d_M_kind_68 : decode c_M_kind 68 = .ok (.if_icmp .lt 28, 3) := by decide +kernel
theorem d_M_kind_71 : decode c_M_kind 71 = .ok (.iload_n 1, 1) := by decide +kernel
theorem d_M_kind_72 : decode c_M_kind 72 = .ok (.aload_n 0, 1) := by decide +kernel
theorem d_M_kind_73 : decode c_M_kind 73 = .ok (.getfield 13, 3) := by decide +kernel
theorem d_M_kind_76 : decode c_M_kind 76 = .ok (.iload_n 2, 1) := by decide +kernel
theorem d_M_kind_77 : decode c_M_kind 77 = .ok (.iaload, 1) := by decide +kernel
theorem d_M_kind_78 : decode c_M_kind 78 = .ok (.aload_n 0, 1) := by decide +kernel
theorem d_M_kind_79 : decode c_M_kind 79 = .ok (.getfield 16, 3) := by decide +kernel
theorem d_M_kind_82 : decode c_M_kind 82 = .ok (.iload_n 2, 1) := by decide +kernel
theorem d_M_kind_83 : decode c_M_kind 83 = .ok (.iaload, 1) := by decide +kernel
theorem d_M_kind_84 : decode c_M_kind 84 = .ok (.invokestatic 36, 3) := by decide +kernel
theorem d_M_kind_87 : decode c_M_kind 87 = .ok (.iadd, 1) := by decide +kernel
theorem d_M_kind_88 : decode c_M_kind 88 = .ok (.bipush 16, 2) := by decide +kernel
theorem d_M_kind_90 : decode c_M_kind 90 = .ok (.iadd, 1) := by decide +kernel
theorem d_M_kind_91 : decode c_M_kind 91 = .ok (.if_icmp .ge 5, 3) := by decide +kernel
theorem d_M_kind_94 : decode c_M_kind 94 = .ok (.iconst 3, 1) := by decide +kernel
theorem d_M_kind_95 : decode c_M_kind 95 = .ok (.ireturn, 1) := by decide +kernel
theorem d_M_kind_96 : decode c_M_kind 96 = .ok (.iinc 2 1, 3) := by decide +kernel
theorem d_M_kind_99 : decode c_M_kind 99 = .ok (.goto (-49), 3) := by decide +kernel
theorem d_M_kind_102 : decode c_M_kind 102 = .ok (.iconst 0, 1) := by decide +kernel
theorem d_M_kind_103 : decode c_M_kind 103 = .ok (.ireturn, 1) := by decide +kernel
theorem d_M_of_0 : decode c_M_of 0 = .ok (.iconst 0, 1) := by decide +kernel
theorem d_M_of_1 : decode c_M_of 1 = .ok (.istore_n 3, 1) := by decide +kernel
theorem d_M_of_2 : decode c_M_of 2 = .ok (.iload_n 3, 1) := by decide +kernel
theorem d_M_of_3 : decode c_M_of 3 = .ok (.aload_n 0, 1) := by decide +kernel
theorem d_M_of_4 : decode c_M_of 4 = .ok (.getfield 40, 3) := by decide +kernel
theorem d_M_of_7 : decode c_M_of 7 = .ok (.if_icmp .ge 48, 3) := by decide +kernel
theorem d_M_of_10 : decode c_M_of 10 = .ok (.aload_n 0, 1) := by decide +kernel
theorem d_M_of_11 : decode c_M_of 11 = .ok (.getfield 19, 3) := by decide +kernel
theorem d_M_of_14 : decode c_M_of 14 = .ok (.iload_n 3, 1) := by decide +kernel
theorem d_M_of_15 : decode c_M_of 15 = .ok (.iaload, 1) := by decide +kernel
theorem d_M_of_16 : decode c_M_of 16 = .ok (.iload_n 2, 1) := by decide +kernel
theorem d_M_of_17 : decode c_M_of 17 = .ok (.if_icmp .ne 32, 3) := by decide +kernel
theorem d_M_of_20 : decode c_M_of 20 = .ok (.iload_n 1, 1) := by decide +kernel
theorem d_M_of_21 : decode c_M_of 21 = .ok (.aload_n 0, 1) := by decide +kernel
theorem d_M_of_22 : decode c_M_of 22 = .ok (.getfield 13, 3) := by decide +kernel
theorem d_M_of_25 : decode c_M_of 25 = .ok (.iload_n 3, 1) := by decide +kernel
theorem d_M_of_26 : decode c_M_of 26 = .ok (.iaload, 1) := by decide +kernel
theorem d_M_of_27 : decode c_M_of 27 = .ok (.if_icmp .lt 22, 3) := by decide +kernel
theorem d_M_of_30 : decode c_M_of 30 = .ok (.iload_n 1, 1) := by decide +kernel
theorem d_M_of_31 : decode c_M_of 31 = .ok (.aload_n 0, 1) := by decide +kernel
theorem d_M_of_32 : decode c_M_of 32 = .ok (.getfield 13, 3) := by decide +kernel
theorem d_M_of_35 : decode c_M_of 35 = .ok (.iload_n 3, 1) := by decide +kernel
theorem d_M_of_36 : decode c_M_of 36 = .ok (.iaload, 1) := by decide +kernel
theorem d_M_of_37 : decode c_M_of 37 = .ok (.aload_n 0, 1) := by decide +kernel
theorem d_M_of_38 : decode c_M_of 38 = .ok (.getfield 16, 3) := by decide +kernel
theorem d_M_of_41 : decode c_M_of 41 = .ok (.iload_n 3, 1) := by decide +kernel
theorem d_M_of_42 : decode c_M_of 42 = .ok (.iaload, 1) := by decide +kernel
theorem d_M_of_43 : decode c_M_of 43 = .ok (.iadd, 1) := by decide +kernel
theorem d_M_of_44 : decode c_M_of 44 = .ok (.if_icmp .ge 5, 3) := by decide +kernel
theorem d_M_of_47 : decode c_M_of 47 = .ok (.iload_n 3, 1) := by decide +kernel
theorem d_M_of_48 : decode c_M_of 48 = .ok (.ireturn, 1) := by decide +kernel
theorem d_M_of_49 : decode c_M_of 49 = .ok (.iinc 3 1, 3) := by decide +kernel
theorem d_M_of_52 : decode c_M_of 52 = .ok (.goto (-50), 3) := by decide +kernel
theorem d_M_of_55 : decode c_M_of 55 = .ok (.iconst (-1), 1) := by decide +kernel
theorem d_M_of_56 : decode c_M_of 56 = .ok (.ireturn, 1) := by decide +kernel
theorem d_M_block_0 : decode c_M_block 0 = .ok (.aload_n 0, 1) := by decide +kernel
theorem d_M_block_1 : decode c_M_block 1 = .ok (.iload_n 1, 1) := by decide +kernel
theorem d_M_block_2 : decode c_M_block 2 = .ok (.ifCond .lt 10, 3) := by decide +kernel
theorem d_M_block_5 : decode c_M_block 5 = .ok (.iload_n 1, 1) := by decide +kernel
theorem d_M_block_6 : decode c_M_block 6 = .ok (.sipush 8192, 3) := by decide +kernel
theorem d_M_block_9 : decode c_M_block 9 = .ok (.if_icmp .lt 7, 3) := by decide +kernel
theorem d_M_block_12 : decode c_M_block 12 = .ok (.iconst 1, 1) := by decide +kernel
theorem d_M_block_13 : decode c_M_block 13 = .ok (.goto 4, 3) := by decide +kernel
theorem d_M_block_16 : decode c_M_block 16 = .ok (.iconst 0, 1) := by decide +kernel
theorem d_M_block_17 : decode c_M_block 17 = .ok (.iconst 1, 1) := by decide +kernel
theorem d_M_block_18 : decode c_M_block 18 = .ok (.invokevirtual 56, 3) := by decide +kernel
theorem d_M_block_21 : decode c_M_block 21 = .ok (.ifCond .eq 5, 3) := by decide +kernel
theorem d_M_block_24 : decode c_M_block 24 = .ok (.iconst 0, 1) := by decide +kernel
theorem d_M_block_25 : decode c_M_block 25 = .ok (.ireturn, 1) := by decide +kernel
theorem d_M_block_26 : decode c_M_block 26 = .ok (.aload_n 0, 1) := by decide +kernel
theorem d_M_block_27 : decode c_M_block 27 = .ok (.iload_n 1, 1) := by decide +kernel
theorem d_M_block_28 : decode c_M_block 28 = .ok (.iconst 1, 1) := by decide +kernel
theorem d_M_block_29 : decode c_M_block 29 = .ok (.invokevirtual 71, 3) := by decide +kernel
theorem d_M_block_32 : decode c_M_block 32 = .ok (.istore_n 2, 1) := by decide +kernel
theorem d_M_block_33 : decode c_M_block 33 = .ok (.iload_n 2, 1) := by decide +kernel
theorem d_M_block_34 : decode c_M_block 34 = .ok (.ifCond .ge 7, 3) := by decide +kernel
theorem d_M_block_37 : decode c_M_block 37 = .ok (.iconst (-1), 1) := by decide +kernel
theorem d_M_block_38 : decode c_M_block 38 = .ok (.goto 9, 3) := by decide +kernel
theorem d_M_block_41 : decode c_M_block 41 = .ok (.aload_n 0, 1) := by decide +kernel
theorem d_M_block_42 : decode c_M_block 42 = .ok (.getfield 13, 3) := by decide +kernel
theorem d_M_block_45 : decode c_M_block 45 = .ok (.iload_n 2, 1) := by decide +kernel
theorem d_M_block_46 : decode c_M_block 46 = .ok (.iaload, 1) := by decide +kernel
theorem d_M_block_47 : decode c_M_block 47 = .ok (.ireturn, 1) := by decide +kernel
theorem d_M_write_0 : decode c_M_write 0 = .ok (.aload_n 0, 1) := by decide +kernel
theorem d_M_write_1 : decode c_M_write 1 = .ok (.iload_n 1, 1) := by decide +kernel
theorem d_M_write_2 : decode c_M_write 2 = .ok (.invokevirtual 74, 3) := by decide +kernel
theorem d_M_write_5 : decode c_M_write 5 = .ok (.ifCond .eq 4, 3) := by decide +kernel
theorem d_M_write_8 : decode c_M_write 8 = .ok (.return_, 1) := by decide +kernel
theorem d_M_write_9 : decode c_M_write 9 = .ok (.iconst 0, 1) := by decide +kernel
theorem d_M_write_10 : decode c_M_write 10 = .ok (.istore_n 3, 1) := by decide +kernel
theorem d_M_write_11 : decode c_M_write 11 = .ok (.iload_n 3, 1) := by decide +kernel
theorem d_M_write_12 : decode c_M_write 12 = .ok (.iconst 4, 1) := by decide +kernel
theorem d_M_write_13 : decode c_M_write 13 = .ok (.if_icmp .ge 27, 3) := by decide +kernel
theorem d_M_write_16 : decode c_M_write 16 = .ok (.aload_n 0, 1) := by decide +kernel
theorem d_M_write_17 : decode c_M_write 17 = .ok (.getfield 7, 3) := by decide +kernel
theorem d_M_write_20 : decode c_M_write 20 = .ok (.iload_n 1, 1) := by decide +kernel
theorem d_M_write_21 : decode c_M_write 21 = .ok (.iload_n 3, 1) := by decide +kernel
theorem d_M_write_22 : decode c_M_write 22 = .ok (.iadd, 1) := by decide +kernel
theorem d_M_write_23 : decode c_M_write 23 = .ok (.iload_n 2, 1) := by decide +kernel
theorem d_M_write_24 : decode c_M_write 24 = .ok (.bipush 8, 2) := by decide +kernel
theorem d_M_write_26 : decode c_M_write 26 = .ok (.iload_n 3, 1) := by decide +kernel
theorem d_M_write_27 : decode c_M_write 27 = .ok (.imul, 1) := by decide +kernel
theorem d_M_write_28 : decode c_M_write 28 = .ok (.ishr, 1) := by decide +kernel
theorem d_M_write_29 : decode c_M_write 29 = .ok (.sipush 255, 3) := by decide +kernel
theorem d_M_write_32 : decode c_M_write 32 = .ok (.iand, 1) := by decide +kernel
theorem d_M_write_33 : decode c_M_write 33 = .ok (.iastore, 1) := by decide +kernel
theorem d_M_write_34 : decode c_M_write 34 = .ok (.iinc 3 1, 3) := by decide +kernel
theorem d_M_write_37 : decode c_M_write 37 = .ok (.goto (-26), 3) := by decide +kernel
theorem d_M_write_40 : decode c_M_write 40 = .ok (.return_, 1) := by decide +kernel
theorem d_M_bad_0 : decode c_M_bad 0 = .ok (.aload_n 0, 1) := by decide +kernel
theorem d_M_bad_1 : decode c_M_bad 1 = .ok (.iload_n 1, 1) := by decide +kernel
theorem d_M_bad_2 : decode c_M_bad 2 = .ok (.ifCond .lt 10, 3) := by decide +kernel
theorem d_M_bad_5 : decode c_M_bad 5 = .ok (.iload_n 1, 1) := by decide +kernel
theorem d_M_bad_6 : decode c_M_bad 6 = .ok (.sipush 8188, 3) := by decide +kernel
theorem d_M_bad_9 : decode c_M_bad 9 = .ok (.if_icmp .le 7, 3) := by decide +kernel
theorem d_M_bad_12 : decode c_M_bad 12 = .ok (.iconst 1, 1) := by decide +kernel
theorem d_M_bad_13 : decode c_M_bad 13 = .ok (.goto 4, 3) := by decide +kernel
theorem d_M_bad_16 : decode c_M_bad 16 = .ok (.iconst 0, 1) := by decide +kernel
theorem d_M_bad_17 : decode c_M_bad 17 = .ok (.iconst 1, 1) := by decide +kernel
theorem d_M_bad_18 : decode c_M_bad 18 = .ok (.invokevirtual 56, 3) := by decide +kernel
theorem d_M_bad_21 : decode c_M_bad 21 = .ok (.ifCond .eq 5, 3) := by decide +kernel
theorem d_M_bad_24 : decode c_M_bad 24 = .ok (.iconst 1, 1) := by decide +kernel
theorem d_M_bad_25 : decode c_M_bad 25 = .ok (.ireturn, 1) := by decide +kernel
theorem d_M_bad_26 : decode c_M_bad 26 = .ok (.iconst 0, 1) := by decide +kernel
theorem d_M_bad_27 : decode c_M_bad 27 = .ok (.istore_n 2, 1) := by decide +kernel
theorem d_M_bad_28 : decode c_M_bad 28 = .ok (.iload_n 2, 1) := by decide +kernel
theorem d_M_bad_29 : decode c_M_bad 29 = .ok (.iconst 4, 1) := by decide +kernel
theorem d_M_bad_30 : decode c_M_bad 30 = .ok (.if_icmp .ge 35, 3) := by decide +kernel
theorem d_M_bad_33 : decode c_M_bad 33 = .ok (.aload_n 0, 1) := by decide +kernel
theorem d_M_bad_34 : decode c_M_bad 34 = .ok (.aload_n 0, 1) := by decide +kernel
theorem d_M_bad_35 : decode c_M_bad 35 = .ok (.iload_n 1, 1) := by decide +kernel
theorem d_M_bad_36 : decode c_M_bad 36 = .ok (.iload_n 2, 1) := by decide +kernel
theorem d_M_bad_37 : decode c_M_bad 37 = .ok (.iadd, 1) := by decide +kernel
theorem d_M_bad_38 : decode c_M_bad 38 = .ok (.iconst 1, 1) := by decide +kernel
theorem d_M_bad_39 : decode c_M_bad 39 = .ok (.invokevirtual 71, 3) := by decide +kernel
theorem d_M_bad_42 : decode c_M_bad 42 = .ok (.ifCond .ge 7, 3) := by decide +kernel
theorem d_M_bad_45 : decode c_M_bad 45 = .ok (.iconst 1, 1) := by decide +kernel
theorem d_M_bad_46 : decode c_M_bad 46 = .ok (.goto 4, 3) := by decide +kernel
theorem d_M_bad_49 : decode c_M_bad 49 = .ok (.iconst 0, 1) := by decide +kernel
theorem d_M_bad_50 : decode c_M_bad 50 = .ok (.iconst 2, 1) := by decide +kernel
theorem d_M_bad_51 : decode c_M_bad 51 = .ok (.invokevirtual 56, 3) := by decide +kernel
theorem d_M_bad_54 : decode c_M_bad 54 = .ok (.ifCond .eq 5, 3) := by decide +kernel
theorem d_M_bad_57 : decode c_M_bad 57 = .ok (.iconst 1, 1) := by decide +kernel
theorem d_M_bad_58 : decode c_M_bad 58 = .ok (.ireturn, 1) := by decide +kernel
theorem d_M_bad_59 : decode c_M_bad 59 = .ok (.iinc 2 1, 3) := by decide +kernel
theorem d_M_bad_62 : decode c_M_bad 62 = .ok (.goto (-34), 3) := by decide +kernel
theorem d_M_bad_65 : decode c_M_bad 65 = .ok (.iconst 0, 1) := by decide +kernel
theorem d_M_bad_66 : decode c_M_bad 66 = .ok (.ireturn, 1) := by decide +kernel
theorem d_M_read_0 : decode c_M_read 0 = .ok (.aload_n 0, 1) := by decide +kernel
theorem d_M_read_1 : decode c_M_read 1 = .ok (.iload_n 1, 1) := by decide +kernel
theorem d_M_read_2 : decode c_M_read 2 = .ok (.invokevirtual 74, 3) := by decide +kernel
theorem d_M_read_5 : decode c_M_read 5 = .ok (.ifCond .eq 7, 3) := by decide +kernel
theorem d_M_read_8 : decode c_M_read 8 = .ok (.iconst 0, 1) := by decide +kernel
theorem d_M_read_9 : decode c_M_read 9 = .ok (.goto 8, 3) := by decide +kernel
theorem d_M_read_12 : decode c_M_read 12 = .ok (.aload_n 0, 1) := by decide +kernel
theorem d_M_read_13 : decode c_M_read 13 = .ok (.iload_n 1, 1) := by decide +kernel
theorem d_M_read_14 : decode c_M_read 14 = .ok (.invokevirtual 78, 3) := by decide +kernel
theorem d_M_read_17 : decode c_M_read 17 = .ok (.ireturn, 1) := by decide +kernel
theorem d_M_word_0 : decode c_M_word 0 = .ok (.aload_n 0, 1) := by decide +kernel
theorem d_M_word_1 : decode c_M_word 1 = .ok (.getfield 7, 3) := by decide +kernel
theorem d_M_word_4 : decode c_M_word 4 = .ok (.iload_n 1, 1) := by decide +kernel
theorem d_M_word_5 : decode c_M_word 5 = .ok (.iaload, 1) := by decide +kernel
theorem d_M_word_6 : decode c_M_word 6 = .ok (.aload_n 0, 1) := by decide +kernel
theorem d_M_word_7 : decode c_M_word 7 = .ok (.getfield 7, 3) := by decide +kernel
theorem d_M_word_10 : decode c_M_word 10 = .ok (.iload_n 1, 1) := by decide +kernel
theorem d_M_word_11 : decode c_M_word 11 = .ok (.iconst 1, 1) := by decide +kernel
theorem d_M_word_12 : decode c_M_word 12 = .ok (.iadd, 1) := by decide +kernel
theorem d_M_word_13 : decode c_M_word 13 = .ok (.iaload, 1) := by decide +kernel
theorem d_M_word_14 : decode c_M_word 14 = .ok (.bipush 8, 2) := by decide +kernel
theorem d_M_word_16 : decode c_M_word 16 = .ok (.ishl, 1) := by decide +kernel
theorem d_M_word_17 : decode c_M_word 17 = .ok (.ior, 1) := by decide +kernel
theorem d_M_word_18 : decode c_M_word 18 = .ok (.aload_n 0, 1) := by decide +kernel
theorem d_M_word_19 : decode c_M_word 19 = .ok (.getfield 7, 3) := by decide +kernel
theorem d_M_word_22 : decode c_M_word 22 = .ok (.iload_n 1, 1) := by decide +kernel
theorem d_M_word_23 : decode c_M_word 23 = .ok (.iconst 2, 1) := by decide +kernel
theorem d_M_word_24 : decode c_M_word 24 = .ok (.iadd, 1) := by decide +kernel
theorem d_M_word_25 : decode c_M_word 25 = .ok (.iaload, 1) := by decide +kernel
theorem d_M_word_26 : decode c_M_word 26 = .ok (.bipush 16, 2) := by decide +kernel
theorem d_M_word_28 : decode c_M_word 28 = .ok (.ishl, 1) := by decide +kernel
theorem d_M_word_29 : decode c_M_word 29 = .ok (.ior, 1) := by decide +kernel
theorem d_M_word_30 : decode c_M_word 30 = .ok (.aload_n 0, 1) := by decide +kernel
theorem d_M_word_31 : decode c_M_word 31 = .ok (.getfield 7, 3) := by decide +kernel
theorem d_M_word_34 : decode c_M_word 34 = .ok (.iload_n 1, 1) := by decide +kernel
theorem d_M_word_35 : decode c_M_word 35 = .ok (.iconst 3, 1) := by decide +kernel
theorem d_M_word_36 : decode c_M_word 36 = .ok (.iadd, 1) := by decide +kernel
theorem d_M_word_37 : decode c_M_word 37 = .ok (.iaload, 1) := by decide +kernel
theorem d_M_word_38 : decode c_M_word 38 = .ok (.bipush 24, 2) := by decide +kernel
theorem d_M_word_40 : decode c_M_word 40 = .ok (.ishl, 1) := by decide +kernel
theorem d_M_word_41 : decode c_M_word 41 = .ok (.ior, 1) := by decide +kernel
theorem d_M_word_42 : decode c_M_word 42 = .ok (.ireturn, 1) := by decide +kernel
theorem d_M_lost_0 : decode c_M_lost 0 = .ok (.aload_n 0, 1) := by decide +kernel
theorem d_M_lost_1 : decode c_M_lost 1 = .ok (.iconst 0, 1) := by decide +kernel
theorem d_M_lost_2 : decode c_M_lost 2 = .ok (.putfield 32, 3) := by decide +kernel
theorem d_M_lost_5 : decode c_M_lost 5 = .ok (.iconst 0, 1) := by decide +kernel
theorem d_M_lost_6 : decode c_M_lost 6 = .ok (.istore_n 3, 1) := by decide +kernel
theorem d_M_lost_7 : decode c_M_lost 7 = .ok (.iload_n 3, 1) := by decide +kernel
theorem d_M_lost_8 : decode c_M_lost 8 = .ok (.aload_n 0, 1) := by decide +kernel
theorem d_M_lost_9 : decode c_M_lost 9 = .ok (.getfield 40, 3) := by decide +kernel
theorem d_M_lost_12 : decode c_M_lost 12 = .ok (.if_icmp .ge 16, 3) := by decide +kernel
theorem d_M_lost_15 : decode c_M_lost 15 = .ok (.aload_n 0, 1) := by decide +kernel
theorem d_M_lost_16 : decode c_M_lost 16 = .ok (.getfield 25, 3) := by decide +kernel
theorem d_M_lost_19 : decode c_M_lost 19 = .ok (.iload_n 3, 1) := by decide +kernel
theorem d_M_lost_20 : decode c_M_lost 20 = .ok (.iconst 0, 1) := by decide +kernel
theorem d_M_lost_21 : decode c_M_lost 21 = .ok (.bastore, 1) := by decide +kernel
theorem d_M_lost_22 : decode c_M_lost 22 = .ok (.iinc 3 1, 3) := by decide +kernel
theorem d_M_lost_25 : decode c_M_lost 25 = .ok (.goto (-18), 3) := by decide +kernel
theorem d_M_lost_28 : decode c_M_lost 28 = .ok (.aload_n 0, 1) := by decide +kernel
theorem d_M_lost_29 : decode c_M_lost 29 = .ok (.iload_n 1, 1) := by decide +kernel
theorem d_M_lost_30 : decode c_M_lost 30 = .ok (.invokevirtual 84, 3) := by decide +kernel
theorem d_M_lost_33 : decode c_M_lost 33 = .ok (.aload_n 0, 1) := by decide +kernel
theorem d_M_lost_34 : decode c_M_lost 34 = .ok (.iload_n 2, 1) := by decide +kernel
theorem d_M_lost_35 : decode c_M_lost 35 = .ok (.invokevirtual 84, 3) := by decide +kernel
theorem d_M_lost_38 : decode c_M_lost 38 = .ok (.ior, 1) := by decide +kernel
theorem d_M_lost_39 : decode c_M_lost 39 = .ok (.istore_n 3, 1) := by decide +kernel
theorem d_M_lost_40 : decode c_M_lost 40 = .ok (.iload_n 3, 1) := by decide +kernel
theorem d_M_lost_41 : decode c_M_lost 41 = .ok (.ifCond .eq 80, 3) := by decide +kernel
theorem d_M_lost_44 : decode c_M_lost 44 = .ok (.iconst 0, 1) := by decide +kernel
theorem d_M_lost_45 : decode c_M_lost 45 = .ok (.istore_n 3, 1) := by decide +kernel
theorem d_M_lost_46 : decode c_M_lost 46 = .ok (.iconst 0, 1) := by decide +kernel
theorem d_M_lost_47 : decode c_M_lost 47 = .ok (.istore 4, 2) := by decide +kernel
theorem d_M_lost_49 : decode c_M_lost 49 = .ok (.iload 4, 2) := by decide +kernel
theorem d_M_lost_51 : decode c_M_lost 51 = .ok (.aload_n 0, 1) := by decide +kernel
theorem d_M_lost_52 : decode c_M_lost 52 = .ok (.getfield 40, 3) := by decide +kernel
theorem d_M_lost_55 : decode c_M_lost 55 = .ok (.if_icmp .ge 63, 3) := by decide +kernel
theorem d_M_lost_58 : decode c_M_lost 58 = .ok (.aload_n 0, 1) := by decide +kernel
theorem d_M_lost_59 : decode c_M_lost 59 = .ok (.getfield 25, 3) := by decide +kernel
theorem d_M_lost_62 : decode c_M_lost 62 = .ok (.iload 4, 2) := by decide +kernel
theorem d_M_lost_64 : decode c_M_lost 64 = .ok (.baload, 1) := by decide +kernel
theorem d_M_lost_65 : decode c_M_lost 65 = .ok (.ifCond .eq 47, 3) := by decide +kernel
theorem d_M_lost_68 : decode c_M_lost 68 = .ok (.iconst 0, 1) := by decide +kernel
theorem d_M_lost_69 : decode c_M_lost 69 = .ok (.istore 5, 2) := by decide +kernel
theorem d_M_lost_71 : decode c_M_lost 71 = .ok (.iload 5, 2) := by decide +kernel
theorem d_M_lost_73 : decode c_M_lost 73 = .ok (.iconst 4, 1) := by decide +kernel
theorem d_M_lost_74 : decode c_M_lost 74 = .ok (.iadd, 1) := by decide +kernel
theorem d_M_lost_75 : decode c_M_lost 75 = .ok (.aload_n 0, 1) := by decide +kernel
theorem d_M_lost_76 : decode c_M_lost 76 = .ok (.getfield 16, 3) := by decide +kernel
theorem d_M_lost_79 : decode c_M_lost 79 = .ok (.iload 4, 2) := by decide +kernel
theorem d_M_lost_81 : decode c_M_lost 81 = .ok (.iaload, 1) := by decide +kernel
theorem d_M_lost_82 : decode c_M_lost 82 = .ok (.if_icmp .gt 30, 3) := by decide +kernel
theorem d_M_lost_85 : decode c_M_lost 85 = .ok (.iload_n 3, 1) := by decide +kernel
theorem d_M_lost_86 : decode c_M_lost 86 = .ok (.aload_n 0, 1) := by decide +kernel
theorem d_M_lost_87 : decode c_M_lost 87 = .ok (.aload_n 0, 1) := by decide +kernel
theorem d_M_lost_88 : decode c_M_lost 88 = .ok (.aload_n 0, 1) := by decide +kernel
theorem d_M_lost_89 : decode c_M_lost 89 = .ok (.getfield 13, 3) := by decide +kernel
theorem d_M_lost_92 : decode c_M_lost 92 = .ok (.iload 4, 2) := by decide +kernel
theorem d_M_lost_94 : decode c_M_lost 94 = .ok (.iaload, 1) := by decide +kernel
theorem d_M_lost_95 : decode c_M_lost 95 = .ok (.iload 5, 2) := by decide +kernel
theorem d_M_lost_97 : decode c_M_lost 97 = .ok (.iadd, 1) := by decide +kernel
theorem d_M_lost_98 : decode c_M_lost 98 = .ok (.invokevirtual 78, 3) := by decide +kernel
theorem d_M_lost_101 : decode c_M_lost 101 = .ok (.invokevirtual 84, 3) := by decide +kernel
theorem d_M_lost_104 : decode c_M_lost 104 = .ok (.ior, 1) := by decide +kernel
theorem d_M_lost_105 : decode c_M_lost 105 = .ok (.istore_n 3, 1) := by decide +kernel
theorem d_M_lost_106 : decode c_M_lost 106 = .ok (.iinc 5 4, 3) := by decide +kernel
theorem d_M_lost_109 : decode c_M_lost 109 = .ok (.goto (-38), 3) := by decide +kernel
theorem d_M_lost_112 : decode c_M_lost 112 = .ok (.iinc 4 1, 3) := by decide +kernel
theorem d_M_lost_115 : decode c_M_lost 115 = .ok (.goto (-66), 3) := by decide +kernel
theorem d_M_lost_118 : decode c_M_lost 118 = .ok (.goto (-78), 3) := by decide +kernel
theorem d_M_lost_121 : decode c_M_lost 121 = .ok (.aload_n 0, 1) := by decide +kernel
theorem d_M_lost_122 : decode c_M_lost 122 = .ok (.iconst 0, 1) := by decide +kernel
theorem d_M_lost_123 : decode c_M_lost 123 = .ok (.putfield 87, 3) := by decide +kernel
theorem d_M_lost_126 : decode c_M_lost 126 = .ok (.iconst 0, 1) := by decide +kernel
theorem d_M_lost_127 : decode c_M_lost 127 = .ok (.istore 4, 2) := by decide +kernel
theorem d_M_lost_129 : decode c_M_lost 129 = .ok (.iload 4, 2) := by decide +kernel
theorem d_M_lost_131 : decode c_M_lost 131 = .ok (.sipush 8192, 3) := by decide +kernel
theorem d_M_lost_134 : decode c_M_lost 134 = .ok (.if_icmp .ge 51, 3) := by decide +kernel
theorem d_M_lost_137 : decode c_M_lost 137 = .ok (.aload_n 0, 1) := by decide +kernel
theorem d_M_lost_138 : decode c_M_lost 138 = .ok (.iload 4, 2) := by decide +kernel
theorem d_M_lost_140 : decode c_M_lost 140 = .ok (.iconst 1, 1) := by decide +kernel
theorem d_M_lost_141 : decode c_M_lost 141 = .ok (.invokevirtual 63, 3) := by decide +kernel
theorem d_M_lost_144 : decode c_M_lost 144 = .ok (.istore 5, 2) := by decide +kernel
theorem d_M_lost_146 : decode c_M_lost 146 = .ok (.iload 5, 2) := by decide +kernel
theorem d_M_lost_148 : decode c_M_lost 148 = .ok (.ifCond .lt 31, 3) := by decide +kernel
theorem d_M_lost_151 : decode c_M_lost 151 = .ok (.aload_n 0, 1) := by decide +kernel
theorem d_M_lost_152 : decode c_M_lost 152 = .ok (.getfield 25, 3) := by decide +kernel
theorem d_M_lost_155 : decode c_M_lost 155 = .ok (.iload 5, 2) := by decide +kernel
theorem d_M_lost_157 : decode c_M_lost 157 = .ok (.baload, 1) := by decide +kernel
theorem d_M_lost_158 : decode c_M_lost 158 = .ok (.ifCond .ne 21, 3) := by decide +kernel
theorem d_M_lost_161 : decode c_M_lost 161 = .ok (.aload_n 0, 1) := by decide +kernel
theorem d_M_lost_162 : decode c_M_lost 162 = .ok (.getfield 29, 3) := by decide +kernel
theorem d_M_lost_165 : decode c_M_lost 165 = .ok (.aload_n 0, 1) := by decide +kernel
theorem d_M_lost_166 : decode c_M_lost 166 = .ok (.dup, 1) := by decide +kernel
theorem d_M_lost_167 : decode c_M_lost 167 = .ok (.getfield 87, 3) := by decide +kernel
theorem d_M_lost_170 : decode c_M_lost 170 = .ok (.dup_x1, 1) := by decide +kernel
theorem d_M_lost_171 : decode c_M_lost 171 = .ok (.iconst 1, 1) := by decide +kernel
theorem d_M_lost_172 : decode c_M_lost 172 = .ok (.iadd, 1) := by decide +kernel
theorem d_M_lost_173 : decode c_M_lost 173 = .ok (.putfield 87, 3) := by decide +kernel
theorem d_M_lost_176 : decode c_M_lost 176 = .ok (.iload 4, 2) := by decide +kernel
theorem d_M_lost_178 : decode c_M_lost 178 = .ok (.iastore, 1) := by decide +kernel
theorem d_M_lost_179 : decode c_M_lost 179 = .ok (.iinc 4 16, 3) := by decide +kernel
theorem d_M_lost_182 : decode c_M_lost 182 = .ok (.goto (-53), 3) := by decide +kernel
theorem d_M_lost_185 : decode c_M_lost 185 = .ok (.aload_n 0, 1) := by decide +kernel
theorem d_M_lost_186 : decode c_M_lost 186 = .ok (.getfield 87, 3) := by decide +kernel
theorem d_M_lost_189 : decode c_M_lost 189 = .ok (.ireturn, 1) := by decide +kernel
theorem d_M_touch_0 : decode c_M_touch 0 = .ok (.aload_n 0, 1) := by decide +kernel
theorem d_M_touch_1 : decode c_M_touch 1 = .ok (.iload_n 1, 1) := by decide +kernel
theorem d_M_touch_2 : decode c_M_touch 2 = .ok (.invokevirtual 81, 3) := by decide +kernel
theorem d_M_touch_5 : decode c_M_touch 5 = .ok (.istore_n 2, 1) := by decide +kernel
theorem d_M_touch_6 : decode c_M_touch 6 = .ok (.iload_n 2, 1) := by decide +kernel
theorem d_M_touch_7 : decode c_M_touch 7 = .ok (.ifCond .lt 12, 3) := by decide +kernel
theorem d_M_touch_10 : decode c_M_touch 10 = .ok (.aload_n 0, 1) := by decide +kernel
theorem d_M_touch_11 : decode c_M_touch 11 = .ok (.getfield 25, 3) := by decide +kernel
theorem d_M_touch_14 : decode c_M_touch 14 = .ok (.iload_n 2, 1) := by decide +kernel
theorem d_M_touch_15 : decode c_M_touch 15 = .ok (.baload, 1) := by decide +kernel
theorem d_M_touch_16 : decode c_M_touch 16 = .ok (.ifCond .eq 5, 3) := by decide +kernel
theorem d_M_touch_19 : decode c_M_touch 19 = .ok (.iconst 0, 1) := by decide +kernel
theorem d_M_touch_20 : decode c_M_touch 20 = .ok (.ireturn, 1) := by decide +kernel
theorem d_M_touch_21 : decode c_M_touch 21 = .ok (.aload_n 0, 1) := by decide +kernel
theorem d_M_touch_22 : decode c_M_touch 22 = .ok (.getfield 25, 3) := by decide +kernel
theorem d_M_touch_25 : decode c_M_touch 25 = .ok (.iload_n 2, 1) := by decide +kernel
theorem d_M_touch_26 : decode c_M_touch 26 = .ok (.iconst 1, 1) := by decide +kernel
theorem d_M_touch_27 : decode c_M_touch 27 = .ok (.bastore, 1) := by decide +kernel
theorem d_M_touch_28 : decode c_M_touch 28 = .ok (.iconst 1, 1) := by decide +kernel
theorem d_M_touch_29 : decode c_M_touch 29 = .ok (.ireturn, 1) := by decide +kernel
theorem d_M_leads_0 : decode c_M_leads 0 = .ok (.iconst 0, 1) := by decide +kernel
theorem d_M_leads_1 : decode c_M_leads 1 = .ok (.istore_n 2, 1) := by decide +kernel
theorem d_M_leads_2 : decode c_M_leads 2 = .ok (.iload_n 2, 1) := by decide +kernel
theorem d_M_leads_3 : decode c_M_leads 3 = .ok (.aload_n 0, 1) := by decide +kernel
theorem d_M_leads_4 : decode c_M_leads 4 = .ok (.getfield 40, 3) := by decide +kernel
theorem d_M_leads_7 : decode c_M_leads 7 = .ok (.if_icmp .ge 58, 3) := by decide +kernel
theorem d_M_leads_10 : decode c_M_leads 10 = .ok (.aload_n 0, 1) := by decide +kernel
theorem d_M_leads_11 : decode c_M_leads 11 = .ok (.getfield 19, 3) := by decide +kernel
theorem d_M_leads_14 : decode c_M_leads 14 = .ok (.iload_n 2, 1) := by decide +kernel
theorem d_M_leads_15 : decode c_M_leads 15 = .ok (.iaload, 1) := by decide +kernel
theorem d_M_leads_16 : decode c_M_leads 16 = .ok (.iconst 1, 1) := by decide +kernel
theorem d_M_leads_17 : decode c_M_leads 17 = .ok (.if_icmp .ne 42, 3) := by decide +kernel
theorem d_M_leads_20 : decode c_M_leads 20 = .ok (.iload_n 1, 1) := by decide +kernel
theorem d_M_leads_21 : decode c_M_leads 21 = .ok (.aload_n 0, 1) := by decide +kernel
theorem d_M_leads_22 : decode c_M_leads 22 = .ok (.getfield 13, 3) := by decide +kernel
theorem d_M_leads_25 : decode c_M_leads 25 = .ok (.iload_n 2, 1) := by decide +kernel
theorem d_M_leads_26 : decode c_M_leads 26 = .ok (.iaload, 1) := by decide +kernel
theorem d_M_leads_27 : decode c_M_leads 27 = .ok (.if_icmp .eq 30, 3) := by decide +kernel
theorem d_M_leads_30 : decode c_M_leads 30 = .ok (.iload_n 1, 1) := by decide +kernel
theorem d_M_leads_31 : decode c_M_leads 31 = .ok (.aload_n 0, 1) := by decide +kernel
theorem d_M_leads_32 : decode c_M_leads 32 = .ok (.getfield 13, 3) := by decide +kernel
theorem d_M_leads_35 : decode c_M_leads 35 = .ok (.iload_n 2, 1) := by decide +kernel
theorem d_M_leads_36 : decode c_M_leads 36 = .ok (.iaload, 1) := by decide +kernel
theorem d_M_leads_37 : decode c_M_leads 37 = .ok (.if_icmp .lt 22, 3) := by decide +kernel
theorem d_M_leads_40 : decode c_M_leads 40 = .ok (.iload_n 1, 1) := by decide +kernel
theorem d_M_leads_41 : decode c_M_leads 41 = .ok (.aload_n 0, 1) := by decide +kernel
theorem d_M_leads_42 : decode c_M_leads 42 = .ok (.getfield 13, 3) := by decide +kernel
theorem d_M_leads_45 : decode c_M_leads 45 = .ok (.iload_n 2, 1) := by decide +kernel
theorem d_M_leads_46 : decode c_M_leads 46 = .ok (.iaload, 1) := by decide +kernel
theorem d_M_leads_47 : decode c_M_leads 47 = .ok (.aload_n 0, 1) := by decide +kernel
theorem d_M_leads_48 : decode c_M_leads 48 = .ok (.getfield 16, 3) := by decide +kernel
theorem d_M_leads_51 : decode c_M_leads 51 = .ok (.iload_n 2, 1) := by decide +kernel
theorem d_M_leads_52 : decode c_M_leads 52 = .ok (.iaload, 1) := by decide +kernel
theorem d_M_leads_53 : decode c_M_leads 53 = .ok (.iadd, 1) := by decide +kernel
theorem d_M_leads_54 : decode c_M_leads 54 = .ok (.if_icmp .ge 5, 3) := by decide +kernel
theorem d_M_leads_57 : decode c_M_leads 57 = .ok (.iload_n 2, 1) := by decide +kernel
theorem d_M_leads_58 : decode c_M_leads 58 = .ok (.ireturn, 1) := by decide +kernel
theorem d_M_leads_59 : decode c_M_leads 59 = .ok (.iinc 2 1, 3) := by decide +kernel
theorem d_M_leads_62 : decode c_M_leads 62 = .ok (.goto (-60), 3) := by decide +kernel
theorem d_M_leads_65 : decode c_M_leads 65 = .ok (.iconst (-1), 1) := by decide +kernel
theorem d_M_leads_66 : decode c_M_leads 66 = .ok (.ireturn, 1) := by decide +kernel
theorem d_M_lostAt_0 : decode c_M_lostAt 0 = .ok (.aload_n 0, 1) := by decide +kernel
theorem d_M_lostAt_1 : decode c_M_lostAt 1 = .ok (.iload_n 1, 1) := by decide +kernel
theorem d_M_lostAt_2 : decode c_M_lostAt 2 = .ok (.ifCond .lt 11, 3) := by decide +kernel
theorem d_M_lostAt_5 : decode c_M_lostAt 5 = .ok (.iload_n 1, 1) := by decide +kernel
theorem d_M_lostAt_6 : decode c_M_lostAt 6 = .ok (.aload_n 0, 1) := by decide +kernel
theorem d_M_lostAt_7 : decode c_M_lostAt 7 = .ok (.getfield 87, 3) := by decide +kernel
theorem d_M_lostAt_10 : decode c_M_lostAt 10 = .ok (.if_icmp .lt 7, 3) := by decide +kernel
theorem d_M_lostAt_13 : decode c_M_lostAt 13 = .ok (.iconst 1, 1) := by decide +kernel
theorem d_M_lostAt_14 : decode c_M_lostAt 14 = .ok (.goto 4, 3) := by decide +kernel
theorem d_M_lostAt_17 : decode c_M_lostAt 17 = .ok (.iconst 0, 1) := by decide +kernel
theorem d_M_lostAt_18 : decode c_M_lostAt 18 = .ok (.iconst 1, 1) := by decide +kernel
theorem d_M_lostAt_19 : decode c_M_lostAt 19 = .ok (.invokevirtual 56, 3) := by decide +kernel
theorem d_M_lostAt_22 : decode c_M_lostAt 22 = .ok (.ifCond .eq 5, 3) := by decide +kernel
theorem d_M_lostAt_25 : decode c_M_lostAt 25 = .ok (.iconst 0, 1) := by decide +kernel
theorem d_M_lostAt_26 : decode c_M_lostAt 26 = .ok (.ireturn, 1) := by decide +kernel
theorem d_M_lostAt_27 : decode c_M_lostAt 27 = .ok (.aload_n 0, 1) := by decide +kernel
theorem d_M_lostAt_28 : decode c_M_lostAt 28 = .ok (.getfield 29, 3) := by decide +kernel
theorem d_M_lostAt_31 : decode c_M_lostAt 31 = .ok (.iload_n 1, 1) := by decide +kernel
theorem d_M_lostAt_32 : decode c_M_lostAt 32 = .ok (.iaload, 1) := by decide +kernel
theorem d_M_lostAt_33 : decode c_M_lostAt 33 = .ok (.ireturn, 1) := by decide +kernel
theorem d_M_count_0 : decode c_M_count 0 = .ok (.aload_n 0, 1) := by decide +kernel
theorem d_M_count_1 : decode c_M_count 1 = .ok (.iload_n 1, 1) := by decide +kernel
theorem d_M_count_2 : decode c_M_count 2 = .ok (.ifCond .lt 8, 3) := by decide +kernel
theorem d_M_count_5 : decode c_M_count 5 = .ok (.iload_n 1, 1) := by decide +kernel
theorem d_M_count_6 : decode c_M_count 6 = .ok (.iconst 4, 1) := by decide +kernel
theorem d_M_count_7 : decode c_M_count 7 = .ok (.if_icmp .le 7, 3) := by decide +kernel
theorem d_M_count_10 : decode c_M_count 10 = .ok (.iconst 1, 1) := by decide +kernel
theorem d_M_count_11 : decode c_M_count 11 = .ok (.goto 4, 3) := by decide +kernel
theorem d_M_count_14 : decode c_M_count 14 = .ok (.iconst 0, 1) := by decide +kernel
theorem d_M_count_15 : decode c_M_count 15 = .ok (.iconst 1, 1) := by decide +kernel
theorem d_M_count_16 : decode c_M_count 16 = .ok (.invokevirtual 56, 3) := by decide +kernel
theorem d_M_count_19 : decode c_M_count 19 = .ok (.ifCond .eq 5, 3) := by decide +kernel
theorem d_M_count_22 : decode c_M_count 22 = .ok (.iconst 0, 1) := by decide +kernel
theorem d_M_count_23 : decode c_M_count 23 = .ok (.ireturn, 1) := by decide +kernel
theorem d_M_count_24 : decode c_M_count 24 = .ok (.iconst 0, 1) := by decide +kernel
theorem d_M_count_25 : decode c_M_count 25 = .ok (.istore_n 2, 1) := by decide +kernel
theorem d_M_count_26 : decode c_M_count 26 = .ok (.iconst 0, 1) := by decide +kernel
theorem d_M_count_27 : decode c_M_count 27 = .ok (.istore_n 3, 1) := by decide +kernel
theorem d_M_count_28 : decode c_M_count 28 = .ok (.iconst 0, 1) := by decide +kernel
theorem d_M_count_29 : decode c_M_count 29 = .ok (.istore 4, 2) := by decide +kernel
theorem d_M_count_31 : decode c_M_count 31 = .ok (.iload 4, 2) := by decide +kernel
theorem d_M_count_33 : decode c_M_count 33 = .ok (.aload_n 0, 1) := by decide +kernel
theorem d_M_count_34 : decode c_M_count 34 = .ok (.getfield 40, 3) := by decide +kernel
theorem d_M_count_37 : decode c_M_count 37 = .ok (.if_icmp .ge 33, 3) := by decide +kernel
theorem d_M_count_40 : decode c_M_count 40 = .ok (.aload_n 0, 1) := by decide +kernel
theorem d_M_count_41 : decode c_M_count 41 = .ok (.getfield 19, 3) := by decide +kernel
theorem d_M_count_44 : decode c_M_count 44 = .ok (.iload 4, 2) := by decide +kernel
theorem d_M_count_46 : decode c_M_count 46 = .ok (.iaload, 1) := by decide +kernel
theorem d_M_count_47 : decode c_M_count 47 = .ok (.iconst 1, 1) := by decide +kernel
theorem d_M_count_48 : decode c_M_count 48 = .ok (.if_icmp .ne 16, 3) := by decide +kernel
theorem d_M_count_51 : decode c_M_count 51 = .ok (.iinc 2 1, 3) := by decide +kernel
theorem d_M_count_54 : decode c_M_count 54 = .ok (.iload_n 3, 1) := by decide +kernel
theorem d_M_count_55 : decode c_M_count 55 = .ok (.aload_n 0, 1) := by decide +kernel
theorem d_M_count_56 : decode c_M_count 56 = .ok (.getfield 16, 3) := by decide +kernel
theorem d_M_count_59 : decode c_M_count 59 = .ok (.iload 4, 2) := by decide +kernel
theorem d_M_count_61 : decode c_M_count 61 = .ok (.iaload, 1) := by decide +kernel
theorem d_M_count_62 : decode c_M_count 62 = .ok (.iadd, 1) := by decide +kernel
theorem d_M_count_63 : decode c_M_count 63 = .ok (.istore_n 3, 1) := by decide +kernel
theorem d_M_count_64 : decode c_M_count 64 = .ok (.iinc 4 1, 3) := by decide +kernel
theorem d_M_count_67 : decode c_M_count 67 = .ok (.goto (-36), 3) := by decide +kernel
theorem d_M_count_70 : decode c_M_count 70 = .ok (.iload_n 1, 1) := by decide +kernel
theorem d_M_count_71 : decode c_M_count 71 = .ok (.tableswitch 45 0 3 #[29, 31, 33, 40], 29) := by decide +kernel
theorem d_M_count_100 : decode c_M_count 100 = .ok (.iload_n 2, 1) := by decide +kernel
theorem d_M_count_101 : decode c_M_count 101 = .ok (.ireturn, 1) := by decide +kernel
theorem d_M_count_102 : decode c_M_count 102 = .ok (.iload_n 3, 1) := by decide +kernel
theorem d_M_count_103 : decode c_M_count 103 = .ok (.ireturn, 1) := by decide +kernel
theorem d_M_count_104 : decode c_M_count 104 = .ok (.aload_n 0, 1) := by decide +kernel
theorem d_M_count_105 : decode c_M_count 105 = .ok (.getfield 40, 3) := by decide +kernel
theorem d_M_count_108 : decode c_M_count 108 = .ok (.iload_n 2, 1) := by decide +kernel
theorem d_M_count_109 : decode c_M_count 109 = .ok (.isub, 1) := by decide +kernel
theorem d_M_count_110 : decode c_M_count 110 = .ok (.ireturn, 1) := by decide +kernel
theorem d_M_count_111 : decode c_M_count 111 = .ok (.aload_n 0, 1) := by decide +kernel
theorem d_M_count_112 : decode c_M_count 112 = .ok (.invokevirtual 52, 3) := by decide +kernel
theorem d_M_count_115 : decode c_M_count 115 = .ok (.ireturn, 1) := by decide +kernel
theorem d_M_count_116 : decode c_M_count 116 = .ok (.aload_n 0, 1) := by decide +kernel
theorem d_M_count_117 : decode c_M_count 117 = .ok (.getfield 46, 3) := by decide +kernel
theorem d_M_count_120 : decode c_M_count 120 = .ok (.ireturn, 1) := by decide +kernel
