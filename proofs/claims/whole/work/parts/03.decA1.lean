theorem dX7_hasRoom_9 : decode cX7_hasRoom 9 = .ok (.if_icmp .gt 7, 3) := by decide +kernel
theorem dX7_hasRoom_12 : decode cX7_hasRoom 12 = .ok (.iconst 1, 1) := by decide +kernel
theorem dX7_hasRoom_13 : decode cX7_hasRoom 13 = .ok (.goto 4, 3) := by decide +kernel
theorem dX7_hasRoom_16 : decode cX7_hasRoom 16 = .ok (.iconst 0, 1) := by decide +kernel
theorem dX7_hasRoom_17 : decode cX7_hasRoom 17 = .ok (.ireturn, 1) := by decide +kernel
theorem dX7_add_0 : decode cX7_add 0 = .ok (.bipush 24, 2) := by decide +kernel
theorem dX7_add_2 : decode cX7_add 2 = .ok (.istore_n 2, 1) := by decide +kernel
theorem dX7_add_3 : decode cX7_add 3 = .ok (.iload_n 2, 1) := by decide +kernel
theorem dX7_add_4 : decode cX7_add 4 = .ok (.ifCond .lt 42, 3) := by decide +kernel
theorem dX7_add_7 : decode cX7_add 7 = .ok (.aload_n 0, 1) := by decide +kernel
theorem dX7_add_8 : decode cX7_add 8 = .ok (.getfield 15, 3) := by decide +kernel
theorem dX7_add_11 : decode cX7_add 11 = .ok (.sipush 2000, 3) := by decide +kernel
theorem dX7_add_14 : decode cX7_add 14 = .ok (.if_icmp .ge 26, 3) := by decide +kernel
theorem dX7_add_17 : decode cX7_add 17 = .ok (.aload_n 0, 1) := by decide +kernel
theorem dX7_add_18 : decode cX7_add 18 = .ok (.getfield 11, 3) := by decide +kernel
theorem dX7_add_21 : decode cX7_add 21 = .ok (.aload_n 0, 1) := by decide +kernel
theorem dX7_add_22 : decode cX7_add 22 = .ok (.getfield 15, 3) := by decide +kernel
theorem dX7_add_25 : decode cX7_add 25 = .ok (.iload_n 1, 1) := by decide +kernel
theorem dX7_add_26 : decode cX7_add 26 = .ok (.iload_n 2, 1) := by decide +kernel
theorem dX7_add_27 : decode cX7_add 27 = .ok (.iushr, 1) := by decide +kernel
theorem dX7_add_28 : decode cX7_add 28 = .ok (.i2b, 1) := by decide +kernel
theorem dX7_add_29 : decode cX7_add 29 = .ok (.bastore, 1) := by decide +kernel
theorem dX7_add_30 : decode cX7_add 30 = .ok (.aload_n 0, 1) := by decide +kernel
theorem dX7_add_31 : decode cX7_add 31 = .ok (.dup, 1) := by decide +kernel
theorem dX7_add_32 : decode cX7_add 32 = .ok (.getfield 15, 3) := by decide +kernel
theorem dX7_add_35 : decode cX7_add 35 = .ok (.iconst 1, 1) := by decide +kernel
theorem dX7_add_36 : decode cX7_add 36 = .ok (.iadd, 1) := by decide +kernel
theorem dX7_add_37 : decode cX7_add 37 = .ok (.putfield 15, 3) := by decide +kernel
theorem dX7_add_40 : decode cX7_add 40 = .ok (.iinc 2 (-8), 3) := by decide +kernel
theorem dX7_add_43 : decode cX7_add 43 = .ok (.goto (-40), 3) := by decide +kernel
theorem dX7_add_46 : decode cX7_add 46 = .ok (.return_, 1) := by decide +kernel
theorem dX7_sign_0 : decode cX7_sign 0 = .ok (.iload_n 1, 1) := by decide +kernel
theorem dX7_sign_1 : decode cX7_sign 1 = .ok (.ifCond .lt 31, 3) := by decide +kernel
theorem dX7_sign_4 : decode cX7_sign 4 = .ok (.iload_n 1, 1) := by decide +kernel
theorem dX7_sign_5 : decode cX7_sign 5 = .ok (.aload_n 0, 1) := by decide +kernel
theorem dX7_sign_6 : decode cX7_sign 6 = .ok (.getfield 15, 3) := by decide +kernel
theorem dX7_sign_9 : decode cX7_sign 9 = .ok (.if_icmp .ge 23, 3) := by decide +kernel
theorem dX7_sign_12 : decode cX7_sign 12 = .ok (.iload_n 1, 1) := by decide +kernel
theorem dX7_sign_13 : decode cX7_sign 13 = .ok (.sipush 2000, 3) := by decide +kernel
theorem dX7_sign_16 : decode cX7_sign 16 = .ok (.if_icmp .ge 16, 3) := by decide +kernel
theorem dX7_sign_19 : decode cX7_sign 19 = .ok (.aload_n 0, 1) := by decide +kernel
theorem dX7_sign_20 : decode cX7_sign 20 = .ok (.getfield 11, 3) := by decide +kernel
theorem dX7_sign_23 : decode cX7_sign 23 = .ok (.iload_n 1, 1) := by decide +kernel
theorem dX7_sign_24 : decode cX7_sign 24 = .ok (.baload, 1) := by decide +kernel
theorem dX7_sign_25 : decode cX7_sign 25 = .ok (.sipush 255, 3) := by decide +kernel
theorem dX7_sign_28 : decode cX7_sign 28 = .ok (.iand, 1) := by decide +kernel
theorem dX7_sign_29 : decode cX7_sign 29 = .ok (.goto 4, 3) := by decide +kernel
theorem dX7_sign_32 : decode cX7_sign 32 = .ok (.iconst (-1), 1) := by decide +kernel
theorem dX7_sign_33 : decode cX7_sign 33 = .ok (.ireturn, 1) := by decide +kernel
theorem dX8_init_0 : decode cX8_init 0 = .ok (.aload_n 0, 1) := by decide +kernel
theorem dX8_init_1 : decode cX8_init 1 = .ok (.invokespecial 3, 3) := by decide +kernel
theorem dX8_init_4 : decode cX8_init 4 = .ok (.aload_n 0, 1) := by decide +kernel
theorem dX8_init_5 : decode cX8_init 5 = .ok (.bipush 7, 2) := by decide +kernel
theorem dX8_init_7 : decode cX8_init 7 = .ok (.newarray .int, 2) := by decide +kernel
theorem dX8_init_9 : decode cX8_init 9 = .ok (.putfield 9, 3) := by decide +kernel
theorem dX8_init_12 : decode cX8_init 12 = .ok (.aload_n 0, 1) := by decide +kernel
theorem dX8_init_13 : decode cX8_init 13 = .ok (.iconst 5, 1) := by decide +kernel
theorem dX8_init_14 : decode cX8_init 14 = .ok (.newarray .int, 2) := by decide +kernel
theorem dX8_init_16 : decode cX8_init 16 = .ok (.putfield 15, 3) := by decide +kernel
theorem dX8_init_19 : decode cX8_init 19 = .ok (.aload_n 0, 1) := by decide +kernel
theorem dX8_init_20 : decode cX8_init 20 = .ok (.aload_n 1, 1) := by decide +kernel
theorem dX8_init_21 : decode cX8_init 21 = .ok (.putfield 18, 3) := by decide +kernel
theorem dX8_init_24 : decode cX8_init 24 = .ok (.return_, 1) := by decide +kernel
theorem dX8_fill_0 : decode cX8_fill 0 = .ok (.aload_n 0, 1) := by decide +kernel
theorem dX8_fill_1 : decode cX8_fill 1 = .ok (.aload_n 1, 1) := by decide +kernel
theorem dX8_fill_2 : decode cX8_fill 2 = .ok (.putfield 22, 3) := by decide +kernel
theorem dX8_fill_5 : decode cX8_fill 5 = .ok (.aload_n 0, 1) := by decide +kernel
theorem dX8_fill_6 : decode cX8_fill 6 = .ok (.iconst 0, 1) := by decide +kernel
theorem dX8_fill_7 : decode cX8_fill 7 = .ok (.putfield 26, 3) := by decide +kernel
theorem dX8_fill_10 : decode cX8_fill 10 = .ok (.aload_n 0, 1) := by decide +kernel
theorem dX8_fill_11 : decode cX8_fill 11 = .ok (.iconst 0, 1) := by decide +kernel
theorem dX8_fill_12 : decode cX8_fill 12 = .ok (.putfield 30, 3) := by decide +kernel
theorem dX8_fill_15 : decode cX8_fill 15 = .ok (.aload_n 0, 1) := by decide +kernel
theorem dX8_fill_16 : decode cX8_fill 16 = .ok (.getfield 18, 3) := by decide +kernel
theorem dX8_fill_19 : decode cX8_fill 19 = .ok (.iconst 0, 1) := by decide +kernel
theorem dX8_fill_20 : decode cX8_fill 20 = .ok (.invokevirtual 33, 3) := by decide +kernel
theorem dX8_fill_23 : decode cX8_fill 23 = .ok (.istore_n 2, 1) := by decide +kernel
theorem dX8_fill_24 : decode cX8_fill 24 = .ok (.iconst 0, 1) := by decide +kernel
theorem dX8_fill_25 : decode cX8_fill 25 = .ok (.istore_n 3, 1) := by decide +kernel
theorem dX8_fill_26 : decode cX8_fill 26 = .ok (.iload_n 3, 1) := by decide +kernel
theorem dX8_fill_27 : decode cX8_fill 27 = .ok (.sipush 400, 3) := by decide +kernel
theorem dX8_fill_30 : decode cX8_fill 30 = .ok (.if_icmp .gt 78, 3) := by decide +kernel
theorem dX8_fill_33 : decode cX8_fill 33 = .ok (.aload_n 0, 1) := by decide +kernel
theorem dX8_fill_34 : decode cX8_fill 34 = .ok (.getfield 30, 3) := by decide +kernel
theorem dX8_fill_37 : decode cX8_fill 37 = .ok (.ifCond .ne 71, 3) := by decide +kernel
theorem dX8_fill_40 : decode cX8_fill 40 = .ok (.iload_n 2, 1) := by decide +kernel
theorem dX8_fill_41 : decode cX8_fill 41 = .ok (.bipush 25, 2) := by decide +kernel
theorem dX8_fill_43 : decode cX8_fill 43 = .ok (.if_icmp .eq 65, 3) := by decide +kernel
theorem dX8_fill_46 : decode cX8_fill 46 = .ok (.iload_n 2, 1) := by decide +kernel
theorem dX8_fill_47 : decode cX8_fill 47 = .ok (.ifCond .ne 10, 3) := by decide +kernel
theorem dX8_fill_50 : decode cX8_fill 50 = .ok (.aload_n 0, 1) := by decide +kernel
theorem dX8_fill_51 : decode cX8_fill 51 = .ok (.invokevirtual 39, 3) := by decide +kernel
theorem dX8_fill_54 : decode cX8_fill 54 = .ok (.goto 32, 3) := by decide +kernel
theorem dX8_fill_57 : decode cX8_fill 57 = .ok (.iload_n 2, 1) := by decide +kernel
theorem dX8_fill_58 : decode cX8_fill 58 = .ok (.iconst 1, 1) := by decide +kernel
theorem dX8_fill_59 : decode cX8_fill 59 = .ok (.if_icmp .ne 10, 3) := by decide +kernel
theorem dX8_fill_62 : decode cX8_fill 62 = .ok (.aload_n 0, 1) := by decide +kernel
theorem dX8_fill_63 : decode cX8_fill 63 = .ok (.invokevirtual 42, 3) := by decide +kernel
theorem dX8_fill_66 : decode cX8_fill 66 = .ok (.goto 20, 3) := by decide +kernel
theorem dX8_fill_69 : decode cX8_fill 69 = .ok (.iload_n 2, 1) := by decide +kernel
theorem dX8_fill_70 : decode cX8_fill 70 = .ok (.iconst 2, 1) := by decide +kernel
theorem dX8_fill_71 : decode cX8_fill 71 = .ok (.if_icmp .ne 10, 3) := by decide +kernel
theorem dX8_fill_74 : decode cX8_fill 74 = .ok (.aload_n 0, 1) := by decide +kernel
theorem dX8_fill_75 : decode cX8_fill 75 = .ok (.invokevirtual 45, 3) := by decide +kernel
theorem dX8_fill_78 : decode cX8_fill 78 = .ok (.goto 8, 3) := by decide +kernel
theorem dX8_fill_81 : decode cX8_fill 81 = .ok (.aload_n 0, 1) := by decide +kernel
theorem dX8_fill_82 : decode cX8_fill 82 = .ok (.iload_n 2, 1) := by decide +kernel
theorem dX8_fill_83 : decode cX8_fill 83 = .ok (.invokevirtual 48, 3) := by decide +kernel
theorem dX8_fill_86 : decode cX8_fill 86 = .ok (.aload_n 0, 1) := by decide +kernel
theorem dX8_fill_87 : decode cX8_fill 87 = .ok (.invokevirtual 52, 3) := by decide +kernel
theorem dX8_fill_90 : decode cX8_fill 90 = .ok (.aload_n 0, 1) := by decide +kernel
theorem dX8_fill_91 : decode cX8_fill 91 = .ok (.getfield 18, 3) := by decide +kernel
theorem dX8_fill_94 : decode cX8_fill 94 = .ok (.aload_n 0, 1) := by decide +kernel
theorem dX8_fill_95 : decode cX8_fill 95 = .ok (.getfield 26, 3) := by decide +kernel
theorem dX8_fill_98 : decode cX8_fill 98 = .ok (.invokevirtual 33, 3) := by decide +kernel
theorem dX8_fill_101 : decode cX8_fill 101 = .ok (.istore_n 2, 1) := by decide +kernel
theorem dX8_fill_102 : decode cX8_fill 102 = .ok (.iinc 3 1, 3) := by decide +kernel
theorem dX8_fill_105 : decode cX8_fill 105 = .ok (.goto (-79), 3) := by decide +kernel
theorem dX8_fill_108 : decode cX8_fill 108 = .ok (.return_, 1) := by decide +kernel
theorem dX8_fail_0 : decode cX8_fail 0 = .ok (.aload_n 0, 1) := by decide +kernel
theorem dX8_fail_1 : decode cX8_fail 1 = .ok (.getfield 30, 3) := by decide +kernel
theorem dX8_fail_4 : decode cX8_fail 4 = .ok (.ifCond .ne 13, 3) := by decide +kernel
theorem dX8_fail_7 : decode cX8_fail 7 = .ok (.aload_n 0, 1) := by decide +kernel
theorem dX8_fail_8 : decode cX8_fail 8 = .ok (.iload_n 1, 1) := by decide +kernel
theorem dX8_fail_9 : decode cX8_fail 9 = .ok (.putfield 30, 3) := by decide +kernel
theorem dX8_fail_12 : decode cX8_fail 12 = .ok (.aload_n 0, 1) := by decide +kernel
theorem dX8_fail_13 : decode cX8_fail 13 = .ok (.iload_n 2, 1) := by decide +kernel
theorem dX8_fail_14 : decode cX8_fail 14 = .ok (.putfield 55, 3) := by decide +kernel
theorem dX8_fail_17 : decode cX8_fail 17 = .ok (.return_, 1) := by decide +kernel
theorem dX8_skipTell_0 : decode cX8_skipTell 0 = .ok (.iconst 0, 1) := by decide +kernel
theorem dX8_skipTell_1 : decode cX8_skipTell 1 = .ok (.istore_n 1, 1) := by decide +kernel
theorem dX8_skipTell_2 : decode cX8_skipTell 2 = .ok (.iload_n 1, 1) := by decide +kernel
theorem dX8_skipTell_3 : decode cX8_skipTell 3 = .ok (.sipush 400, 3) := by decide +kernel
theorem dX8_skipTell_6 : decode cX8_skipTell 6 = .ok (.if_icmp .gt 30, 3) := by decide +kernel
theorem dX8_skipTell_9 : decode cX8_skipTell 9 = .ok (.aload_n 0, 1) := by decide +kernel
theorem dX8_skipTell_10 : decode cX8_skipTell 10 = .ok (.aload_n 0, 1) := by decide +kernel
theorem dX8_skipTell_11 : decode cX8_skipTell 11 = .ok (.getfield 26, 3) := by decide +kernel
theorem dX8_skipTell_14 : decode cX8_skipTell 14 = .ok (.invokevirtual 58, 3) := by decide +kernel
theorem dX8_skipTell_17 : decode cX8_skipTell 17 = .ok (.ifCond .ne 19, 3) := by decide +kernel
theorem dX8_skipTell_20 : decode cX8_skipTell 20 = .ok (.aload_n 0, 1) := by decide +kernel
theorem dX8_skipTell_21 : decode cX8_skipTell 21 = .ok (.dup, 1) := by decide +kernel
theorem dX8_skipTell_22 : decode cX8_skipTell 22 = .ok (.getfield 26, 3) := by decide +kernel
theorem dX8_skipTell_25 : decode cX8_skipTell 25 = .ok (.iconst 1, 1) := by decide +kernel
theorem dX8_skipTell_26 : decode cX8_skipTell 26 = .ok (.iadd, 1) := by decide +kernel
theorem dX8_skipTell_27 : decode cX8_skipTell 27 = .ok (.putfield 26, 3) := by decide +kernel
theorem dX8_skipTell_30 : decode cX8_skipTell 30 = .ok (.iinc 1 1, 3) := by decide +kernel
theorem dX8_skipTell_33 : decode cX8_skipTell 33 = .ok (.goto (-31), 3) := by decide +kernel
theorem dX8_skipTell_36 : decode cX8_skipTell 36 = .ok (.aload_n 0, 1) := by decide +kernel
theorem dX8_skipTell_37 : decode cX8_skipTell 37 = .ok (.dup, 1) := by decide +kernel
theorem dX8_skipTell_38 : decode cX8_skipTell 38 = .ok (.getfield 26, 3) := by decide +kernel
theorem dX8_skipTell_41 : decode cX8_skipTell 41 = .ok (.iconst 1, 1) := by decide +kernel
theorem dX8_skipTell_42 : decode cX8_skipTell 42 = .ok (.iadd, 1) := by decide +kernel
theorem dX8_skipTell_43 : decode cX8_skipTell 43 = .ok (.putfield 26, 3) := by decide +kernel
theorem dX8_skipTell_46 : decode cX8_skipTell 46 = .ok (.return_, 1) := by decide +kernel
theorem dX8_isTellEnd_0 : decode cX8_isTellEnd 0 = .ok (.aload_n 0, 1) := by decide +kernel
theorem dX8_isTellEnd_1 : decode cX8_isTellEnd 1 = .ok (.getfield 18, 3) := by decide +kernel
theorem dX8_isTellEnd_4 : decode cX8_isTellEnd 4 = .ok (.iload_n 1, 1) := by decide +kernel
theorem dX8_isTellEnd_5 : decode cX8_isTellEnd 5 = .ok (.invokevirtual 33, 3) := by decide +kernel
theorem dX8_isTellEnd_8 : decode cX8_isTellEnd 8 = .ok (.bipush 27, 2) := by decide +kernel
theorem dX8_isTellEnd_10 : decode cX8_isTellEnd 10 = .ok (.if_icmp .eq 16, 3) := by decide +kernel
theorem dX8_isTellEnd_13 : decode cX8_isTellEnd 13 = .ok (.aload_n 0, 1) := by decide +kernel
theorem dX8_isTellEnd_14 : decode cX8_isTellEnd 14 = .ok (.getfield 18, 3) := by decide +kernel
theorem dX8_isTellEnd_17 : decode cX8_isTellEnd 17 = .ok (.iload_n 1, 1) := by decide +kernel
theorem dX8_isTellEnd_18 : decode cX8_isTellEnd 18 = .ok (.invokevirtual 33, 3) := by decide +kernel
theorem dX8_isTellEnd_21 : decode cX8_isTellEnd 21 = .ok (.bipush 25, 2) := by decide +kernel
theorem dX8_isTellEnd_23 : decode cX8_isTellEnd 23 = .ok (.if_icmp .ne 7, 3) := by decide +kernel
theorem dX8_isTellEnd_26 : decode cX8_isTellEnd 26 = .ok (.iconst 1, 1) := by decide +kernel
theorem dX8_isTellEnd_27 : decode cX8_isTellEnd 27 = .ok (.goto 4, 3) := by decide +kernel
theorem dX8_isTellEnd_30 : decode cX8_isTellEnd 30 = .ok (.iconst 0, 1) := by decide +kernel
theorem dX8_isTellEnd_31 : decode cX8_isTellEnd 31 = .ok (.ireturn, 1) := by decide +kernel
theorem dX8_fillNumber_0 : decode cX8_fillNumber 0 = .ok (.iload_n 1, 1) := by decide +kernel
theorem dX8_fillNumber_1 : decode cX8_fillNumber 1 = .ok (.bipush 8, 2) := by decide +kernel
theorem dX8_fillNumber_3 : decode cX8_fillNumber 3 = .ok (.if_icmp .ne 26, 3) := by decide +kernel
theorem dX8_fillNumber_6 : decode cX8_fillNumber 6 = .ok (.aload_n 0, 1) := by decide +kernel
theorem dX8_fillNumber_7 : decode cX8_fillNumber 7 = .ok (.getfield 22, 3) := by decide +kernel
theorem dX8_fillNumber_10 : decode cX8_fillNumber 10 = .ok (.aload_n 0, 1) := by decide +kernel
theorem dX8_fillNumber_11 : decode cX8_fillNumber 11 = .ok (.aload_n 0, 1) := by decide +kernel
theorem dX8_fillNumber_12 : decode cX8_fillNumber 12 = .ok (.getfield 26, 3) := by decide +kernel
theorem dX8_fillNumber_15 : decode cX8_fillNumber 15 = .ok (.iconst 1, 1) := by decide +kernel
theorem dX8_fillNumber_16 : decode cX8_fillNumber 16 = .ok (.iadd, 1) := by decide +kernel
theorem dX8_fillNumber_17 : decode cX8_fillNumber 17 = .ok (.sipush 999, 3) := by decide +kernel
theorem dX8_fillNumber_20 : decode cX8_fillNumber 20 = .ok (.invokevirtual 62, 3) := by decide +kernel
theorem dX8_fillNumber_23 : decode cX8_fillNumber 23 = .ok (.putfield 66, 3) := by decide +kernel
theorem dX8_fillNumber_26 : decode cX8_fillNumber 26 = .ok (.goto 57, 3) := by decide +kernel
theorem dX8_fillNumber_29 : decode cX8_fillNumber 29 = .ok (.iload_n 1, 1) := by decide +kernel
theorem dX8_fillNumber_30 : decode cX8_fillNumber 30 = .ok (.bipush 9, 2) := by decide +kernel
theorem dX8_fillNumber_32 : decode cX8_fillNumber 32 = .ok (.if_icmp .ne 25, 3) := by decide +kernel
theorem dX8_fillNumber_35 : decode cX8_fillNumber 35 = .ok (.aload_n 0, 1) := by decide +kernel
theorem dX8_fillNumber_36 : decode cX8_fillNumber 36 = .ok (.getfield 22, 3) := by decide +kernel
theorem dX8_fillNumber_39 : decode cX8_fillNumber 39 = .ok (.aload_n 0, 1) := by decide +kernel
theorem dX8_fillNumber_40 : decode cX8_fillNumber 40 = .ok (.aload_n 0, 1) := by decide +kernel
theorem dX8_fillNumber_41 : decode cX8_fillNumber 41 = .ok (.getfield 26, 3) := by decide +kernel
theorem dX8_fillNumber_44 : decode cX8_fillNumber 44 = .ok (.iconst 1, 1) := by decide +kernel
theorem dX8_fillNumber_45 : decode cX8_fillNumber 45 = .ok (.iadd, 1) := by decide +kernel
theorem dX8_fillNumber_46 : decode cX8_fillNumber 46 = .ok (.bipush 100, 2) := by decide +kernel
theorem dX8_fillNumber_48 : decode cX8_fillNumber 48 = .ok (.invokevirtual 62, 3) := by decide +kernel
theorem dX8_fillNumber_51 : decode cX8_fillNumber 51 = .ok (.putfield 71, 3) := by decide +kernel
theorem dX8_fillNumber_54 : decode cX8_fillNumber 54 = .ok (.goto 29, 3) := by decide +kernel
theorem dX8_fillNumber_57 : decode cX8_fillNumber 57 = .ok (.iload_n 1, 1) := by decide +kernel
theorem dX8_fillNumber_58 : decode cX8_fillNumber 58 = .ok (.bipush 10, 2) := by decide +kernel
theorem dX8_fillNumber_60 : decode cX8_fillNumber 60 = .ok (.if_icmp .ne 23, 3) := by decide +kernel
theorem dX8_fillNumber_63 : decode cX8_fillNumber 63 = .ok (.aload_n 0, 1) := by decide +kernel
theorem dX8_fillNumber_64 : decode cX8_fillNumber 64 = .ok (.getfield 22, 3) := by decide +kernel
theorem dX8_fillNumber_67 : decode cX8_fillNumber 67 = .ok (.aload_n 0, 1) := by decide +kernel
theorem dX8_fillNumber_68 : decode cX8_fillNumber 68 = .ok (.aload_n 0, 1) := by decide +kernel
theorem dX8_fillNumber_69 : decode cX8_fillNumber 69 = .ok (.getfield 26, 3) := by decide +kernel
theorem dX8_fillNumber_72 : decode cX8_fillNumber 72 = .ok (.iconst 1, 1) := by decide +kernel
theorem dX8_fillNumber_73 : decode cX8_fillNumber 73 = .ok (.iadd, 1) := by decide +kernel
theorem dX8_fillNumber_74 : decode cX8_fillNumber 74 = .ok (.sipush 9999, 3) := by decide +kernel
theorem dX8_fillNumber_77 : decode cX8_fillNumber 77 = .ok (.invokevirtual 62, 3) := by decide +kernel
theorem dX8_fillNumber_80 : decode cX8_fillNumber 80 = .ok (.putfield 74, 3) := by decide +kernel
theorem dX8_fillNumber_83 : decode cX8_fillNumber 83 = .ok (.return_, 1) := by decide +kernel
theorem dX8_number_0 : decode cX8_number 0 = .ok (.aload_n 0, 1) := by decide +kernel
theorem dX8_number_1 : decode cX8_number 1 = .ok (.getfield 18, 3) := by decide +kernel
theorem dX8_number_4 : decode cX8_number 4 = .ok (.iload_n 1, 1) := by decide +kernel
theorem dX8_number_5 : decode cX8_number 5 = .ok (.invokevirtual 77, 3) := by decide +kernel
theorem dX8_number_8 : decode cX8_number 8 = .ok (.istore_n 3, 1) := by decide +kernel
theorem dX8_number_9 : decode cX8_number 9 = .ok (.iload_n 3, 1) := by decide +kernel
theorem dX8_number_10 : decode cX8_number 10 = .ok (.iload_n 2, 1) := by decide +kernel
theorem dX8_number_11 : decode cX8_number 11 = .ok (.if_icmp .le 9, 3) := by decide +kernel
theorem dX8_number_14 : decode cX8_number 14 = .ok (.aload_n 0, 1) := by decide +kernel
theorem dX8_number_15 : decode cX8_number 15 = .ok (.iconst 5, 1) := by decide +kernel
theorem dX8_number_16 : decode cX8_number 16 = .ok (.iload_n 1, 1) := by decide +kernel
theorem dX8_number_17 : decode cX8_number 17 = .ok (.invokevirtual 80, 3) := by decide +kernel
theorem dX8_number_20 : decode cX8_number 20 = .ok (.iload_n 3, 1) := by decide +kernel
theorem dX8_number_21 : decode cX8_number 21 = .ok (.ireturn, 1) := by decide +kernel
theorem dX8_fillHouse_0 : decode cX8_fillHouse 0 = .ok (.aload_n 0, 1) := by decide +kernel
theorem dX8_fillHouse_1 : decode cX8_fillHouse 1 = .ok (.getfield 22, 3) := by decide +kernel
theorem dX8_fillHouse_4 : decode cX8_fillHouse 4 = .ok (.getfield 84, 3) := by decide +kernel
theorem dX8_fillHouse_7 : decode cX8_fillHouse 7 = .ok (.istore_n 1, 1) := by decide +kernel
theorem dX8_fillHouse_8 : decode cX8_fillHouse 8 = .ok (.iload_n 1, 1) := by decide +kernel
theorem dX8_fillHouse_9 : decode cX8_fillHouse 9 = .ok (.bipush 7, 2) := by decide +kernel
theorem dX8_fillHouse_11 : decode cX8_fillHouse 11 = .ok (.if_icmp .lt 4, 3) := by decide +kernel
theorem dX8_fillHouse_14 : decode cX8_fillHouse 14 = .ok (.return_, 1) := by decide +kernel
theorem dX8_fillHouse_15 : decode cX8_fillHouse 15 = .ok (.aload_n 0, 1) := by decide +kernel
theorem dX8_fillHouse_16 : decode cX8_fillHouse 16 = .ok (.aload_n 0, 1) := by decide +kernel
theorem dX8_fillHouse_17 : decode cX8_fillHouse 17 = .ok (.getfield 26, 3) := by decide +kernel
theorem dX8_fillHouse_20 : decode cX8_fillHouse 20 = .ok (.iconst 1, 1) := by decide +kernel
theorem dX8_fillHouse_21 : decode cX8_fillHouse 21 = .ok (.iadd, 1) := by decide +kernel
theorem dX8_fillHouse_22 : decode cX8_fillHouse 22 = .ok (.invokevirtual 87, 3) := by decide +kernel
theorem dX8_fillHouse_25 : decode cX8_fillHouse 25 = .ok (.aload_n 0, 1) := by decide +kernel
theorem dX8_fillHouse_26 : decode cX8_fillHouse 26 = .ok (.getfield 9, 3) := by decide +kernel
theorem dX8_fillHouse_29 : decode cX8_fillHouse 29 = .ok (.iload_n 1, 1) := by decide +kernel
theorem dX8_fillHouse_30 : decode cX8_fillHouse 30 = .ok (.aload_n 0, 1) := by decide +kernel
theorem dX8_fillHouse_31 : decode cX8_fillHouse 31 = .ok (.getfield 26, 3) := by decide +kernel
theorem dX8_fillHouse_34 : decode cX8_fillHouse 34 = .ok (.iconst 1, 1) := by decide +kernel
theorem dX8_fillHouse_35 : decode cX8_fillHouse 35 = .ok (.iadd, 1) := by decide +kernel
theorem dX8_fillHouse_36 : decode cX8_fillHouse 36 = .ok (.iastore, 1) := by decide +kernel
theorem dX8_fillHouse_37 : decode cX8_fillHouse 37 = .ok (.aload_n 0, 1) := by decide +kernel
theorem dX8_fillHouse_38 : decode cX8_fillHouse 38 = .ok (.getfield 22, 3) := by decide +kernel
theorem dX8_fillHouse_41 : decode cX8_fillHouse 41 = .ok (.getfield 90, 3) := by decide +kernel
theorem dX8_fillHouse_44 : decode cX8_fillHouse 44 = .ok (.iload_n 1, 1) := by decide +kernel
theorem dX8_fillHouse_45 : decode cX8_fillHouse 45 = .ok (.aload_n 0, 1) := by decide +kernel
theorem dX8_fillHouse_46 : decode cX8_fillHouse 46 = .ok (.aload_n 0, 1) := by decide +kernel
theorem dX8_fillHouse_47 : decode cX8_fillHouse 47 = .ok (.getfield 26, 3) := by decide +kernel
theorem dX8_fillHouse_50 : decode cX8_fillHouse 50 = .ok (.iconst 2, 1) := by decide +kernel
theorem dX8_fillHouse_51 : decode cX8_fillHouse 51 = .ok (.iadd, 1) := by decide +kernel
theorem dX8_fillHouse_52 : decode cX8_fillHouse 52 = .ok (.bipush 99, 2) := by decide +kernel
theorem dX8_fillHouse_54 : decode cX8_fillHouse 54 = .ok (.invokevirtual 62, 3) := by decide +kernel
theorem dX8_fillHouse_57 : decode cX8_fillHouse 57 = .ok (.iastore, 1) := by decide +kernel
theorem dX8_fillHouse_58 : decode cX8_fillHouse 58 = .ok (.aload_n 0, 1) := by decide +kernel
theorem dX8_fillHouse_59 : decode cX8_fillHouse 59 = .ok (.getfield 22, 3) := by decide +kernel
theorem dX8_fillHouse_62 : decode cX8_fillHouse 62 = .ok (.getfield 93, 3) := by decide +kernel
theorem dX8_fillHouse_65 : decode cX8_fillHouse 65 = .ok (.iload_n 1, 1) := by decide +kernel
theorem dX8_fillHouse_66 : decode cX8_fillHouse 66 = .ok (.aload_n 0, 1) := by decide +kernel
theorem dX8_fillHouse_67 : decode cX8_fillHouse 67 = .ok (.aload_n 0, 1) := by decide +kernel
theorem dX8_fillHouse_68 : decode cX8_fillHouse 68 = .ok (.getfield 26, 3) := by decide +kernel
theorem dX8_fillHouse_71 : decode cX8_fillHouse 71 = .ok (.iconst 3, 1) := by decide +kernel
theorem dX8_fillHouse_72 : decode cX8_fillHouse 72 = .ok (.iadd, 1) := by decide +kernel
theorem dX8_fillHouse_73 : decode cX8_fillHouse 73 = .ok (.sipush 999, 3) := by decide +kernel
theorem dX8_fillHouse_76 : decode cX8_fillHouse 76 = .ok (.invokevirtual 62, 3) := by decide +kernel
theorem dX8_fillHouse_79 : decode cX8_fillHouse 79 = .ok (.iastore, 1) := by decide +kernel
theorem dX8_fillHouse_80 : decode cX8_fillHouse 80 = .ok (.aload_n 0, 1) := by decide +kernel
theorem dX8_fillHouse_81 : decode cX8_fillHouse 81 = .ok (.getfield 22, 3) := by decide +kernel
theorem dX8_fillHouse_84 : decode cX8_fillHouse 84 = .ok (.getfield 96, 3) := by decide +kernel
theorem dX8_fillHouse_87 : decode cX8_fillHouse 87 = .ok (.iload_n 1, 1) := by decide +kernel
theorem dX8_fillHouse_88 : decode cX8_fillHouse 88 = .ok (.aload_n 0, 1) := by decide +kernel
theorem dX8_fillHouse_89 : decode cX8_fillHouse 89 = .ok (.aload_n 0, 1) := by decide +kernel
theorem dX8_fillHouse_90 : decode cX8_fillHouse 90 = .ok (.getfield 26, 3) := by decide +kernel
theorem dX8_fillHouse_93 : decode cX8_fillHouse 93 = .ok (.iconst 4, 1) := by decide +kernel
theorem dX8_fillHouse_94 : decode cX8_fillHouse 94 = .ok (.iadd, 1) := by decide +kernel
theorem dX8_fillHouse_95 : decode cX8_fillHouse 95 = .ok (.bipush 9, 2) := by decide +kernel
theorem dX8_fillHouse_97 : decode cX8_fillHouse 97 = .ok (.invokevirtual 62, 3) := by decide +kernel
theorem dX8_fillHouse_100 : decode cX8_fillHouse 100 = .ok (.iastore, 1) := by decide +kernel
theorem dX8_fillHouse_101 : decode cX8_fillHouse 101 = .ok (.aload_n 0, 1) := by decide +kernel
theorem dX8_fillHouse_102 : decode cX8_fillHouse 102 = .ok (.getfield 22, 3) := by decide +kernel
theorem dX8_fillHouse_105 : decode cX8_fillHouse 105 = .ok (.getfield 99, 3) := by decide +kernel
theorem dX8_fillHouse_108 : decode cX8_fillHouse 108 = .ok (.iload_n 1, 1) := by decide +kernel
theorem dX8_fillHouse_109 : decode cX8_fillHouse 109 = .ok (.aload_n 0, 1) := by decide +kernel
theorem dX8_fillHouse_110 : decode cX8_fillHouse 110 = .ok (.aload_n 0, 1) := by decide +kernel
theorem dX8_fillHouse_111 : decode cX8_fillHouse 111 = .ok (.getfield 26, 3) := by decide +kernel
theorem dX8_fillHouse_114 : decode cX8_fillHouse 114 = .ok (.iconst 5, 1) := by decide +kernel
theorem dX8_fillHouse_115 : decode cX8_fillHouse 115 = .ok (.iadd, 1) := by decide +kernel
theorem dX8_fillHouse_116 : decode cX8_fillHouse 116 = .ok (.bipush 9, 2) := by decide +kernel
theorem dX8_fillHouse_118 : decode cX8_fillHouse 118 = .ok (.invokevirtual 62, 3) := by decide +kernel
theorem dX8_fillHouse_121 : decode cX8_fillHouse 121 = .ok (.iastore, 1) := by decide +kernel
theorem dX8_fillHouse_122 : decode cX8_fillHouse 122 = .ok (.aload_n 0, 1) := by decide +kernel
theorem dX8_fillHouse_123 : decode cX8_fillHouse 123 = .ok (.getfield 22, 3) := by decide +kernel
theorem dX8_fillHouse_126 : decode cX8_fillHouse 126 = .ok (.getfield 102, 3) := by decide +kernel
theorem dX8_fillHouse_129 : decode cX8_fillHouse 129 = .ok (.iload_n 1, 1) := by decide +kernel
theorem dX8_fillHouse_130 : decode cX8_fillHouse 130 = .ok (.iconst 0, 1) := by decide +kernel
theorem dX8_fillHouse_131 : decode cX8_fillHouse 131 = .ok (.iastore, 1) := by decide +kernel
theorem dX8_fillHouse_132 : decode cX8_fillHouse 132 = .ok (.aload_n 0, 1) := by decide +kernel
theorem dX8_fillHouse_133 : decode cX8_fillHouse 133 = .ok (.getfield 22, 3) := by decide +kernel
theorem dX8_fillHouse_136 : decode cX8_fillHouse 136 = .ok (.iload_n 1, 1) := by decide +kernel
theorem dX8_fillHouse_137 : decode cX8_fillHouse 137 = .ok (.iconst 1, 1) := by decide +kernel
theorem dX8_fillHouse_138 : decode cX8_fillHouse 138 = .ok (.iadd, 1) := by decide +kernel
theorem dX8_fillHouse_139 : decode cX8_fillHouse 139 = .ok (.putfield 84, 3) := by decide +kernel
theorem dX8_fillHouse_142 : decode cX8_fillHouse 142 = .ok (.return_, 1) := by decide +kernel
theorem dX8_checkNewName_0 : decode cX8_checkNewName 0 = .ok (.aload_n 0, 1) := by decide +kernel
theorem dX8_checkNewName_1 : decode cX8_checkNewName 1 = .ok (.iload_n 1, 1) := by decide +kernel
theorem dX8_checkNewName_2 : decode cX8_checkNewName 2 = .ok (.invokevirtual 105, 3) := by decide +kernel
theorem dX8_checkNewName_5 : decode cX8_checkNewName 5 = .ok (.iconst (-1), 1) := by decide +kernel
theorem dX8_checkNewName_6 : decode cX8_checkNewName 6 = .ok (.if_icmp .eq 7, 3) := by decide +kernel
theorem dX8_checkNewName_9 : decode cX8_checkNewName 9 = .ok (.iconst 1, 1) := by decide +kernel
theorem dX8_checkNewName_10 : decode cX8_checkNewName 10 = .ok (.goto 4, 3) := by decide +kernel
theorem dX8_checkNewName_13 : decode cX8_checkNewName 13 = .ok (.iconst 0, 1) := by decide +kernel
theorem dX8_checkNewName_14 : decode cX8_checkNewName 14 = .ok (.istore_n 2, 1) := by decide +kernel
theorem dX8_checkNewName_15 : decode cX8_checkNewName 15 = .ok (.iconst 0, 1) := by decide +kernel
theorem dX8_checkNewName_16 : decode cX8_checkNewName 16 = .ok (.istore_n 3, 1) := by decide +kernel
theorem dX8_checkNewName_17 : decode cX8_checkNewName 17 = .ok (.iload_n 3, 1) := by decide +kernel
theorem dX8_checkNewName_18 : decode cX8_checkNewName 18 = .ok (.aload_n 0, 1) := by decide +kernel
theorem dX8_checkNewName_19 : decode cX8_checkNewName 19 = .ok (.getfield 22, 3) := by decide +kernel
theorem dX8_checkNewName_22 : decode cX8_checkNewName 22 = .ok (.getfield 108, 3) := by decide +kernel
theorem dX8_checkNewName_25 : decode cX8_checkNewName 25 = .ok (.if_icmp .ge 28, 3) := by decide +kernel
theorem dX8_checkNewName_28 : decode cX8_checkNewName 28 = .ok (.iload_n 2, 1) := by decide +kernel
theorem dX8_checkNewName_29 : decode cX8_checkNewName 29 = .ok (.ifCond .ne 24, 3) := by decide +kernel
theorem dX8_checkNewName_32 : decode cX8_checkNewName 32 = .ok (.aload_n 0, 1) := by decide +kernel
theorem dX8_checkNewName_33 : decode cX8_checkNewName 33 = .ok (.getfield 18, 3) := by decide +kernel
theorem dX8_checkNewName_36 : decode cX8_checkNewName 36 = .ok (.aload_n 0, 1) := by decide +kernel
theorem dX8_checkNewName_37 : decode cX8_checkNewName 37 = .ok (.getfield 15, 3) := by decide +kernel
theorem dX8_checkNewName_40 : decode cX8_checkNewName 40 = .ok (.iload_n 3, 1) := by decide +kernel
theorem dX8_checkNewName_41 : decode cX8_checkNewName 41 = .ok (.iaload, 1) := by decide +kernel
theorem dX8_checkNewName_42 : decode cX8_checkNewName 42 = .ok (.iload_n 1, 1) := by decide +kernel
theorem dX8_checkNewName_43 : decode cX8_checkNewName 43 = .ok (.invokevirtual 111, 3) := by decide +kernel
theorem dX8_checkNewName_46 : decode cX8_checkNewName 46 = .ok (.istore_n 2, 1) := by decide +kernel
theorem dX8_checkNewName_47 : decode cX8_checkNewName 47 = .ok (.iinc 3 1, 3) := by decide +kernel
theorem dX8_checkNewName_50 : decode cX8_checkNewName 50 = .ok (.goto (-33), 3) := by decide +kernel
theorem dX8_checkNewName_53 : decode cX8_checkNewName 53 = .ok (.iload_n 2, 1) := by decide +kernel
theorem dX8_checkNewName_54 : decode cX8_checkNewName 54 = .ok (.ifCond .eq 9, 3) := by decide +kernel
theorem dX8_checkNewName_57 : decode cX8_checkNewName 57 = .ok (.aload_n 0, 1) := by decide +kernel
theorem dX8_checkNewName_58 : decode cX8_checkNewName 58 = .ok (.iconst 3, 1) := by decide +kernel
theorem dX8_checkNewName_59 : decode cX8_checkNewName 59 = .ok (.iload_n 1, 1) := by decide +kernel
theorem dX8_checkNewName_60 : decode cX8_checkNewName 60 = .ok (.invokevirtual 80, 3) := by decide +kernel
theorem dX8_checkNewName_63 : decode cX8_checkNewName 63 = .ok (.return_, 1) := by decide +kernel
theorem dX8_houseNamed_0 : decode cX8_houseNamed 0 = .ok (.iconst 0, 1) := by decide +kernel
theorem dX8_houseNamed_1 : decode cX8_houseNamed 1 = .ok (.istore_n 2, 1) := by decide +kernel
theorem dX8_houseNamed_2 : decode cX8_houseNamed 2 = .ok (.iload_n 2, 1) := by decide +kernel
theorem dX8_houseNamed_3 : decode cX8_houseNamed 3 = .ok (.aload_n 0, 1) := by decide +kernel
theorem dX8_houseNamed_4 : decode cX8_houseNamed 4 = .ok (.getfield 22, 3) := by decide +kernel
theorem dX8_houseNamed_7 : decode cX8_houseNamed 7 = .ok (.getfield 84, 3) := by decide +kernel
theorem dX8_houseNamed_10 : decode cX8_houseNamed 10 = .ok (.if_icmp .ge 28, 3) := by decide +kernel
theorem dX8_houseNamed_13 : decode cX8_houseNamed 13 = .ok (.aload_n 0, 1) := by decide +kernel
theorem dX8_houseNamed_14 : decode cX8_houseNamed 14 = .ok (.getfield 18, 3) := by decide +kernel
theorem dX8_houseNamed_17 : decode cX8_houseNamed 17 = .ok (.aload_n 0, 1) := by decide +kernel
theorem dX8_houseNamed_18 : decode cX8_houseNamed 18 = .ok (.getfield 9, 3) := by decide +kernel
theorem dX8_houseNamed_21 : decode cX8_houseNamed 21 = .ok (.iload_n 2, 1) := by decide +kernel
theorem dX8_houseNamed_22 : decode cX8_houseNamed 22 = .ok (.iaload, 1) := by decide +kernel
theorem dX8_houseNamed_23 : decode cX8_houseNamed 23 = .ok (.iload_n 1, 1) := by decide +kernel
theorem dX8_houseNamed_24 : decode cX8_houseNamed 24 = .ok (.invokevirtual 111, 3) := by decide +kernel
theorem dX8_houseNamed_27 : decode cX8_houseNamed 27 = .ok (.ifCond .eq 5, 3) := by decide +kernel
theorem dX8_houseNamed_30 : decode cX8_houseNamed 30 = .ok (.iload_n 2, 1) := by decide +kernel
theorem dX8_houseNamed_31 : decode cX8_houseNamed 31 = .ok (.ireturn, 1) := by decide +kernel
theorem dX8_houseNamed_32 : decode cX8_houseNamed 32 = .ok (.iinc 2 1, 3) := by decide +kernel
theorem dX8_houseNamed_35 : decode cX8_houseNamed 35 = .ok (.goto (-33), 3) := by decide +kernel
theorem dX8_houseNamed_38 : decode cX8_houseNamed 38 = .ok (.iconst (-1), 1) := by decide +kernel
theorem dX8_houseNamed_39 : decode cX8_houseNamed 39 = .ok (.ireturn, 1) := by decide +kernel
theorem dX8_knownHouse_0 : decode cX8_knownHouse 0 = .ok (.aload_n 0, 1) := by decide +kernel
theorem dX8_knownHouse_1 : decode cX8_knownHouse 1 = .ok (.iload_n 1, 1) := by decide +kernel
theorem dX8_knownHouse_2 : decode cX8_knownHouse 2 = .ok (.invokevirtual 105, 3) := by decide +kernel
theorem dX8_knownHouse_5 : decode cX8_knownHouse 5 = .ok (.istore_n 2, 1) := by decide +kernel
theorem dX8_knownHouse_6 : decode cX8_knownHouse 6 = .ok (.iload_n 2, 1) := by decide +kernel
theorem dX8_knownHouse_7 : decode cX8_knownHouse 7 = .ok (.iconst (-1), 1) := by decide +kernel
theorem dX8_knownHouse_8 : decode cX8_knownHouse 8 = .ok (.if_icmp .ne 9, 3) := by decide +kernel
theorem dX8_knownHouse_11 : decode cX8_knownHouse 11 = .ok (.aload_n 0, 1) := by decide +kernel
theorem dX8_knownHouse_12 : decode cX8_knownHouse 12 = .ok (.iconst 4, 1) := by decide +kernel
theorem dX8_knownHouse_13 : decode cX8_knownHouse 13 = .ok (.iload_n 1, 1) := by decide +kernel
theorem dX8_knownHouse_14 : decode cX8_knownHouse 14 = .ok (.invokevirtual 80, 3) := by decide +kernel
theorem dX8_knownHouse_17 : decode cX8_knownHouse 17 = .ok (.iload_n 2, 1) := by decide +kernel
theorem dX8_knownHouse_18 : decode cX8_knownHouse 18 = .ok (.ireturn, 1) := by decide +kernel
theorem dX8_fillHearing_0 : decode cX8_fillHearing 0 = .ok (.aload_n 0, 1) := by decide +kernel
theorem dX8_fillHearing_1 : decode cX8_fillHearing 1 = .ok (.aload_n 0, 1) := by decide +kernel
theorem dX8_fillHearing_2 : decode cX8_fillHearing 2 = .ok (.getfield 26, 3) := by decide +kernel
theorem dX8_fillHearing_5 : decode cX8_fillHearing 5 = .ok (.iconst 1, 1) := by decide +kernel
theorem dX8_fillHearing_6 : decode cX8_fillHearing 6 = .ok (.iadd, 1) := by decide +kernel
theorem dX8_fillHearing_7 : decode cX8_fillHearing 7 = .ok (.invokevirtual 115, 3) := by decide +kernel
theorem dX8_fillHearing_10 : decode cX8_fillHearing 10 = .ok (.istore_n 1, 1) := by decide +kernel
theorem dX8_fillHearing_11 : decode cX8_fillHearing 11 = .ok (.aload_n 0, 1) := by decide +kernel
theorem dX8_fillHearing_12 : decode cX8_fillHearing 12 = .ok (.aload_n 0, 1) := by decide +kernel
theorem dX8_fillHearing_13 : decode cX8_fillHearing 13 = .ok (.getfield 26, 3) := by decide +kernel
theorem dX8_fillHearing_16 : decode cX8_fillHearing 16 = .ok (.iconst 2, 1) := by decide +kernel
theorem dX8_fillHearing_17 : decode cX8_fillHearing 17 = .ok (.iadd, 1) := by decide +kernel
theorem dX8_fillHearing_18 : decode cX8_fillHearing 18 = .ok (.invokevirtual 115, 3) := by decide +kernel
theorem dX8_fillHearing_21 : decode cX8_fillHearing 21 = .ok (.istore_n 2, 1) := by decide +kernel
theorem dX8_fillHearing_22 : decode cX8_fillHearing 22 = .ok (.iload_n 1, 1) := by decide +kernel
theorem dX8_fillHearing_23 : decode cX8_fillHearing 23 = .ok (.iconst (-1), 1) := by decide +kernel
theorem dX8_fillHearing_24 : decode cX8_fillHearing 24 = .ok (.if_icmp .eq 8, 3) := by decide +kernel
theorem dX8_fillHearing_27 : decode cX8_fillHearing 27 = .ok (.iload_n 2, 1) := by decide +kernel
theorem dX8_fillHearing_28 : decode cX8_fillHearing 28 = .ok (.iconst (-1), 1) := by decide +kernel
theorem dX8_fillHearing_29 : decode cX8_fillHearing 29 = .ok (.if_icmp .ne 4, 3) := by decide +kernel
theorem dX8_fillHearing_32 : decode cX8_fillHearing 32 = .ok (.return_, 1) := by decide +kernel
theorem dX8_fillHearing_33 : decode cX8_fillHearing 33 = .ok (.iconst 1, 1) := by decide +kernel
theorem dX8_fillHearing_34 : decode cX8_fillHearing 34 = .ok (.iload_n 2, 1) := by decide +kernel
theorem dX8_fillHearing_35 : decode cX8_fillHearing 35 = .ok (.ishl, 1) := by decide +kernel
theorem dX8_fillHearing_36 : decode cX8_fillHearing 36 = .ok (.istore_n 3, 1) := by decide +kernel
theorem dX8_fillHearing_37 : decode cX8_fillHearing 37 = .ok (.iload_n 1, 1) := by decide +kernel
theorem dX8_fillHearing_38 : decode cX8_fillHearing 38 = .ok (.iload_n 2, 1) := by decide +kernel
theorem dX8_fillHearing_39 : decode cX8_fillHearing 39 = .ok (.if_icmp .eq 17, 3) := by decide +kernel
theorem dX8_fillHearing_42 : decode cX8_fillHearing 42 = .ok (.aload_n 0, 1) := by decide +kernel
theorem dX8_fillHearing_43 : decode cX8_fillHearing 43 = .ok (.getfield 22, 3) := by decide +kernel
theorem dX8_fillHearing_46 : decode cX8_fillHearing 46 = .ok (.getfield 102, 3) := by decide +kernel
theorem dX8_fillHearing_49 : decode cX8_fillHearing 49 = .ok (.iload_n 1, 1) := by decide +kernel
theorem dX8_fillHearing_50 : decode cX8_fillHearing 50 = .ok (.iaload, 1) := by decide +kernel
theorem dX8_fillHearing_51 : decode cX8_fillHearing 51 = .ok (.iload_n 3, 1) := by decide +kernel
theorem dX8_fillHearing_52 : decode cX8_fillHearing 52 = .ok (.iand, 1) := by decide +kernel
theorem dX8_fillHearing_53 : decode cX8_fillHearing 53 = .ok (.ifCond .eq 14, 3) := by decide +kernel
theorem dX8_fillHearing_56 : decode cX8_fillHearing 56 = .ok (.aload_n 0, 1) := by decide +kernel
theorem dX8_fillHearing_57 : decode cX8_fillHearing 57 = .ok (.iconst 3, 1) := by decide +kernel
theorem dX8_fillHearing_58 : decode cX8_fillHearing 58 = .ok (.aload_n 0, 1) := by decide +kernel
theorem dX8_fillHearing_59 : decode cX8_fillHearing 59 = .ok (.getfield 26, 3) := by decide +kernel
theorem dX8_fillHearing_62 : decode cX8_fillHearing 62 = .ok (.iconst 2, 1) := by decide +kernel
theorem dX8_fillHearing_63 : decode cX8_fillHearing 63 = .ok (.iadd, 1) := by decide +kernel
theorem dX8_fillHearing_64 : decode cX8_fillHearing 64 = .ok (.invokevirtual 80, 3) := by decide +kernel
theorem dX8_fillHearing_67 : decode cX8_fillHearing 67 = .ok (.aload_n 0, 1) := by decide +kernel
theorem dX8_fillHearing_68 : decode cX8_fillHearing 68 = .ok (.getfield 22, 3) := by decide +kernel
theorem dX8_fillHearing_71 : decode cX8_fillHearing 71 = .ok (.getfield 102, 3) := by decide +kernel
theorem dX8_fillHearing_74 : decode cX8_fillHearing 74 = .ok (.iload_n 1, 1) := by decide +kernel
theorem dX8_fillHearing_75 : decode cX8_fillHearing 75 = .ok (.dup2, 1) := by decide +kernel
theorem dX8_fillHearing_76 : decode cX8_fillHearing 76 = .ok (.iaload, 1) := by decide +kernel
theorem dX8_fillHearing_77 : decode cX8_fillHearing 77 = .ok (.iload_n 3, 1) := by decide +kernel
theorem dX8_fillHearing_78 : decode cX8_fillHearing 78 = .ok (.ior, 1) := by decide +kernel
theorem dX8_fillHearing_79 : decode cX8_fillHearing 79 = .ok (.iastore, 1) := by decide +kernel
theorem dX8_fillHearing_80 : decode cX8_fillHearing 80 = .ok (.aload_n 0, 1) := by decide +kernel
theorem dX8_fillHearing_81 : decode cX8_fillHearing 81 = .ok (.getfield 22, 3) := by decide +kernel
theorem dX8_fillHearing_84 : decode cX8_fillHearing 84 = .ok (.dup, 1) := by decide +kernel
theorem dX8_fillHearing_85 : decode cX8_fillHearing 85 = .ok (.getfield 118, 3) := by decide +kernel
theorem dX8_fillHearing_88 : decode cX8_fillHearing 88 = .ok (.iconst 1, 1) := by decide +kernel
theorem dX8_fillHearing_89 : decode cX8_fillHearing 89 = .ok (.iadd, 1) := by decide +kernel
theorem dX8_fillHearing_90 : decode cX8_fillHearing 90 = .ok (.putfield 118, 3) := by decide +kernel
theorem dX8_fillHearing_93 : decode cX8_fillHearing 93 = .ok (.return_, 1) := by decide +kernel
theorem dX8_fillMotion_0 : decode cX8_fillMotion 0 = .ok (.aload_n 0, 1) := by decide +kernel
theorem dX8_fillMotion_1 : decode cX8_fillMotion 1 = .ok (.getfield 22, 3) := by decide +kernel
theorem dX8_fillMotion_4 : decode cX8_fillMotion 4 = .ok (.getfield 108, 3) := by decide +kernel
theorem dX8_fillMotion_7 : decode cX8_fillMotion 7 = .ok (.istore_n 1, 1) := by decide +kernel
theorem dX8_fillMotion_8 : decode cX8_fillMotion 8 = .ok (.iload_n 1, 1) := by decide +kernel
theorem dX8_fillMotion_9 : decode cX8_fillMotion 9 = .ok (.iconst 5, 1) := by decide +kernel
theorem dX8_fillMotion_10 : decode cX8_fillMotion 10 = .ok (.if_icmp .lt 4, 3) := by decide +kernel
theorem dX8_fillMotion_13 : decode cX8_fillMotion 13 = .ok (.return_, 1) := by decide +kernel
theorem dX8_fillMotion_14 : decode cX8_fillMotion 14 = .ok (.aload_n 0, 1) := by decide +kernel
theorem dX8_fillMotion_15 : decode cX8_fillMotion 15 = .ok (.aload_n 0, 1) := by decide +kernel
theorem dX8_fillMotion_16 : decode cX8_fillMotion 16 = .ok (.getfield 26, 3) := by decide +kernel
theorem dX8_fillMotion_19 : decode cX8_fillMotion 19 = .ok (.iconst 1, 1) := by decide +kernel
theorem dX8_fillMotion_20 : decode cX8_fillMotion 20 = .ok (.iadd, 1) := by decide +kernel
theorem dX8_fillMotion_21 : decode cX8_fillMotion 21 = .ok (.invokevirtual 87, 3) := by decide +kernel
theorem dX8_fillMotion_24 : decode cX8_fillMotion 24 = .ok (.aload_n 0, 1) := by decide +kernel
theorem dX8_fillMotion_25 : decode cX8_fillMotion 25 = .ok (.getfield 15, 3) := by decide +kernel
theorem dX8_fillMotion_28 : decode cX8_fillMotion 28 = .ok (.iload_n 1, 1) := by decide +kernel
theorem dX8_fillMotion_29 : decode cX8_fillMotion 29 = .ok (.aload_n 0, 1) := by decide +kernel
theorem dX8_fillMotion_30 : decode cX8_fillMotion 30 = .ok (.getfield 26, 3) := by decide +kernel
theorem dX8_fillMotion_33 : decode cX8_fillMotion 33 = .ok (.iconst 1, 1) := by decide +kernel
theorem dX8_fillMotion_34 : decode cX8_fillMotion 34 = .ok (.iadd, 1) := by decide +kernel
theorem dX8_fillMotion_35 : decode cX8_fillMotion 35 = .ok (.iastore, 1) := by decide +kernel
theorem dX8_fillMotion_36 : decode cX8_fillMotion 36 = .ok (.aload_n 0, 1) := by decide +kernel
theorem dX8_fillMotion_37 : decode cX8_fillMotion 37 = .ok (.getfield 22, 3) := by decide +kernel
theorem dX8_fillMotion_40 : decode cX8_fillMotion 40 = .ok (.iload_n 1, 1) := by decide +kernel
theorem dX8_fillMotion_41 : decode cX8_fillMotion 41 = .ok (.iconst 1, 1) := by decide +kernel
theorem dX8_fillMotion_42 : decode cX8_fillMotion 42 = .ok (.iadd, 1) := by decide +kernel
theorem dX8_fillMotion_43 : decode cX8_fillMotion 43 = .ok (.putfield 108, 3) := by decide +kernel
theorem dX8_fillMotion_46 : decode cX8_fillMotion 46 = .ok (.aload_n 0, 1) := by decide +kernel
theorem dX8_fillMotion_47 : decode cX8_fillMotion 47 = .ok (.getfield 22, 3) := by decide +kernel
theorem dX8_fillMotion_50 : decode cX8_fillMotion 50 = .ok (.getfield 121, 3) := by decide +kernel
theorem dX8_fillMotion_53 : decode cX8_fillMotion 53 = .ok (.iload_n 1, 1) := by decide +kernel
theorem dX8_fillMotion_54 : decode cX8_fillMotion 54 = .ok (.iconst 0, 1) := by decide +kernel
theorem dX8_fillMotion_55 : decode cX8_fillMotion 55 = .ok (.iastore, 1) := by decide +kernel
theorem dX8_fillMotion_56 : decode cX8_fillMotion 56 = .ok (.aload_n 0, 1) := by decide +kernel
theorem dX8_fillMotion_57 : decode cX8_fillMotion 57 = .ok (.getfield 26, 3) := by decide +kernel
theorem dX8_fillMotion_60 : decode cX8_fillMotion 60 = .ok (.iconst 2, 1) := by decide +kernel
theorem dX8_fillMotion_61 : decode cX8_fillMotion 61 = .ok (.iadd, 1) := by decide +kernel
theorem dX8_fillMotion_62 : decode cX8_fillMotion 62 = .ok (.istore_n 2, 1) := by decide +kernel
theorem dX8_fillMotion_63 : decode cX8_fillMotion 63 = .ok (.iload_n 2, 1) := by decide +kernel
theorem dX8_fillMotion_64 : decode cX8_fillMotion 64 = .ok (.sipush 400, 3) := by decide +kernel
theorem dX8_fillMotion_67 : decode cX8_fillMotion 67 = .ok (.if_icmp .gt 30, 3) := by decide +kernel
theorem dX8_fillMotion_70 : decode cX8_fillMotion 70 = .ok (.aload_n 0, 1) := by decide +kernel
theorem dX8_fillMotion_71 : decode cX8_fillMotion 71 = .ok (.getfield 30, 3) := by decide +kernel
theorem dX8_fillMotion_74 : decode cX8_fillMotion 74 = .ok (.ifCond .ne 23, 3) := by decide +kernel
theorem dX8_fillMotion_77 : decode cX8_fillMotion 77 = .ok (.aload_n 0, 1) := by decide +kernel
theorem dX8_fillMotion_78 : decode cX8_fillMotion 78 = .ok (.iload_n 2, 1) := by decide +kernel
theorem dX8_fillMotion_79 : decode cX8_fillMotion 79 = .ok (.invokevirtual 58, 3) := by decide +kernel
theorem dX8_fillMotion_82 : decode cX8_fillMotion 82 = .ok (.ifCond .ne 15, 3) := by decide +kernel
theorem dX8_fillMotion_85 : decode cX8_fillMotion 85 = .ok (.aload_n 0, 1) := by decide +kernel
theorem dX8_fillMotion_86 : decode cX8_fillMotion 86 = .ok (.iload_n 1, 1) := by decide +kernel
theorem dX8_fillMotion_87 : decode cX8_fillMotion 87 = .ok (.iload_n 2, 1) := by decide +kernel
theorem dX8_fillMotion_88 : decode cX8_fillMotion 88 = .ok (.invokevirtual 124, 3) := by decide +kernel
theorem dX8_fillMotion_91 : decode cX8_fillMotion 91 = .ok (.iinc 2 1, 3) := by decide +kernel
theorem dX8_fillMotion_94 : decode cX8_fillMotion 94 = .ok (.goto (-31), 3) := by decide +kernel
theorem dX8_fillMotion_97 : decode cX8_fillMotion 97 = .ok (.return_, 1) := by decide +kernel
theorem dX8_addSupporter_0 : decode cX8_addSupporter 0 = .ok (.aload_n 0, 1) := by decide +kernel
theorem dX8_addSupporter_1 : decode cX8_addSupporter 1 = .ok (.iload_n 2, 1) := by decide +kernel
theorem dX8_addSupporter_2 : decode cX8_addSupporter 2 = .ok (.invokevirtual 115, 3) := by decide +kernel
theorem dX8_addSupporter_5 : decode cX8_addSupporter 5 = .ok (.istore_n 3, 1) := by decide +kernel
theorem dX8_addSupporter_6 : decode cX8_addSupporter 6 = .ok (.iload_n 3, 1) := by decide +kernel
theorem dX8_addSupporter_7 : decode cX8_addSupporter 7 = .ok (.iconst (-1), 1) := by decide +kernel
theorem dX8_addSupporter_8 : decode cX8_addSupporter 8 = .ok (.if_icmp .ne 4, 3) := by decide +kernel
theorem dX8_addSupporter_11 : decode cX8_addSupporter 11 = .ok (.return_, 1) := by decide +kernel
theorem dX8_addSupporter_12 : decode cX8_addSupporter 12 = .ok (.iconst 1, 1) := by decide +kernel
theorem dX8_addSupporter_13 : decode cX8_addSupporter 13 = .ok (.iload_n 3, 1) := by decide +kernel
theorem dX8_addSupporter_14 : decode cX8_addSupporter 14 = .ok (.ishl, 1) := by decide +kernel
theorem dX8_addSupporter_15 : decode cX8_addSupporter 15 = .ok (.istore 4, 2) := by decide +kernel
theorem dX8_addSupporter_17 : decode cX8_addSupporter 17 = .ok (.aload_n 0, 1) := by decide +kernel
theorem dX8_addSupporter_18 : decode cX8_addSupporter 18 = .ok (.getfield 22, 3) := by decide +kernel
theorem dX8_addSupporter_21 : decode cX8_addSupporter 21 = .ok (.getfield 121, 3) := by decide +kernel
theorem dX8_addSupporter_24 : decode cX8_addSupporter 24 = .ok (.iload_n 1, 1) := by decide +kernel
theorem dX8_addSupporter_25 : decode cX8_addSupporter 25 = .ok (.iaload, 1) := by decide +kernel
theorem dX8_addSupporter_26 : decode cX8_addSupporter 26 = .ok (.iload 4, 2) := by decide +kernel
theorem dX8_addSupporter_28 : decode cX8_addSupporter 28 = .ok (.iand, 1) := by decide +kernel
theorem dX8_addSupporter_29 : decode cX8_addSupporter 29 = .ok (.ifCond .eq 9, 3) := by decide +kernel
theorem dX8_addSupporter_32 : decode cX8_addSupporter 32 = .ok (.aload_n 0, 1) := by decide +kernel
theorem dX8_addSupporter_33 : decode cX8_addSupporter 33 = .ok (.iconst 3, 1) := by decide +kernel
theorem dX8_addSupporter_34 : decode cX8_addSupporter 34 = .ok (.iload_n 2, 1) := by decide +kernel
theorem dX8_addSupporter_35 : decode cX8_addSupporter 35 = .ok (.invokevirtual 80, 3) := by decide +kernel
theorem dX8_addSupporter_38 : decode cX8_addSupporter 38 = .ok (.aload_n 0, 1) := by decide +kernel
theorem dX8_addSupporter_39 : decode cX8_addSupporter 39 = .ok (.getfield 22, 3) := by decide +kernel
theorem dX8_addSupporter_42 : decode cX8_addSupporter 42 = .ok (.getfield 121, 3) := by decide +kernel
theorem dX8_addSupporter_45 : decode cX8_addSupporter 45 = .ok (.iload_n 1, 1) := by decide +kernel
theorem dX8_addSupporter_46 : decode cX8_addSupporter 46 = .ok (.dup2, 1) := by decide +kernel
theorem dX8_addSupporter_47 : decode cX8_addSupporter 47 = .ok (.iaload, 1) := by decide +kernel
theorem dX8_addSupporter_48 : decode cX8_addSupporter 48 = .ok (.iload 4, 2) := by decide +kernel
theorem dX8_addSupporter_50 : decode cX8_addSupporter 50 = .ok (.ior, 1) := by decide +kernel
theorem dX8_addSupporter_51 : decode cX8_addSupporter 51 = .ok (.iastore, 1) := by decide +kernel
theorem dX8_addSupporter_52 : decode cX8_addSupporter 52 = .ok (.return_, 1) := by decide +kernel
theorem dX9_init_0 : decode cX9_init 0 = .ok (.aload_n 0, 1) := by decide +kernel
theorem dX9_init_1 : decode cX9_init 1 = .ok (.invokespecial 1, 3) := by decide +kernel
theorem dX9_init_4 : decode cX9_init 4 = .ok (.aload_n 0, 1) := by decide +kernel
theorem dX9_init_5 : decode cX9_init 5 = .ok (.sipush 401, 3) := by decide +kernel
theorem dX9_init_8 : decode cX9_init 8 = .ok (.newarray .int, 2) := by decide +kernel
theorem dX9_init_10 : decode cX9_init 10 = .ok (.putfield 9, 3) := by decide +kernel
theorem dX9_init_13 : decode cX9_init 13 = .ok (.aload_n 0, 1) := by decide +kernel
theorem dX9_init_14 : decode cX9_init 14 = .ok (.sipush 401, 3) := by decide +kernel
theorem dX9_init_17 : decode cX9_init 17 = .ok (.newarray .int, 2) := by decide +kernel
theorem dX9_init_19 : decode cX9_init 19 = .ok (.putfield 13, 3) := by decide +kernel
theorem dX9_init_22 : decode cX9_init 22 = .ok (.aload_n 0, 1) := by decide +kernel
theorem dX9_init_23 : decode cX9_init 23 = .ok (.sipush 401, 3) := by decide +kernel
theorem dX9_init_26 : decode cX9_init 26 = .ok (.newarray .int, 2) := by decide +kernel
theorem dX9_init_28 : decode cX9_init 28 = .ok (.putfield 16, 3) := by decide +kernel
theorem dX9_init_31 : decode cX9_init 31 = .ok (.aload_n 0, 1) := by decide +kernel
theorem dX9_init_32 : decode cX9_init 32 = .ok (.aload_n 1, 1) := by decide +kernel
theorem dX9_init_33 : decode cX9_init 33 = .ok (.putfield 19, 3) := by decide +kernel
theorem dX9_init_36 : decode cX9_init 36 = .ok (.return_, 1) := by decide +kernel
theorem dX9_kind_0 : decode cX9_kind 0 = .ok (.iload_n 1, 1) := by decide +kernel
theorem dX9_kind_1 : decode cX9_kind 1 = .ok (.ifCond .lt 20, 3) := by decide +kernel
theorem dX9_kind_4 : decode cX9_kind 4 = .ok (.iload_n 1, 1) := by decide +kernel
theorem dX9_kind_5 : decode cX9_kind 5 = .ok (.aload_n 0, 1) := by decide +kernel
theorem dX9_kind_6 : decode cX9_kind 6 = .ok (.getfield 23, 3) := by decide +kernel
theorem dX9_kind_9 : decode cX9_kind 9 = .ok (.if_icmp .ge 12, 3) := by decide +kernel
theorem dX9_kind_12 : decode cX9_kind 12 = .ok (.aload_n 0, 1) := by decide +kernel
theorem dX9_kind_13 : decode cX9_kind 13 = .ok (.getfield 9, 3) := by decide +kernel
theorem dX9_kind_16 : decode cX9_kind 16 = .ok (.iload_n 1, 1) := by decide +kernel
theorem dX9_kind_17 : decode cX9_kind 17 = .ok (.iaload, 1) := by decide +kernel
theorem dX9_kind_18 : decode cX9_kind 18 = .ok (.goto 5, 3) := by decide +kernel
theorem dX9_kind_21 : decode cX9_kind 21 = .ok (.bipush 25, 2) := by decide +kernel
theorem dX9_kind_23 : decode cX9_kind 23 = .ok (.ireturn, 1) := by decide +kernel
theorem dX9_placeOf_0 : decode cX9_placeOf 0 = .ok (.iload_n 1, 1) := by decide +kernel
theorem dX9_placeOf_1 : decode cX9_placeOf 1 = .ok (.ifCond .lt 20, 3) := by decide +kernel
theorem dX9_placeOf_4 : decode cX9_placeOf 4 = .ok (.iload_n 1, 1) := by decide +kernel
theorem dX9_placeOf_5 : decode cX9_placeOf 5 = .ok (.aload_n 0, 1) := by decide +kernel
theorem dX9_placeOf_6 : decode cX9_placeOf 6 = .ok (.getfield 23, 3) := by decide +kernel
theorem dX9_placeOf_9 : decode cX9_placeOf 9 = .ok (.if_icmp .ge 12, 3) := by decide +kernel
theorem dX9_placeOf_12 : decode cX9_placeOf 12 = .ok (.aload_n 0, 1) := by decide +kernel
theorem dX9_placeOf_13 : decode cX9_placeOf 13 = .ok (.getfield 13, 3) := by decide +kernel
theorem dX9_placeOf_16 : decode cX9_placeOf 16 = .ok (.iload_n 1, 1) := by decide +kernel
theorem dX9_placeOf_17 : decode cX9_placeOf 17 = .ok (.iaload, 1) := by decide +kernel
theorem dX9_placeOf_18 : decode cX9_placeOf 18 = .ok (.goto 7, 3) := by decide +kernel
theorem dX9_placeOf_21 : decode cX9_placeOf 21 = .ok (.aload_n 0, 1) := by decide +kernel
theorem dX9_placeOf_22 : decode cX9_placeOf 22 = .ok (.getfield 27, 3) := by decide +kernel
theorem dX9_placeOf_25 : decode cX9_placeOf 25 = .ok (.ireturn, 1) := by decide +kernel
theorem dX9_value_0 : decode cX9_value 0 = .ok (.iload_n 1, 1) := by decide +kernel
theorem dX9_value_1 : decode cX9_value 1 = .ok (.ifCond .lt 20, 3) := by decide +kernel
theorem dX9_value_4 : decode cX9_value 4 = .ok (.iload_n 1, 1) := by decide +kernel
theorem dX9_value_5 : decode cX9_value 5 = .ok (.aload_n 0, 1) := by decide +kernel
theorem dX9_value_6 : decode cX9_value 6 = .ok (.getfield 23, 3) := by decide +kernel
theorem dX9_value_9 : decode cX9_value 9 = .ok (.if_icmp .ge 12, 3) := by decide +kernel
theorem dX9_value_12 : decode cX9_value 12 = .ok (.aload_n 0, 1) := by decide +kernel
theorem dX9_value_13 : decode cX9_value 13 = .ok (.getfield 16, 3) := by decide +kernel
theorem dX9_value_16 : decode cX9_value 16 = .ok (.iload_n 1, 1) := by decide +kernel
theorem dX9_value_17 : decode cX9_value 17 = .ok (.iaload, 1) := by decide +kernel
theorem dX9_value_18 : decode cX9_value 18 = .ok (.goto 4, 3) := by decide +kernel
theorem dX9_value_21 : decode cX9_value 21 = .ok (.iconst 0, 1) := by decide +kernel
theorem dX9_value_22 : decode cX9_value 22 = .ok (.ireturn, 1) := by decide +kernel
theorem dX9_scan_0 : decode cX9_scan 0 = .ok (.aload_n 0, 1) := by decide +kernel
theorem dX9_scan_1 : decode cX9_scan 1 = .ok (.aload_n 0, 1) := by decide +kernel
theorem dX9_scan_2 : decode cX9_scan 2 = .ok (.getfield 19, 3) := by decide +kernel
theorem dX9_scan_5 : decode cX9_scan 5 = .ok (.getfield 30, 3) := by decide +kernel
theorem dX9_scan_8 : decode cX9_scan 8 = .ok (.putfield 27, 3) := by decide +kernel
theorem dX9_scan_11 : decode cX9_scan 11 = .ok (.aload_n 0, 1) := by decide +kernel
theorem dX9_scan_12 : decode cX9_scan 12 = .ok (.iconst 0, 1) := by decide +kernel
theorem dX9_scan_13 : decode cX9_scan 13 = .ok (.putfield 23, 3) := by decide +kernel
theorem dX9_scan_16 : decode cX9_scan 16 = .ok (.aload_n 0, 1) := by decide +kernel
theorem dX9_scan_17 : decode cX9_scan 17 = .ok (.iconst 0, 1) := by decide +kernel
theorem dX9_scan_18 : decode cX9_scan 18 = .ok (.putfield 33, 3) := by decide +kernel
theorem dX9_scan_21 : decode cX9_scan 21 = .ok (.iconst 1, 1) := by decide +kernel
theorem dX9_scan_22 : decode cX9_scan 22 = .ok (.istore_n 1, 1) := by decide +kernel
theorem dX9_scan_23 : decode cX9_scan 23 = .ok (.iconst 0, 1) := by decide +kernel
theorem dX9_scan_24 : decode cX9_scan 24 = .ok (.istore_n 2, 1) := by decide +kernel
theorem dX9_scan_25 : decode cX9_scan 25 = .ok (.iload_n 2, 1) := by decide +kernel
theorem dX9_scan_26 : decode cX9_scan 26 = .ok (.sipush 400, 3) := by decide +kernel
theorem dX9_scan_29 : decode cX9_scan 29 = .ok (.if_icmp .gt 41, 3) := by decide +kernel
theorem dX9_scan_32 : decode cX9_scan 32 = .ok (.iload_n 1, 1) := by decide +kernel
theorem dX9_scan_33 : decode cX9_scan 33 = .ok (.ifCond .eq 37, 3) := by decide +kernel
theorem dX9_scan_36 : decode cX9_scan 36 = .ok (.aload_n 0, 1) := by decide +kernel
theorem dX9_scan_37 : decode cX9_scan 37 = .ok (.invokevirtual 36, 3) := by decide +kernel
theorem dX9_scan_40 : decode cX9_scan 40 = .ok (.aload_n 0, 1) := by decide +kernel
theorem dX9_scan_41 : decode cX9_scan 41 = .ok (.getfield 33, 3) := by decide +kernel
theorem dX9_scan_44 : decode cX9_scan 44 = .ok (.aload_n 0, 1) := by decide +kernel
theorem dX9_scan_45 : decode cX9_scan 45 = .ok (.getfield 27, 3) := by decide +kernel
theorem dX9_scan_48 : decode cX9_scan 48 = .ok (.if_icmp .ge 14, 3) := by decide +kernel
theorem dX9_scan_51 : decode cX9_scan 51 = .ok (.aload_n 0, 1) := by decide +kernel
theorem dX9_scan_52 : decode cX9_scan 52 = .ok (.invokevirtual 39, 3) := by decide +kernel
theorem dX9_scan_55 : decode cX9_scan 55 = .ok (.ifCond .eq 7, 3) := by decide +kernel
theorem dX9_scan_58 : decode cX9_scan 58 = .ok (.iconst 1, 1) := by decide +kernel
theorem dX9_scan_59 : decode cX9_scan 59 = .ok (.goto 4, 3) := by decide +kernel
theorem dX9_scan_62 : decode cX9_scan 62 = .ok (.iconst 0, 1) := by decide +kernel
theorem dX9_scan_63 : decode cX9_scan 63 = .ok (.istore_n 1, 1) := by decide +kernel
theorem dX9_scan_64 : decode cX9_scan 64 = .ok (.iinc 2 1, 3) := by decide +kernel
theorem dX9_scan_67 : decode cX9_scan 67 = .ok (.goto (-42), 3) := by decide +kernel
theorem dX9_scan_70 : decode cX9_scan 70 = .ok (.return_, 1) := by decide +kernel
theorem dX9_sameName_0 : decode cX9_sameName 0 = .ok (.aload_n 0, 1) := by decide +kernel
theorem dX9_sameName_1 : decode cX9_sameName 1 = .ok (.iload_n 1, 1) := by decide +kernel
theorem dX9_sameName_2 : decode cX9_sameName 2 = .ok (.invokevirtual 43, 3) := by decide +kernel
theorem dX9_sameName_5 : decode cX9_sameName 5 = .ok (.istore_n 3, 1) := by decide +kernel
theorem dX9_sameName_6 : decode cX9_sameName 6 = .ok (.iload_n 3, 1) := by decide +kernel
theorem dX9_sameName_7 : decode cX9_sameName 7 = .ok (.aload_n 0, 1) := by decide +kernel
theorem dX9_sameName_8 : decode cX9_sameName 8 = .ok (.iload_n 2, 1) := by decide +kernel
theorem dX9_sameName_9 : decode cX9_sameName 9 = .ok (.invokevirtual 43, 3) := by decide +kernel
theorem dX9_sameName_12 : decode cX9_sameName 12 = .ok (.if_icmp .ne 7, 3) := by decide +kernel
theorem dX9_sameName_15 : decode cX9_sameName 15 = .ok (.iconst 1, 1) := by decide +kernel
theorem dX9_sameName_16 : decode cX9_sameName 16 = .ok (.goto 4, 3) := by decide +kernel
theorem dX9_sameName_19 : decode cX9_sameName 19 = .ok (.iconst 0, 1) := by decide +kernel
theorem dX9_sameName_20 : decode cX9_sameName 20 = .ok (.istore 4, 2) := by decide +kernel
theorem dX9_sameName_22 : decode cX9_sameName 22 = .ok (.iconst 0, 1) := by decide +kernel
theorem dX9_sameName_23 : decode cX9_sameName 23 = .ok (.istore 5, 2) := by decide +kernel
theorem dX9_sameName_25 : decode cX9_sameName 25 = .ok (.iload 5, 2) := by decide +kernel
theorem dX9_sameName_27 : decode cX9_sameName 27 = .ok (.iload_n 3, 1) := by decide +kernel
theorem dX9_sameName_28 : decode cX9_sameName 28 = .ok (.if_icmp .ge 54, 3) := by decide +kernel
theorem dX9_sameName_31 : decode cX9_sameName 31 = .ok (.iload 4, 2) := by decide +kernel
theorem dX9_sameName_33 : decode cX9_sameName 33 = .ok (.ifCond .eq 49, 3) := by decide +kernel
theorem dX9_sameName_36 : decode cX9_sameName 36 = .ok (.aload_n 0, 1) := by decide +kernel
theorem dX9_sameName_37 : decode cX9_sameName 37 = .ok (.getfield 19, 3) := by decide +kernel
theorem dX9_sameName_40 : decode cX9_sameName 40 = .ok (.aload_n 0, 1) := by decide +kernel
theorem dX9_sameName_41 : decode cX9_sameName 41 = .ok (.iload_n 1, 1) := by decide +kernel
theorem dX9_sameName_42 : decode cX9_sameName 42 = .ok (.invokevirtual 47, 3) := by decide +kernel
theorem dX9_sameName_45 : decode cX9_sameName 45 = .ok (.iload 5, 2) := by decide +kernel
theorem dX9_sameName_47 : decode cX9_sameName 47 = .ok (.iadd, 1) := by decide +kernel
theorem dX9_sameName_48 : decode cX9_sameName 48 = .ok (.invokevirtual 50, 3) := by decide +kernel
theorem dX9_sameName_51 : decode cX9_sameName 51 = .ok (.aload_n 0, 1) := by decide +kernel
theorem dX9_sameName_52 : decode cX9_sameName 52 = .ok (.getfield 19, 3) := by decide +kernel
theorem dX9_sameName_55 : decode cX9_sameName 55 = .ok (.aload_n 0, 1) := by decide +kernel
theorem dX9_sameName_56 : decode cX9_sameName 56 = .ok (.iload_n 2, 1) := by decide +kernel
theorem dX9_sameName_57 : decode cX9_sameName 57 = .ok (.invokevirtual 47, 3) := by decide +kernel
theorem dX9_sameName_60 : decode cX9_sameName 60 = .ok (.iload 5, 2) := by decide +kernel
theorem dX9_sameName_62 : decode cX9_sameName 62 = .ok (.iadd, 1) := by decide +kernel
theorem dX9_sameName_63 : decode cX9_sameName 63 = .ok (.invokevirtual 50, 3) := by decide +kernel
theorem dX9_sameName_66 : decode cX9_sameName 66 = .ok (.if_icmp .ne 7, 3) := by decide +kernel
theorem dX9_sameName_69 : decode cX9_sameName 69 = .ok (.iconst 1, 1) := by decide +kernel
theorem dX9_sameName_70 : decode cX9_sameName 70 = .ok (.goto 4, 3) := by decide +kernel
theorem dX9_sameName_73 : decode cX9_sameName 73 = .ok (.iconst 0, 1) := by decide +kernel
theorem dX9_sameName_74 : decode cX9_sameName 74 = .ok (.istore 4, 2) := by decide +kernel
theorem dX9_sameName_76 : decode cX9_sameName 76 = .ok (.iinc 5 1, 3) := by decide +kernel
theorem dX9_sameName_79 : decode cX9_sameName 79 = .ok (.goto (-54), 3) := by decide +kernel
theorem dX9_sameName_82 : decode cX9_sameName 82 = .ok (.iload 4, 2) := by decide +kernel
theorem dX9_sameName_84 : decode cX9_sameName 84 = .ok (.ireturn, 1) := by decide +kernel
theorem dX9_skipBlanks_0 : decode cX9_skipBlanks 0 = .ok (.iconst 0, 1) := by decide +kernel
theorem dX9_skipBlanks_1 : decode cX9_skipBlanks 1 = .ok (.istore_n 1, 1) := by decide +kernel
theorem dX9_skipBlanks_2 : decode cX9_skipBlanks 2 = .ok (.iload_n 1, 1) := by decide +kernel
theorem dX9_skipBlanks_3 : decode cX9_skipBlanks 3 = .ok (.sipush 2000, 3) := by decide +kernel
theorem dX9_skipBlanks_6 : decode cX9_skipBlanks 6 = .ok (.if_icmp .ge 36, 3) := by decide +kernel
theorem dX9_skipBlanks_9 : decode cX9_skipBlanks 9 = .ok (.aload_n 0, 1) := by decide +kernel
theorem dX9_skipBlanks_10 : decode cX9_skipBlanks 10 = .ok (.getfield 19, 3) := by decide +kernel
theorem dX9_skipBlanks_13 : decode cX9_skipBlanks 13 = .ok (.aload_n 0, 1) := by decide +kernel
theorem dX9_skipBlanks_14 : decode cX9_skipBlanks 14 = .ok (.getfield 33, 3) := by decide +kernel
theorem dX9_skipBlanks_17 : decode cX9_skipBlanks 17 = .ok (.invokevirtual 50, 3) := by decide +kernel
theorem dX9_skipBlanks_20 : decode cX9_skipBlanks 20 = .ok (.invokestatic 53, 3) := by decide +kernel
theorem dX9_skipBlanks_23 : decode cX9_skipBlanks 23 = .ok (.ifCond .eq 19, 3) := by decide +kernel
theorem dX9_skipBlanks_26 : decode cX9_skipBlanks 26 = .ok (.aload_n 0, 1) := by decide +kernel
theorem dX9_skipBlanks_27 : decode cX9_skipBlanks 27 = .ok (.dup, 1) := by decide +kernel
theorem dX9_skipBlanks_28 : decode cX9_skipBlanks 28 = .ok (.getfield 33, 3) := by decide +kernel
theorem dX9_skipBlanks_31 : decode cX9_skipBlanks 31 = .ok (.iconst 1, 1) := by decide +kernel
theorem dX9_skipBlanks_32 : decode cX9_skipBlanks 32 = .ok (.iadd, 1) := by decide +kernel
theorem dX9_skipBlanks_33 : decode cX9_skipBlanks 33 = .ok (.putfield 33, 3) := by decide +kernel
theorem dX9_skipBlanks_36 : decode cX9_skipBlanks 36 = .ok (.iinc 1 1, 3) := by decide +kernel
theorem dX9_skipBlanks_39 : decode cX9_skipBlanks 39 = .ok (.goto (-37), 3) := by decide +kernel
theorem dX9_skipBlanks_42 : decode cX9_skipBlanks 42 = .ok (.return_, 1) := by decide +kernel
theorem dX9_scanOne_0 : decode cX9_scanOne 0 = .ok (.aload_n 0, 1) := by decide +kernel
theorem dX9_scanOne_1 : decode cX9_scanOne 1 = .ok (.getfield 19, 3) := by decide +kernel
theorem dX9_scanOne_4 : decode cX9_scanOne 4 = .ok (.aload_n 0, 1) := by decide +kernel
theorem dX9_scanOne_5 : decode cX9_scanOne 5 = .ok (.getfield 33, 3) := by decide +kernel
theorem dX9_scanOne_8 : decode cX9_scanOne 8 = .ok (.invokevirtual 50, 3) := by decide +kernel
theorem dX9_scanOne_11 : decode cX9_scanOne 11 = .ok (.istore_n 1, 1) := by decide +kernel
theorem dX9_scanOne_12 : decode cX9_scanOne 12 = .ok (.iconst 0, 1) := by decide +kernel
theorem dX9_scanOne_13 : decode cX9_scanOne 13 = .ok (.istore_n 3, 1) := by decide +kernel
theorem dX9_scanOne_14 : decode cX9_scanOne 14 = .ok (.iconst 1, 1) := by decide +kernel
theorem dX9_scanOne_15 : decode cX9_scanOne 15 = .ok (.istore 4, 2) := by decide +kernel
theorem dX9_scanOne_17 : decode cX9_scanOne 17 = .ok (.iload_n 1, 1) := by decide +kernel
theorem dX9_scanOne_18 : decode cX9_scanOne 18 = .ok (.invokestatic 57, 3) := by decide +kernel
theorem dX9_scanOne_21 : decode cX9_scanOne 21 = .ok (.ifCond .eq 34, 3) := by decide +kernel
theorem dX9_scanOne_24 : decode cX9_scanOne 24 = .ok (.aload_n 0, 1) := by decide +kernel
theorem dX9_scanOne_25 : decode cX9_scanOne 25 = .ok (.invokevirtual 60, 3) := by decide +kernel
theorem dX9_scanOne_28 : decode cX9_scanOne 28 = .ok (.istore 4, 2) := by decide +kernel
theorem dX9_scanOne_30 : decode cX9_scanOne 30 = .ok (.iload 4, 2) := by decide +kernel
theorem dX9_scanOne_32 : decode cX9_scanOne 32 = .ok (.istore_n 3, 1) := by decide +kernel
theorem dX9_scanOne_33 : decode cX9_scanOne 33 = .ok (.iload 4, 2) := by decide +kernel
theorem dX9_scanOne_35 : decode cX9_scanOne 35 = .ok (.bipush 8, 2) := by decide +kernel
theorem dX9_scanOne_37 : decode cX9_scanOne 37 = .ok (.if_icmp .le 8, 3) := by decide +kernel
theorem dX9_scanOne_40 : decode cX9_scanOne 40 = .ok (.bipush 26, 2) := by decide +kernel
theorem dX9_scanOne_42 : decode cX9_scanOne 42 = .ok (.goto 9, 3) := by decide +kernel
theorem dX9_scanOne_45 : decode cX9_scanOne 45 = .ok (.aload_n 0, 1) := by decide +kernel
theorem dX9_scanOne_46 : decode cX9_scanOne 46 = .ok (.iload 4, 2) := by decide +kernel
theorem dX9_scanOne_48 : decode cX9_scanOne 48 = .ok (.invokevirtual 64, 3) := by decide +kernel
theorem dX9_scanOne_51 : decode cX9_scanOne 51 = .ok (.istore_n 2, 1) := by decide +kernel
theorem dX9_scanOne_52 : decode cX9_scanOne 52 = .ok (.goto 75, 3) := by decide +kernel
theorem dX9_scanOne_55 : decode cX9_scanOne 55 = .ok (.iload_n 1, 1) := by decide +kernel
theorem dX9_scanOne_56 : decode cX9_scanOne 56 = .ok (.invokestatic 67, 3) := by decide +kernel
theorem dX9_scanOne_59 : decode cX9_scanOne 59 = .ok (.ifCond .eq 43, 3) := by decide +kernel
theorem dX9_scanOne_62 : decode cX9_scanOne 62 = .ok (.aload_n 0, 1) := by decide +kernel
theorem dX9_scanOne_63 : decode cX9_scanOne 63 = .ok (.invokevirtual 70, 3) := by decide +kernel
theorem dX9_scanOne_66 : decode cX9_scanOne 66 = .ok (.istore 4, 2) := by decide +kernel
theorem dX9_scanOne_68 : decode cX9_scanOne 68 = .ok (.iload 4, 2) := by decide +kernel
theorem dX9_scanOne_70 : decode cX9_scanOne 70 = .ok (.iconst 4, 1) := by decide +kernel
theorem dX9_scanOne_71 : decode cX9_scanOne 71 = .ok (.if_icmp .le 8, 3) := by decide +kernel
theorem dX9_scanOne_74 : decode cX9_scanOne 74 = .ok (.bipush 26, 2) := by decide +kernel
theorem dX9_scanOne_76 : decode cX9_scanOne 76 = .ok (.goto 5, 3) := by decide +kernel
theorem dX9_scanOne_79 : decode cX9_scanOne 79 = .ok (.bipush 24, 2) := by decide +kernel
theorem dX9_scanOne_81 : decode cX9_scanOne 81 = .ok (.istore_n 2, 1) := by decide +kernel
theorem dX9_scanOne_82 : decode cX9_scanOne 82 = .ok (.iload 4, 2) := by decide +kernel
theorem dX9_scanOne_84 : decode cX9_scanOne 84 = .ok (.iconst 4, 1) := by decide +kernel
theorem dX9_scanOne_85 : decode cX9_scanOne 85 = .ok (.if_icmp .le 7, 3) := by decide +kernel
theorem dX9_scanOne_88 : decode cX9_scanOne 88 = .ok (.iconst 0, 1) := by decide +kernel
theorem dX9_scanOne_89 : decode cX9_scanOne 89 = .ok (.goto 9, 3) := by decide +kernel
theorem dX9_scanOne_92 : decode cX9_scanOne 92 = .ok (.aload_n 0, 1) := by decide +kernel
theorem dX9_scanOne_93 : decode cX9_scanOne 93 = .ok (.iload 4, 2) := by decide +kernel
theorem dX9_scanOne_95 : decode cX9_scanOne 95 = .ok (.invokevirtual 73, 3) := by decide +kernel
theorem dX9_scanOne_98 : decode cX9_scanOne 98 = .ok (.istore_n 3, 1) := by decide +kernel
theorem dX9_scanOne_99 : decode cX9_scanOne 99 = .ok (.goto 28, 3) := by decide +kernel
theorem dX9_scanOne_102 : decode cX9_scanOne 102 = .ok (.ldc 76, 2) := by decide +kernel
theorem dX9_scanOne_104 : decode cX9_scanOne 104 = .ok (.iload_n 1, 1) := by decide +kernel
theorem dX9_scanOne_105 : decode cX9_scanOne 105 = .ok (.i2c, 1) := by decide +kernel
theorem dX9_scanOne_106 : decode cX9_scanOne 106 = .ok (.invokevirtual 78, 3) := by decide +kernel
theorem dX9_scanOne_109 : decode cX9_scanOne 109 = .ok (.istore 5, 2) := by decide +kernel
theorem dX9_scanOne_111 : decode cX9_scanOne 111 = .ok (.iload 5, 2) := by decide +kernel
theorem dX9_scanOne_113 : decode cX9_scanOne 113 = .ok (.ifCond .ge 8, 3) := by decide +kernel
theorem dX9_scanOne_116 : decode cX9_scanOne 116 = .ok (.bipush 26, 2) := by decide +kernel
theorem dX9_scanOne_118 : decode cX9_scanOne 118 = .ok (.goto 8, 3) := by decide +kernel
theorem dX9_scanOne_121 : decode cX9_scanOne 121 = .ok (.bipush 27, 2) := by decide +kernel
theorem dX9_scanOne_123 : decode cX9_scanOne 123 = .ok (.iload 5, 2) := by decide +kernel
theorem dX9_scanOne_125 : decode cX9_scanOne 125 = .ok (.iadd, 1) := by decide +kernel
theorem dX9_scanOne_126 : decode cX9_scanOne 126 = .ok (.istore_n 2, 1) := by decide +kernel
theorem dX9_scanOne_127 : decode cX9_scanOne 127 = .ok (.aload_n 0, 1) := by decide +kernel
theorem dX9_scanOne_128 : decode cX9_scanOne 128 = .ok (.iload_n 2, 1) := by decide +kernel
theorem dX9_scanOne_129 : decode cX9_scanOne 129 = .ok (.iload_n 3, 1) := by decide +kernel
theorem dX9_scanOne_130 : decode cX9_scanOne 130 = .ok (.invokevirtual 83, 3) := by decide +kernel
theorem dX9_scanOne_133 : decode cX9_scanOne 133 = .ok (.aload_n 0, 1) := by decide +kernel
theorem dX9_scanOne_134 : decode cX9_scanOne 134 = .ok (.dup, 1) := by decide +kernel
theorem dX9_scanOne_135 : decode cX9_scanOne 135 = .ok (.getfield 33, 3) := by decide +kernel
theorem dX9_scanOne_138 : decode cX9_scanOne 138 = .ok (.iload 4, 2) := by decide +kernel
theorem dX9_scanOne_140 : decode cX9_scanOne 140 = .ok (.iadd, 1) := by decide +kernel
theorem dX9_scanOne_141 : decode cX9_scanOne 141 = .ok (.putfield 33, 3) := by decide +kernel
theorem dX9_scanOne_144 : decode cX9_scanOne 144 = .ok (.iload_n 2, 1) := by decide +kernel
theorem dX9_scanOne_145 : decode cX9_scanOne 145 = .ok (.bipush 26, 2) := by decide +kernel
theorem dX9_scanOne_147 : decode cX9_scanOne 147 = .ok (.if_icmp .eq 7, 3) := by decide +kernel
theorem dX9_scanOne_150 : decode cX9_scanOne 150 = .ok (.iconst 1, 1) := by decide +kernel
theorem dX9_scanOne_151 : decode cX9_scanOne 151 = .ok (.goto 4, 3) := by decide +kernel
theorem dX9_scanOne_154 : decode cX9_scanOne 154 = .ok (.iconst 0, 1) := by decide +kernel
theorem dX9_scanOne_155 : decode cX9_scanOne 155 = .ok (.ireturn, 1) := by decide +kernel
theorem dX9_put_0 : decode cX9_put 0 = .ok (.aload_n 0, 1) := by decide +kernel
theorem dX9_put_1 : decode cX9_put 1 = .ok (.getfield 23, 3) := by decide +kernel
theorem dX9_put_4 : decode cX9_put 4 = .ok (.sipush 400, 3) := by decide +kernel
theorem dX9_put_7 : decode cX9_put 7 = .ok (.if_icmp .gt 46, 3) := by decide +kernel
theorem dX9_put_10 : decode cX9_put 10 = .ok (.aload_n 0, 1) := by decide +kernel
theorem dX9_put_11 : decode cX9_put 11 = .ok (.getfield 9, 3) := by decide +kernel
theorem dX9_put_14 : decode cX9_put 14 = .ok (.aload_n 0, 1) := by decide +kernel
theorem dX9_put_15 : decode cX9_put 15 = .ok (.getfield 23, 3) := by decide +kernel
theorem dX9_put_18 : decode cX9_put 18 = .ok (.iload_n 1, 1) := by decide +kernel
theorem dX9_put_19 : decode cX9_put 19 = .ok (.iastore, 1) := by decide +kernel
theorem dX9_put_20 : decode cX9_put 20 = .ok (.aload_n 0, 1) := by decide +kernel
theorem dX9_put_21 : decode cX9_put 21 = .ok (.getfield 13, 3) := by decide +kernel
theorem dX9_put_24 : decode cX9_put 24 = .ok (.aload_n 0, 1) := by decide +kernel
theorem dX9_put_25 : decode cX9_put 25 = .ok (.getfield 23, 3) := by decide +kernel
theorem dX9_put_28 : decode cX9_put 28 = .ok (.aload_n 0, 1) := by decide +kernel
theorem dX9_put_29 : decode cX9_put 29 = .ok (.getfield 33, 3) := by decide +kernel
theorem dX9_put_32 : decode cX9_put 32 = .ok (.iastore, 1) := by decide +kernel
theorem dX9_put_33 : decode cX9_put 33 = .ok (.aload_n 0, 1) := by decide +kernel
theorem dX9_put_34 : decode cX9_put 34 = .ok (.getfield 16, 3) := by decide +kernel
theorem dX9_put_37 : decode cX9_put 37 = .ok (.aload_n 0, 1) := by decide +kernel
theorem dX9_put_38 : decode cX9_put 38 = .ok (.getfield 23, 3) := by decide +kernel
theorem dX9_put_41 : decode cX9_put 41 = .ok (.iload_n 2, 1) := by decide +kernel
theorem dX9_put_42 : decode cX9_put 42 = .ok (.iastore, 1) := by decide +kernel
theorem dX9_put_43 : decode cX9_put 43 = .ok (.aload_n 0, 1) := by decide +kernel
theorem dX9_put_44 : decode cX9_put 44 = .ok (.dup, 1) := by decide +kernel
theorem dX9_put_45 : decode cX9_put 45 = .ok (.getfield 23, 3) := by decide +kernel
theorem dX9_put_48 : decode cX9_put 48 = .ok (.iconst 1, 1) := by decide +kernel
theorem dX9_put_49 : decode cX9_put 49 = .ok (.iadd, 1) := by decide +kernel
theorem dX9_put_50 : decode cX9_put 50 = .ok (.putfield 23, 3) := by decide +kernel
theorem dX9_put_53 : decode cX9_put 53 = .ok (.return_, 1) := by decide +kernel
theorem dX9_letters_0 : decode cX9_letters 0 = .ok (.iconst 0, 1) := by decide +kernel
theorem dX9_letters_1 : decode cX9_letters 1 = .ok (.istore_n 1, 1) := by decide +kernel
theorem dX9_letters_2 : decode cX9_letters 2 = .ok (.iconst 0, 1) := by decide +kernel
theorem dX9_letters_3 : decode cX9_letters 3 = .ok (.istore_n 2, 1) := by decide +kernel
theorem dX9_letters_4 : decode cX9_letters 4 = .ok (.iload_n 2, 1) := by decide +kernel
theorem dX9_letters_5 : decode cX9_letters 5 = .ok (.sipush 2000, 3) := by decide +kernel
theorem dX9_letters_8 : decode cX9_letters 8 = .ok (.if_icmp .ge 31, 3) := by decide +kernel
theorem dX9_letters_11 : decode cX9_letters 11 = .ok (.aload_n 0, 1) := by decide +kernel
theorem dX9_letters_12 : decode cX9_letters 12 = .ok (.getfield 19, 3) := by decide +kernel
theorem dX9_letters_15 : decode cX9_letters 15 = .ok (.aload_n 0, 1) := by decide +kernel
theorem dX9_letters_16 : decode cX9_letters 16 = .ok (.getfield 33, 3) := by decide +kernel
theorem dX9_letters_19 : decode cX9_letters 19 = .ok (.iload_n 2, 1) := by decide +kernel
theorem dX9_letters_20 : decode cX9_letters 20 = .ok (.iadd, 1) := by decide +kernel
theorem dX9_letters_21 : decode cX9_letters 21 = .ok (.invokevirtual 50, 3) := by decide +kernel
theorem dX9_letters_24 : decode cX9_letters 24 = .ok (.invokestatic 57, 3) := by decide +kernel
theorem dX9_letters_27 : decode cX9_letters 27 = .ok (.ifCond .eq 12, 3) := by decide +kernel
theorem dX9_letters_30 : decode cX9_letters 30 = .ok (.iinc 1 1, 3) := by decide +kernel
theorem dX9_letters_33 : decode cX9_letters 33 = .ok (.iinc 2 1, 3) := by decide +kernel
theorem dX9_letters_36 : decode cX9_letters 36 = .ok (.goto (-32), 3) := by decide +kernel
theorem dX9_letters_39 : decode cX9_letters 39 = .ok (.iload_n 1, 1) := by decide +kernel
theorem dX9_letters_40 : decode cX9_letters 40 = .ok (.ireturn, 1) := by decide +kernel
theorem dX9_digits_0 : decode cX9_digits 0 = .ok (.iconst 0, 1) := by decide +kernel
theorem dX9_digits_1 : decode cX9_digits 1 = .ok (.istore_n 1, 1) := by decide +kernel
theorem dX9_digits_2 : decode cX9_digits 2 = .ok (.iconst 0, 1) := by decide +kernel
theorem dX9_digits_3 : decode cX9_digits 3 = .ok (.istore_n 2, 1) := by decide +kernel
theorem dX9_digits_4 : decode cX9_digits 4 = .ok (.iload_n 2, 1) := by decide +kernel
theorem dX9_digits_5 : decode cX9_digits 5 = .ok (.sipush 2000, 3) := by decide +kernel
theorem dX9_digits_8 : decode cX9_digits 8 = .ok (.if_icmp .ge 31, 3) := by decide +kernel
theorem dX9_digits_11 : decode cX9_digits 11 = .ok (.aload_n 0, 1) := by decide +kernel
theorem dX9_digits_12 : decode cX9_digits 12 = .ok (.getfield 19, 3) := by decide +kernel
theorem dX9_digits_15 : decode cX9_digits 15 = .ok (.aload_n 0, 1) := by decide +kernel
theorem dX9_digits_16 : decode cX9_digits 16 = .ok (.getfield 33, 3) := by decide +kernel
theorem dX9_digits_19 : decode cX9_digits 19 = .ok (.iload_n 2, 1) := by decide +kernel
theorem dX9_digits_20 : decode cX9_digits 20 = .ok (.iadd, 1) := by decide +kernel
theorem dX9_digits_21 : decode cX9_digits 21 = .ok (.invokevirtual 50, 3) := by decide +kernel
theorem dX9_digits_24 : decode cX9_digits 24 = .ok (.invokestatic 67, 3) := by decide +kernel
theorem dX9_digits_27 : decode cX9_digits 27 = .ok (.ifCond .eq 12, 3) := by decide +kernel
theorem dX9_digits_30 : decode cX9_digits 30 = .ok (.iinc 1 1, 3) := by decide +kernel
theorem dX9_digits_33 : decode cX9_digits 33 = .ok (.iinc 2 1, 3) := by decide +kernel
theorem dX9_digits_36 : decode cX9_digits 36 = .ok (.goto (-32), 3) := by decide +kernel
theorem dX9_digits_39 : decode cX9_digits 39 = .ok (.iload_n 1, 1) := by decide +kernel
theorem dX9_digits_40 : decode cX9_digits 40 = .ok (.ireturn, 1) := by decide +kernel
theorem dX9_number_0 : decode cX9_number 0 = .ok (.iconst 0, 1) := by decide +kernel
theorem dX9_number_1 : decode cX9_number 1 = .ok (.istore_n 2, 1) := by decide +kernel
theorem dX9_number_2 : decode cX9_number 2 = .ok (.iconst 0, 1) := by decide +kernel
theorem dX9_number_3 : decode cX9_number 3 = .ok (.istore_n 3, 1) := by decide +kernel
theorem dX9_number_4 : decode cX9_number 4 = .ok (.iload_n 3, 1) := by decide +kernel
theorem dX9_number_5 : decode cX9_number 5 = .ok (.iload_n 1, 1) := by decide +kernel
theorem dX9_number_6 : decode cX9_number 6 = .ok (.if_icmp .ge 31, 3) := by decide +kernel
theorem dX9_number_9 : decode cX9_number 9 = .ok (.iload_n 2, 1) := by decide +kernel
theorem dX9_number_10 : decode cX9_number 10 = .ok (.bipush 10, 2) := by decide +kernel
theorem dX9_number_12 : decode cX9_number 12 = .ok (.imul, 1) := by decide +kernel
theorem dX9_number_13 : decode cX9_number 13 = .ok (.aload_n 0, 1) := by decide +kernel
theorem dX9_number_14 : decode cX9_number 14 = .ok (.getfield 19, 3) := by decide +kernel
theorem dX9_number_17 : decode cX9_number 17 = .ok (.aload_n 0, 1) := by decide +kernel
theorem dX9_number_18 : decode cX9_number 18 = .ok (.getfield 33, 3) := by decide +kernel
theorem dX9_number_21 : decode cX9_number 21 = .ok (.iload_n 3, 1) := by decide +kernel
theorem dX9_number_22 : decode cX9_number 22 = .ok (.iadd, 1) := by decide +kernel
theorem dX9_number_23 : decode cX9_number 23 = .ok (.invokevirtual 50, 3) := by decide +kernel
theorem dX9_number_26 : decode cX9_number 26 = .ok (.iadd, 1) := by decide +kernel
theorem dX9_number_27 : decode cX9_number 27 = .ok (.bipush 48, 2) := by decide +kernel
theorem dX9_number_29 : decode cX9_number 29 = .ok (.isub, 1) := by decide +kernel
theorem dX9_number_30 : decode cX9_number 30 = .ok (.istore_n 2, 1) := by decide +kernel
theorem dX9_number_31 : decode cX9_number 31 = .ok (.iinc 3 1, 3) := by decide +kernel
theorem dX9_number_34 : decode cX9_number 34 = .ok (.goto (-30), 3) := by decide +kernel
theorem dX9_number_37 : decode cX9_number 37 = .ok (.iload_n 2, 1) := by decide +kernel
theorem dX9_number_38 : decode cX9_number 38 = .ok (.ireturn, 1) := by decide +kernel
theorem dX9_wordOrName_0 : decode cX9_wordOrName 0 = .ok (.iconst 0, 1) := by decide +kernel
theorem dX9_wordOrName_1 : decode cX9_wordOrName 1 = .ok (.istore_n 2, 1) := by decide +kernel
theorem dX9_wordOrName_2 : decode cX9_wordOrName 2 = .ok (.iload_n 2, 1) := by decide +kernel
theorem dX9_wordOrName_3 : decode cX9_wordOrName 3 = .ok (.bipush 23, 2) := by decide +kernel
theorem dX9_wordOrName_5 : decode cX9_wordOrName 5 = .ok (.if_icmp .ge 26, 3) := by decide +kernel
theorem dX9_wordOrName_8 : decode cX9_wordOrName 8 = .ok (.iload_n 1, 1) := by decide +kernel
theorem dX9_wordOrName_9 : decode cX9_wordOrName 9 = .ok (.bipush 6, 2) := by decide +kernel
theorem dX9_wordOrName_11 : decode cX9_wordOrName 11 = .ok (.if_icmp .gt 20, 3) := by decide +kernel
theorem dX9_wordOrName_14 : decode cX9_wordOrName 14 = .ok (.aload_n 0, 1) := by decide +kernel
theorem dX9_wordOrName_15 : decode cX9_wordOrName 15 = .ok (.iload_n 2, 1) := by decide +kernel
theorem dX9_wordOrName_16 : decode cX9_wordOrName 16 = .ok (.iload_n 1, 1) := by decide +kernel
theorem dX9_wordOrName_17 : decode cX9_wordOrName 17 = .ok (.invokevirtual 87, 3) := by decide +kernel
theorem dX9_wordOrName_20 : decode cX9_wordOrName 20 = .ok (.ifCond .eq 5, 3) := by decide +kernel
theorem dX9_wordOrName_23 : decode cX9_wordOrName 23 = .ok (.iload_n 2, 1) := by decide +kernel
theorem dX9_wordOrName_24 : decode cX9_wordOrName 24 = .ok (.ireturn, 1) := by decide +kernel
theorem dX9_wordOrName_25 : decode cX9_wordOrName 25 = .ok (.iinc 2 1, 3) := by decide +kernel
theorem dX9_wordOrName_28 : decode cX9_wordOrName 28 = .ok (.goto (-26), 3) := by decide +kernel
theorem dX9_wordOrName_31 : decode cX9_wordOrName 31 = .ok (.bipush 23, 2) := by decide +kernel
theorem dX9_wordOrName_33 : decode cX9_wordOrName 33 = .ok (.ireturn, 1) := by decide +kernel
theorem dX9_isWord_0 : decode cX9_isWord 0 = .ok (.iconst 1, 1) := by decide +kernel
theorem dX9_isWord_1 : decode cX9_isWord 1 = .ok (.istore_n 3, 1) := by decide +kernel
theorem dX9_isWord_2 : decode cX9_isWord 2 = .ok (.iconst 0, 1) := by decide +kernel
theorem dX9_isWord_3 : decode cX9_isWord 3 = .ok (.istore 4, 2) := by decide +kernel
theorem dX9_isWord_5 : decode cX9_isWord 5 = .ok (.iload 4, 2) := by decide +kernel
theorem dX9_isWord_7 : decode cX9_isWord 7 = .ok (.bipush 6, 2) := by decide +kernel
theorem dX9_isWord_9 : decode cX9_isWord 9 = .ok (.if_icmp .ge 63, 3) := by decide +kernel
theorem dX9_isWord_12 : decode cX9_isWord 12 = .ok (.iload_n 3, 1) := by decide +kernel
theorem dX9_isWord_13 : decode cX9_isWord 13 = .ok (.ifCond .eq 59, 3) := by decide +kernel
theorem dX9_isWord_16 : decode cX9_isWord 16 = .ok (.iload 4, 2) := by decide +kernel
theorem dX9_isWord_18 : decode cX9_isWord 18 = .ok (.iload_n 2, 1) := by decide +kernel
theorem dX9_isWord_19 : decode cX9_isWord 19 = .ok (.if_icmp .ge 20, 3) := by decide +kernel
theorem dX9_isWord_22 : decode cX9_isWord 22 = .ok (.aload_n 0, 1) := by decide +kernel
theorem dX9_isWord_23 : decode cX9_isWord 23 = .ok (.getfield 19, 3) := by decide +kernel
theorem dX9_isWord_26 : decode cX9_isWord 26 = .ok (.aload_n 0, 1) := by decide +kernel
theorem dX9_isWord_27 : decode cX9_isWord 27 = .ok (.getfield 33, 3) := by decide +kernel
theorem dX9_isWord_30 : decode cX9_isWord 30 = .ok (.iload 4, 2) := by decide +kernel
theorem dX9_isWord_32 : decode cX9_isWord 32 = .ok (.iadd, 1) := by decide +kernel
theorem dX9_isWord_33 : decode cX9_isWord 33 = .ok (.invokevirtual 50, 3) := by decide +kernel
theorem dX9_isWord_36 : decode cX9_isWord 36 = .ok (.goto 5, 3) := by decide +kernel
theorem dX9_isWord_39 : decode cX9_isWord 39 = .ok (.bipush 32, 2) := by decide +kernel
theorem dX9_isWord_41 : decode cX9_isWord 41 = .ok (.istore 5, 2) := by decide +kernel
theorem dX9_isWord_43 : decode cX9_isWord 43 = .ok (.ldc 91, 2) := by decide +kernel
theorem dX9_isWord_45 : decode cX9_isWord 45 = .ok (.iload_n 1, 1) := by decide +kernel
theorem dX9_isWord_46 : decode cX9_isWord 46 = .ok (.bipush 6, 2) := by decide +kernel
theorem dX9_isWord_48 : decode cX9_isWord 48 = .ok (.imul, 1) := by decide +kernel
theorem dX9_isWord_49 : decode cX9_isWord 49 = .ok (.iload 4, 2) := by decide +kernel
theorem dX9_isWord_51 : decode cX9_isWord 51 = .ok (.iadd, 1) := by decide +kernel
theorem dX9_isWord_52 : decode cX9_isWord 52 = .ok (.invokevirtual 93, 3) := by decide +kernel
theorem dX9_isWord_55 : decode cX9_isWord 55 = .ok (.iload 5, 2) := by decide +kernel
theorem dX9_isWord_57 : decode cX9_isWord 57 = .ok (.if_icmp .ne 7, 3) := by decide +kernel
theorem dX9_isWord_60 : decode cX9_isWord 60 = .ok (.iconst 1, 1) := by decide +kernel
theorem dX9_isWord_61 : decode cX9_isWord 61 = .ok (.goto 4, 3) := by decide +kernel
theorem dX9_isWord_64 : decode cX9_isWord 64 = .ok (.iconst 0, 1) := by decide +kernel
theorem dX9_isWord_65 : decode cX9_isWord 65 = .ok (.istore_n 3, 1) := by decide +kernel
theorem dX9_isWord_66 : decode cX9_isWord 66 = .ok (.iinc 4 1, 3) := by decide +kernel
theorem dX9_isWord_69 : decode cX9_isWord 69 = .ok (.goto (-64), 3) := by decide +kernel
theorem dX9_isWord_72 : decode cX9_isWord 72 = .ok (.iload_n 3, 1) := by decide +kernel
theorem dX9_isWord_73 : decode cX9_isWord 73 = .ok (.ireturn, 1) := by decide +kernel
theorem dX9_isBlank_0 : decode cX9_isBlank 0 = .ok (.iload_n 0, 1) := by decide +kernel
theorem dX9_isBlank_1 : decode cX9_isBlank 1 = .ok (.bipush 9, 2) := by decide +kernel
theorem dX9_isBlank_3 : decode cX9_isBlank 3 = .ok (.if_icmp .eq 21, 3) := by decide +kernel
theorem dX9_isBlank_6 : decode cX9_isBlank 6 = .ok (.iload_n 0, 1) := by decide +kernel
theorem dX9_isBlank_7 : decode cX9_isBlank 7 = .ok (.bipush 10, 2) := by decide +kernel
theorem dX9_isBlank_9 : decode cX9_isBlank 9 = .ok (.if_icmp .eq 15, 3) := by decide +kernel
theorem dX9_isBlank_12 : decode cX9_isBlank 12 = .ok (.iload_n 0, 1) := by decide +kernel
theorem dX9_isBlank_13 : decode cX9_isBlank 13 = .ok (.bipush 13, 2) := by decide +kernel
theorem dX9_isBlank_15 : decode cX9_isBlank 15 = .ok (.if_icmp .eq 9, 3) := by decide +kernel
theorem dX9_isBlank_18 : decode cX9_isBlank 18 = .ok (.iload_n 0, 1) := by decide +kernel
theorem dX9_isBlank_19 : decode cX9_isBlank 19 = .ok (.bipush 32, 2) := by decide +kernel
theorem dX9_isBlank_21 : decode cX9_isBlank 21 = .ok (.if_icmp .ne 7, 3) := by decide +kernel
theorem dX9_isBlank_24 : decode cX9_isBlank 24 = .ok (.iconst 1, 1) := by decide +kernel
theorem dX9_isBlank_25 : decode cX9_isBlank 25 = .ok (.goto 4, 3) := by decide +kernel
theorem dX9_isBlank_28 : decode cX9_isBlank 28 = .ok (.iconst 0, 1) := by decide +kernel
theorem dX9_isBlank_29 : decode cX9_isBlank 29 = .ok (.ireturn, 1) := by decide +kernel
theorem dX9_isLetter_0 : decode cX9_isLetter 0 = .ok (.iload_n 0, 1) := by decide +kernel
theorem dX9_isLetter_1 : decode cX9_isLetter 1 = .ok (.bipush 97, 2) := by decide +kernel
theorem dX9_isLetter_3 : decode cX9_isLetter 3 = .ok (.if_icmp .lt 13, 3) := by decide +kernel
theorem dX9_isLetter_6 : decode cX9_isLetter 6 = .ok (.iload_n 0, 1) := by decide +kernel
theorem dX9_isLetter_7 : decode cX9_isLetter 7 = .ok (.bipush 122, 2) := by decide +kernel
theorem dX9_isLetter_9 : decode cX9_isLetter 9 = .ok (.if_icmp .gt 7, 3) := by decide +kernel
theorem dX9_isLetter_12 : decode cX9_isLetter 12 = .ok (.iconst 1, 1) := by decide +kernel
theorem dX9_isLetter_13 : decode cX9_isLetter 13 = .ok (.goto 4, 3) := by decide +kernel
theorem dX9_isLetter_16 : decode cX9_isLetter 16 = .ok (.iconst 0, 1) := by decide +kernel
theorem dX9_isLetter_17 : decode cX9_isLetter 17 = .ok (.ireturn, 1) := by decide +kernel
theorem dX9_isDigit_0 : decode cX9_isDigit 0 = .ok (.iload_n 0, 1) := by decide +kernel
theorem dX9_isDigit_1 : decode cX9_isDigit 1 = .ok (.bipush 48, 2) := by decide +kernel
theorem dX9_isDigit_3 : decode cX9_isDigit 3 = .ok (.if_icmp .lt 13, 3) := by decide +kernel
theorem dX9_isDigit_6 : decode cX9_isDigit 6 = .ok (.iload_n 0, 1) := by decide +kernel
theorem dX9_isDigit_7 : decode cX9_isDigit 7 = .ok (.bipush 57, 2) := by decide +kernel
theorem dX9_isDigit_9 : decode cX9_isDigit 9 = .ok (.if_icmp .gt 7, 3) := by decide +kernel
theorem dX9_isDigit_12 : decode cX9_isDigit 12 = .ok (.iconst 1, 1) := by decide +kernel
theorem dX9_isDigit_13 : decode cX9_isDigit 13 = .ok (.goto 4, 3) := by decide +kernel
theorem dX9_isDigit_16 : decode cX9_isDigit 16 = .ok (.iconst 0, 1) := by decide +kernel
theorem dX9_isDigit_17 : decode cX9_isDigit 17 = .ok (.ireturn, 1) := by decide +kernel
theorem dX10_init_0 : decode cX10_init 0 = .ok (.aload_n 0, 1) := by decide +kernel
theorem dX10_init_1 : decode cX10_init 1 = .ok (.invokespecial 3, 3) := by decide +kernel
theorem dX10_init_4 : decode cX10_init 4 = .ok (.aload_n 0, 1) := by decide +kernel
theorem dX10_init_5 : decode cX10_init 5 = .ok (.bipush 7, 2) := by decide +kernel
theorem dX10_init_7 : decode cX10_init 7 = .ok (.newarray .int, 2) := by decide +kernel
theorem dX10_init_9 : decode cX10_init 9 = .ok (.putfield 9, 3) := by decide +kernel
theorem dX10_init_12 : decode cX10_init 12 = .ok (.aload_n 0, 1) := by decide +kernel
theorem dX10_init_13 : decode cX10_init 13 = .ok (.bipush 7, 2) := by decide +kernel
theorem dX10_init_15 : decode cX10_init 15 = .ok (.newarray .int, 2) := by decide +kernel
theorem dX10_init_17 : decode cX10_init 17 = .ok (.putfield 15, 3) := by decide +kernel
theorem dX10_init_20 : decode cX10_init 20 = .ok (.aload_n 0, 1) := by decide +kernel
theorem dX10_init_21 : decode cX10_init 21 = .ok (.bipush 7, 2) := by decide +kernel
theorem dX10_init_23 : decode cX10_init 23 = .ok (.newarray .int, 2) := by decide +kernel
theorem dX10_init_25 : decode cX10_init 25 = .ok (.putfield 18, 3) := by decide +kernel
theorem dX10_init_28 : decode cX10_init 28 = .ok (.aload_n 0, 1) := by decide +kernel
theorem dX10_init_29 : decode cX10_init 29 = .ok (.bipush 7, 2) := by decide +kernel
theorem dX10_init_31 : decode cX10_init 31 = .ok (.newarray .int, 2) := by decide +kernel
theorem dX10_init_33 : decode cX10_init 33 = .ok (.putfield 21, 3) := by decide +kernel
theorem dX10_init_36 : decode cX10_init 36 = .ok (.aload_n 0, 1) := by decide +kernel
theorem dX10_init_37 : decode cX10_init 37 = .ok (.bipush 7, 2) := by decide +kernel
theorem dX10_init_39 : decode cX10_init 39 = .ok (.newarray .int, 2) := by decide +kernel
theorem dX10_init_41 : decode cX10_init 41 = .ok (.putfield 24, 3) := by decide +kernel
theorem dX10_init_44 : decode cX10_init 44 = .ok (.aload_n 0, 1) := by decide +kernel
theorem dX10_init_45 : decode cX10_init 45 = .ok (.iconst 5, 1) := by decide +kernel
theorem dX10_init_46 : decode cX10_init 46 = .ok (.newarray .int, 2) := by decide +kernel
theorem dX10_init_48 : decode cX10_init 48 = .ok (.putfield 27, 3) := by decide +kernel
theorem dX10_init_51 : decode cX10_init 51 = .ok (.aload_n 0, 1) := by decide +kernel
theorem dX10_init_52 : decode cX10_init 52 = .ok (.new 30, 3) := by decide +kernel
theorem dX10_init_55 : decode cX10_init 55 = .ok (.dup, 1) := by decide +kernel
theorem dX10_init_56 : decode cX10_init 56 = .ok (.invokespecial 32, 3) := by decide +kernel
theorem dX10_init_59 : decode cX10_init 59 = .ok (.putfield 33, 3) := by decide +kernel
theorem dX10_init_62 : decode cX10_init 62 = .ok (.aload_n 0, 1) := by decide +kernel
theorem dX10_init_63 : decode cX10_init 63 = .ok (.invokevirtual 37, 3) := by decide +kernel
theorem dX10_init_66 : decode cX10_init 66 = .ok (.return_, 1) := by decide +kernel
theorem dX10_clear_0 : decode cX10_clear 0 = .ok (.aload_n 0, 1) := by decide +kernel
theorem dX10_clear_1 : decode cX10_clear 1 = .ok (.iconst 0, 1) := by decide +kernel
theorem dX10_clear_2 : decode cX10_clear 2 = .ok (.putfield 40, 3) := by decide +kernel
theorem dX10_clear_5 : decode cX10_clear 5 = .ok (.aload_n 0, 1) := by decide +kernel
theorem dX10_clear_6 : decode cX10_clear 6 = .ok (.iconst 0, 1) := by decide +kernel
theorem dX10_clear_7 : decode cX10_clear 7 = .ok (.putfield 44, 3) := by decide +kernel
theorem dX10_clear_10 : decode cX10_clear 10 = .ok (.aload_n 0, 1) := by decide +kernel
theorem dX10_clear_11 : decode cX10_clear 11 = .ok (.iconst 0, 1) := by decide +kernel
theorem dX10_clear_12 : decode cX10_clear 12 = .ok (.putfield 47, 3) := by decide +kernel
theorem dX10_clear_15 : decode cX10_clear 15 = .ok (.aload_n 0, 1) := by decide +kernel
theorem dX10_clear_16 : decode cX10_clear 16 = .ok (.bipush 20, 2) := by decide +kernel
theorem dX10_clear_18 : decode cX10_clear 18 = .ok (.putfield 50, 3) := by decide +kernel
theorem dX10_clear_21 : decode cX10_clear 21 = .ok (.aload_n 0, 1) := by decide +kernel
theorem dX10_clear_22 : decode cX10_clear 22 = .ok (.iconst 0, 1) := by decide +kernel
theorem dX10_clear_23 : decode cX10_clear 23 = .ok (.putfield 53, 3) := by decide +kernel
theorem dX10_clear_26 : decode cX10_clear 26 = .ok (.aload_n 0, 1) := by decide +kernel
theorem dX10_clear_27 : decode cX10_clear 27 = .ok (.iconst 0, 1) := by decide +kernel
theorem dX10_clear_28 : decode cX10_clear 28 = .ok (.putfield 56, 3) := by decide +kernel
theorem dX10_clear_31 : decode cX10_clear 31 = .ok (.aload_n 0, 1) := by decide +kernel
theorem dX10_clear_32 : decode cX10_clear 32 = .ok (.getfield 33, 3) := by decide +kernel
theorem dX10_clear_35 : decode cX10_clear 35 = .ok (.invokevirtual 59, 3) := by decide +kernel
theorem dX10_clear_38 : decode cX10_clear 38 = .ok (.return_, 1) := by decide +kernel
theorem dX10_allHunger_0 : decode cX10_allHunger 0 = .ok (.iconst 0, 1) := by decide +kernel
theorem dX10_allHunger_1 : decode cX10_allHunger 1 = .ok (.istore_n 1, 1) := by decide +kernel
theorem dX10_allHunger_2 : decode cX10_allHunger 2 = .ok (.iconst 0, 1) := by decide +kernel
theorem dX10_allHunger_3 : decode cX10_allHunger 3 = .ok (.istore_n 2, 1) := by decide +kernel
theorem dX10_allHunger_4 : decode cX10_allHunger 4 = .ok (.iload_n 2, 1) := by decide +kernel
theorem dX10_allHunger_5 : decode cX10_allHunger 5 = .ok (.aload_n 0, 1) := by decide +kernel
theorem dX10_allHunger_6 : decode cX10_allHunger 6 = .ok (.getfield 40, 3) := by decide +kernel
theorem dX10_allHunger_9 : decode cX10_allHunger 9 = .ok (.if_icmp .ge 18, 3) := by decide +kernel
theorem dX10_allHunger_12 : decode cX10_allHunger 12 = .ok (.iload_n 1, 1) := by decide +kernel
theorem dX10_allHunger_13 : decode cX10_allHunger 13 = .ok (.aload_n 0, 1) := by decide +kernel
theorem dX10_allHunger_14 : decode cX10_allHunger 14 = .ok (.getfield 18, 3) := by decide +kernel
theorem dX10_allHunger_17 : decode cX10_allHunger 17 = .ok (.iload_n 2, 1) := by decide +kernel
theorem dX10_allHunger_18 : decode cX10_allHunger 18 = .ok (.iaload, 1) := by decide +kernel
theorem dX10_allHunger_19 : decode cX10_allHunger 19 = .ok (.iadd, 1) := by decide +kernel
theorem dX10_allHunger_20 : decode cX10_allHunger 20 = .ok (.istore_n 1, 1) := by decide +kernel
theorem dX10_allHunger_21 : decode cX10_allHunger 21 = .ok (.iinc 2 1, 3) := by decide +kernel
theorem dX10_allHunger_24 : decode cX10_allHunger 24 = .ok (.goto (-20), 3) := by decide +kernel
theorem dX10_allHunger_27 : decode cX10_allHunger 27 = .ok (.iload_n 1, 1) := by decide +kernel
theorem dX10_allHunger_28 : decode cX10_allHunger 28 = .ok (.ireturn, 1) := by decide +kernel
